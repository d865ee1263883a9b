theorem cv_cat (E : Ev) (v : MV) : (cv E v).category = (match v with | .inr (.inl _) => 2 | _ => 1) := by
  rcases v with z | z | o | k
  · rfl
  · rfl
  · cases o <;> rfl
  · rfl
theorem lsOf_len (E : Ev) : ∀ as : List MV, (lg_sl (as.map (cv E))).length = (lsOf as).length
  | [] => rfl
  | .inr (.inl z) :: t => by
    have ih := lsOf_len E t
    simp only [lg_sl] at ih
    simp only [List.map_cons, lg_sl, List.flatMap_cons, List.length_append, lsOf, List.length_cons, ih]
    simp [cv, Value.category]; omega
  | .inl z :: t => by
    have ih := lsOf_len E t
    simp only [lg_sl] at ih
    simp only [List.map_cons, lg_sl, List.flatMap_cons, List.length_append, lsOf, List.length_cons, ih]
    simp [cv, Value.category]; omega
  | .inr (.inr (.inl none)) :: t => by
    have ih := lsOf_len E t
    simp only [lg_sl] at ih
    simp only [List.map_cons, lg_sl, List.flatMap_cons, List.length_append, lsOf, List.length_cons, ih]
    simp [cv, Value.category]; omega
  | .inr (.inr (.inl (some a))) :: t => by
    have ih := lsOf_len E t
    simp only [lg_sl] at ih
    simp only [List.map_cons, lg_sl, List.flatMap_cons, List.length_append, lsOf, List.length_cons, ih]
    simp [cv, Value.category]; omega
  | .inr (.inr (.inr k)) :: t => by
    have ih := lsOf_len E t
    simp only [lg_sl] at ih
    simp only [List.map_cons, lg_sl, List.flatMap_cons, List.length_append, lsOf, List.length_cons, ih]
    simp [cv, Value.category]; omega
theorem lsOf_cons (v : MV) (t : List MV) : lsOf (v :: t) = (match v with | .inr (.inl z) => some (vL z) :: none :: lsOf t | w => some w :: lsOf t) := by
  rcases v with z | z | o | k <;> rfl
theorem lsOf_mem (E : Ev) : ∀ (as : List MV) (k i : Nat) (v : MV), lk (lsOf as) i = some v → (k + i, cv E v) ∈ lv_args k (as.map (cv E)) ∧ v ∈ as
  | [], k, i, v, h => by simp [lsOf, lk] at h
  | w :: t, k, i, v, h => by
    rw [List.map_cons, lv_args, cv_cat]
    rw [lsOf_cons] at h
    rcases w with z | z | o | q
    · match i, h with
      | 0, h => cases h; exact ⟨List.mem_cons_self, List.mem_cons_self⟩
      | i + 1, h =>
        have ih := lsOf_mem E t (k + 1) i v h
        refine ⟨List.mem_cons_of_mem _ ?_, List.mem_cons_of_mem _ ih.2⟩
        rw [show k + (i + 1) = k + 1 + i by omega]; exact ih.1
    · match i, h with
      | 0, h => cases h; exact ⟨List.mem_cons_self, List.mem_cons_self⟩
      | 1, h => cases h
      | i + 2, h =>
        have ih := lsOf_mem E t (k + 2) i v h
        refine ⟨List.mem_cons_of_mem _ ?_, List.mem_cons_of_mem _ ih.2⟩
        rw [show k + (i + 2) = k + 2 + i by omega]; exact ih.1
    · match i, h with
      | 0, h => cases h; exact ⟨List.mem_cons_self, List.mem_cons_self⟩
      | i + 1, h =>
        have ih := lsOf_mem E t (k + 1) i v h
        refine ⟨List.mem_cons_of_mem _ ?_, List.mem_cons_of_mem _ ih.2⟩
        rw [show k + (i + 1) = k + 1 + i by omega]; exact ih.1
    · match i, h with
      | 0, h => cases h; exact ⟨List.mem_cons_self, List.mem_cons_self⟩
      | i + 1, h =>
        have ih := lsOf_mem E t (k + 1) i v h
        refine ⟨List.mem_cons_of_mem _ ?_, List.mem_cons_of_mem _ ih.2⟩
        rw [show k + (i + 1) = k + 1 + i by omega]; exact ih.1
theorem LL_entry (E : Ev) (as : List MV) (nL : Nat) (hl : (lsOf as).length ≤ nL) (hok : ∀ v ∈ as, okV v) : LL E nL (lsOf as) ((lg_sl (as.map (cv E)) ++ List.replicate (nL - (lg_sl (as.map (cv E))).length) Slot.unset).toArray) := by
  have h := lv_entry (as.map (cv E)) (n := nL) (by rw [lsOf_len]; exact hl)
  refine ⟨h.1, h.2.1, fun i v hv => ?_⟩
  have hm := lsOf_mem E as 0 i v hv
  rw [Nat.zero_add] at hm
  exact ⟨h.2.2 _ hm.1, hok v hm.2⟩
theorem RW.lt {E : Ev} {h : MH} {sz a : Nat} {c : MC} {H : Heap} (hR : RW E h sz H) (ha : h a = some c) : a < sz := by
  have := (hR.2 a c ha).2.lt
  have h1 := hR.1
  simp only at this
  omega
theorem SF.base {E : Ev} {s : State} (h : SF E s) : eb E ≤ s.heap.size := h.2.2.2.2.2.2.2.2.1
theorem Ct.of {M : MD} {d mc ms : Nat} {as : List MV} {h : MH} {sz : Nat} {Q : QT} (hp : plainName M.1.cls = true) (hl : (lsOf as).length ≤ M.2.2.1) (hV : V M d 0 (lsOf as) [] h sz mc ms Q) : Ct M d mc ms as h sz Q := by
  intro l E
  refine Met.ofW (cc := M.2.1) (maxL := M.2.2.1) (ret := M.2.2.2) hp rfl ?_
  intro p e s m args below meth c s₁ B hml hv
  obtain ⟨rfl, hok, hSF, hRW⟩ := hv
  have hx := B.exec
  have hb := B.bytes
  have hr := B.returns
  have hown : s.vm.findClass M.1.cls = some m.cls := findClass_of_methodNamed B.named
  have hlocks := B.notSynchronized
  have hnm : meth.name = M.1.name := (name_of_methodNamed B.named B.method).1
  rw [lg_entry_eq]
  have hL := LL_entry E as M.2.2.1 hl hok
  refine hV p l e _ s m _ below meth c _ E (FR E h sz) mc ms ⟨⟨hx, hb, hml, hown, hnm⟩, hSF, ⟨fun q hq => Or.inr (by rw [← hRW.1]; exact hq), ?_⟩, ⟨Nat.le_refl _, Nat.le_refl _, Nat.le_refl _, Nat.le_refl _⟩, ?_⟩ s.heap [] 0 0 _ hRW (fun a c ha => Or.inl ⟨a, c, ha, rfl⟩) va_S.rf hL (fun v hv => by cases hv) (by omega) (by omega)
  · intro q hq
    rcases hq with ⟨a, c, -, rfl⟩ | hq
    · exact Nat.le_add_right _ _
    · omega
  · intro H locs lv pc r h2 sz2 hR2 hF2 hS2 hok2 hrt hQ hd
    have post : ∀ t : State, t.heap = H → s.WarmedH t.vm → cPost E h sz Q (as.map (cv E)).toArray s (.returned (r.map (cv E))) t := fun t ht hW => ⟨r, h2, sz2, rfl, hok2, hQ, by rw [ht]; exact hR2, hF2, by rw [ht]; exact hS2.1, by rw [ht]; exact hS2.2.1⟩
    rcases r with - | (z | z | o | k)
    · exact W.vret hx hb (by rw [hr]; exact hrt) post hS2.2.2 hd
    · rcases hrt with h1 | ⟨h1, h3⟩
      · exact W.iret hx hb (by rw [hr]; exact h1) post hS2.2.2 hd
      · refine W.zret (ty := .boolean) hx hb (by rw [hr]; exact h1) ?_ post hS2.2.2 hd
        rcases h3 with rfl | rfl <;> rfl
    · exact W.lret hx hb (by rw [hr]; exact hrt) post hS2.2.2 hd
    · have hv : cv E (.inr (.inr (.inl o))) = .null ∨ ∃ a, cv E (.inr (.inr (.inl o))) = .ref a := by
        cases o with
        | none => exact Or.inl rfl
        | some a => exact Or.inr ⟨_, rfl⟩
      rcases hrt with ⟨t, h1⟩ | ⟨t, h1⟩
      · exact W.aret (rt := .array t) hx hb (by rw [hr]; exact h1) (Or.inr ⟨t, rfl⟩) hv post hS2.2.2 hd
      · exact W.aret (rt := .object t) hx hb (by rw [hr]; exact h1) (Or.inl ⟨t, rfl⟩) hv post hS2.2.2 hd
    · have hv : cv E (.inr (.inr (.inr k))) = .null ∨ ∃ a, cv E (.inr (.inr (.inr k))) = .ref a := Or.inr ⟨_, rfl⟩
      rcases hrt with ⟨t, h1⟩ | ⟨t, h1⟩
      · exact W.aret (rt := .array t) hx hb (by rw [hr]; exact h1) (Or.inr ⟨t, rfl⟩) hv post hS2.2.2 hd
      · exact W.aret (rt := .object t) hx hb (by rw [hr]; exact h1) (Or.inl ⟨t, rfl⟩) hv post hS2.2.2 hd
