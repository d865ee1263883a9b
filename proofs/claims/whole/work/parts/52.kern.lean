/-! COUNTING in the kernel: who is joined, four bits a crossing -/
noncomputable def dg (F q : Nat) : Nat := Nat.mod (Nat.shiftRight F (Nat.mul 4 q)) 16
theorem dg_or (A B q : Nat) : dg (A ||| B) q = dg A q ||| dg B q := by
  show (A ||| B) >>> (4 * q) % 2 ^ 4 = (A >>> (4 * q)) % 2 ^ 4 ||| (B >>> (4 * q)) % 2 ^ 4
  rw [Nat.shiftRight_or_distrib, Nat.or_mod_two_pow]
set_option maxRecDepth 20000 in
theorem dg_sh : ∀ x s q : Fin 16, dg (Nat.shiftLeft x.val (Nat.mul 4 s.val)) q.val = if q.val = s.val then x.val else 0 := by decide +kernel
theorem dg_sh2 {x s q : Nat} (hx : x < 16) (hs : s < 16) (hq : q < 16) : dg (Nat.shiftLeft x (Nat.mul 4 s)) q = if q = s then x else 0 := dg_sh ⟨x, hx⟩ ⟨s, hs⟩ ⟨q, hq⟩
noncomputable def pk (acc p s : Nat) : Nat := Nat.lor acc (Nat.lor (Nat.shiftLeft p (Nat.mul 4 s)) (Nat.shiftLeft s (Nat.mul 4 p)))
theorem dg_pk {acc p s q : Nat} (hp : p < 16) (hs : s < 16) (hq : q < 16) (hne : s ≠ p) (h1 : dg acc s = 0) (h2 : dg acc p = 0) : dg (pk acc p s) q = if q = s then p else if q = p then s else dg acc q := by
  show dg (acc ||| (Nat.shiftLeft p (Nat.mul 4 s) ||| Nat.shiftLeft s (Nat.mul 4 p))) q = _
  rw [dg_or, dg_or, dg_sh2 hp hs hq, dg_sh2 hs hp hq]
  by_cases e : q = s
  · rw [if_pos e, if_pos e, e, h1, if_neg hne]; simp
  · rw [if_neg e, if_neg e]
    by_cases e2 : q = p
    · rw [if_pos e2, if_pos e2, e2, h2]; simp
    · rw [if_neg e2, if_neg e2]; simp
/-- all rows of arches in the order of their ranks: l crossings to come, p the next, the + that are free, who is joined -/
noncomputable def PLr (l : Nat) : Nat → List Nat → Nat → List Nat := Nat.rec (motive := fun _ => Nat → List Nat → Nat → List Nat) (fun _ st acc => List.rec (motive := fun _ => List Nat) [acc] (fun _ _ _ => []) st) (fun _ ih p st acc => ih (Nat.succ p) (p :: st) acc ++ List.rec (motive := fun _ => List Nat) [] (fun s t _ => ih (Nat.succ p) t (pk acc p s)) st) l
theorem PLr_0 (p acc : Nat) : PLr 0 p [] acc = [acc] := rfl
theorem PLr_1 (p s : Nat) (t : List Nat) (acc : Nat) : PLr 0 p (s :: t) acc = [] := rfl
theorem PLr_n (l p acc : Nat) : PLr (l + 1) p [] acc = PLr l (p + 1) [p] acc ++ [] := rfl
theorem PLr_c (l p s : Nat) (t : List Nat) (acc : Nat) : PLr (l + 1) p (s :: t) acc = PLr l (p + 1) (p :: s :: t) acc ++ PLr l (p + 1) t (pk acc p s) := rfl
theorem PLr_len : ∀ (l p : Nat) (st : List Nat) (acc : Nat), ((PLr l p st acc).length : Int) = En l st.length
  | 0, p, [], acc => rfl
  | 0, p, s :: t, acc => by
    rw [PLr_1, En_far 0 _ (by rw [List.length_cons]; omega)]; rfl
  | l + 1, p, [], acc => by
    rw [PLr_n, List.append_nil, PLr_len l]
    show En l 1 = En l (0 + 1) + (if 0 < 0 then En l (0 - 1) else 0)
    rw [if_neg (by omega)]; simp
  | l + 1, p, s :: t, acc => by
    rw [PLr_c, List.length_append, Int.natCast_add, PLr_len l, PLr_len l]
    show En l (t.length + 1 + 1) + En l t.length = En l (t.length + 1 + 1) + (if 0 < t.length + 1 then En l (t.length + 1 - 1) else 0)
    rw [if_pos (by omega)]; rfl
theorem stk_ne {a : Nat → Int} {p : Nat} (h : stk a p ≠ []) : ∃ s r, stk a p = s :: r := by
  cases e : stk a p with
  | nil => exact absurd e h
  | cons s r => exact ⟨s, r, rfl⟩
theorem jn_zero {a : Nat → Int} : ∀ {p : Nat}, nof a p → ∀ q, (p ≤ q ∨ q ∈ stk a p) → jn a (fun _ => 0) p q = 0
  | 0, _, q, _ => rfl
  | p + 1, hn, q, h => by
    have ih := jn_zero (nof_mono hn (Nat.le_succ p))
    by_cases hp : 0 < a p
    · rw [jn_plus hp]
      rw [stk_plus hp] at h
      refine ih q ?_
      rcases h with h | h
      · exact Or.inl (by omega)
      · rcases List.mem_cons.mp h with h | h
        · exact Or.inl (by omega)
        · exact Or.inr h
    · obtain ⟨s, r, hs⟩ := stk_ne ((hn p (by omega)).resolve_left hp)
      rw [jn_minus hp hs]
      rw [stk_minus hp, hs, List.tail_cons] at h
      have hsp := stk_lt (show s ∈ stk a p by rw [hs]; exact List.mem_cons_self)
      have hnd := stk_nodup (a := a) p
      rw [hs] at hnd
      have h1 : q ≠ s := by
        rcases h with h | h
        · omega
        · intro e; rw [e] at h; exact (List.nodup_cons.mp hnd).1 h
      have h2 : q ≠ p := by
        rcases h with h | h
        · omega
        · have := (stk_lt (show q ∈ stk a p by rw [hs]; exact List.mem_cons_of_mem _ h)).1
          omega
      simp only [upf, if_neg h1, if_neg h2]
      refine ih q ?_
      rcases h with h | h
      · exact Or.inl (by omega)
      · exact Or.inr (by rw [hs]; exact List.mem_cons_of_mem _ h)
theorem PLr_get {n : Nat} {i : Int} (hn : n ≤ 7) (h : 0 ≤ i ∧ i < En (2 * n) 0) : ∀ (l p acc : Nat), p + l = 2 * n → (∀ q, q < 16 → (dg acc q : Int) = jn (tls n i) (fun _ => 0) p q) → ∃ F, (PLr l p (stk (tls n i) p) acc)[(tlS n i p).1.toNat]? = some F ∧ ∀ q, q < 2 * n → (dg F q : Int) = pt (tls n i) n q
  | 0, p, acc, hp, hd => by
    have e : p = 2 * n := by omega
    rw [e] at hd ⊢
    have ha := tls_arch h
    have h1 := tlS_inv h (2 * n) (Nat.le_refl _)
    rw [ha.2, PLr_0]
    have e0 : (tlS n i (2 * n)).1.toNat = 0 := by
      have h2 := (En_rng (2 * n - 2 * n) (tlS n i (2 * n)).2.toNat).2
      rw [Nat.sub_self] at h2 h1
      have e9 : (2 : Int) ^ 0 = 1 := rfl
      omega
    rw [e0]
    exact ⟨acc, rfl, fun q hq => by rw [hd q (by omega)]; rfl⟩
  | l + 1, p, acc, hp, hd => by
    have ha := tls_arch h
    have hiv := tlS_inv h p (by omega)
    have hnp := nof_mono ha.1 (show p ≤ 2 * n by omega)
    have hst := ht_stk hnp
    have e1 : tlS n i (p + 1) = if (tlS n i p).1 < En (2 * n - p - 1) ((tlS n i p).2 + 1).toNat then ((tlS n i p).1, (tlS n i p).2 + 1) else ((tlS n i p).1 - En (2 * n - p - 1) ((tlS n i p).2 + 1).toNat, (tlS n i p).2 - 1) := rfl
    have e3 : tls n i p = if (tlS n i p).1 < En (2 * n - p - 1) ((tlS n i p).2 + 1).toNat then 1 else -1 := rfl
    have hh : ((tlS n i p).2 + 1).toNat = (stk (tls n i) p).length + 1 := by omega
    rw [show 2 * n - p - 1 = l by omega, hh] at e1 e3
    have hlen := PLr_len l (p + 1) (p :: stk (tls n i) p) acc
    rw [List.length_cons] at hlen
    by_cases hu : (tlS n i p).1 < En l ((stk (tls n i) p).length + 1)
    · rw [if_pos hu] at e1 e3
      have hpos : 0 < tls n i p := by rw [e3]; decide
      have ih := PLr_get hn h l (p + 1) acc (by omega) (fun q hq => by rw [jn_plus hpos]; exact hd q hq)
      rw [stk_plus hpos, e1] at ih
      dsimp only at ih
      obtain ⟨F, g1, g2⟩ := ih
      refine ⟨F, ?_, g2⟩
      cases es : stk (tls n i) p with
      | nil => rw [es] at g1; rw [PLr_n, List.append_nil]; exact g1
      | cons s t =>
        rw [es] at g1 hlen hu
        rw [PLr_c, List.getElem?_append_left (by omega)]; exact g1
    · rw [if_neg hu] at e1 e3
      have hneg : ¬ 0 < tls n i p := by rw [e3]; decide
      obtain ⟨s, t, es⟩ := stk_ne ((ha.1 p (by omega)).resolve_left hneg)
      have hsm : s ∈ stk (tls n i) p := by rw [es]; exact List.mem_cons_self
      have hs := stk_lt hsm
      have z1 : dg acc s = 0 := by
        have := hd s (by omega)
        rw [jn_zero hnp s (Or.inr hsm)] at this
        omega
      have z2 : dg acc p = 0 := by
        have := hd p (by omega)
        rw [jn_zero hnp p (Or.inl (Nat.le_refl p))] at this
        omega
      have ih := PLr_get hn h l (p + 1) (pk acc p s) (by omega) (fun q hq => by
        rw [dg_pk (by omega) (by omega) hq (by omega) z1 z2, jn_minus hneg es]
        unfold upf
        by_cases e : q = s
        · rw [if_pos e, if_pos e]
        · rw [if_neg e, if_neg e]
          by_cases e2 : q = p
          · rw [if_pos e2, if_pos e2]
          · rw [if_neg e2, if_neg e2]; exact hd q hq)
      rw [stk_minus hneg, es, List.tail_cons, e1] at ih
      dsimp only at ih
      obtain ⟨F, g1, g2⟩ := ih
      refine ⟨F, ?_, g2⟩
      rw [es] at hlen hu g1 ⊢
      rw [PLr_c, List.getElem?_append_right (by omega)]
      rw [show (tlS n i p).1.toNat - (PLr l (p + 1) (p :: s :: t) acc).length = ((tlS n i p).1 - En l ((s :: t).length + 1)).toNat by omega]
      exact g1
noncomputable def PL (n : Nat) : List Nat := PLr (Nat.mul 2 n) 0 [] 0
theorem PL_len (n : Nat) : ((PL n).length : Int) = En (2 * n) 0 := PLr_len (2 * n) 0 [] 0
set_option maxRecDepth 20000 in
theorem dg_0 : ∀ q : Fin 16, dg 0 q.val = 0 := by decide +kernel
theorem PL_get {n i : Nat} (hn : n ≤ 7) (hi : (i : Int) < En (2 * n) 0) : ∃ F, (PL n)[i]? = some F ∧ ∀ q, q < 2 * n → (dg F q : Int) = pt (tls n i) n q := by
  have := PLr_get (i := (i : Int)) hn ⟨by omega, hi⟩ (2 * n) 0 0 (by omega) (fun q hq => by
    have h0 := dg_0 ⟨q, hq⟩
    show ((dg 0 q : Nat) : Int) = 0
    have : dg 0 q = 0 := h0
    omega)
  exact this
