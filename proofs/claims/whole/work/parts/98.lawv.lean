/-! THE LAW: its walk, with the script at hand, printed by wip/whole/gen/lawv.py -/
abbrev GS : Type := Nat × Nat × (Nat → Int32)
/-- the script: where it stands, how long it is, what it holds -/
def SCR (g : GS) (s : State) (E : Ev) : Prop := E.2.2.2 0 = g.1 ∧ va_X g.1 g.2.1 g.2.2 s s.heap ∧ g.1 < s.heap.size ∧ ¬ eb E ≤ g.1
def VL (g : GS) (M : MD) (d pc : Nat) (ls : List (Option MV)) (st : List MV) (h : MH) (sz kc ks : Nat) (Q : QT) : Prop :=
  ∀ (p : Program) (l : Launch) (e : Env) (R : Room) (s : State) (m : MethodId) (args : Array Value) (below : List Frame) (meth : Method) (c : Code) (Z : State → Prop) (E : Ev) (F : Nat → Prop) (cM sM : Nat), SCR g s E →
    Cx p l e R s m args below meth c Z E F cM sM M d Q → ∀ (H : Heap) (locs : List Loc) (cells slots : Nat) (lv : Array Slot),
    RW E h sz H → (∀ a c, h a = some c → F (eb E + a)) → va_S F s.heap H locs → LL E M.2.2.1 ls lv → (∀ v ∈ st, okV v) → cells + kc ≤ cM → slots + ks ≤ sM →
    W p l e R s m args below meth c H locs cells slots Z (F0 m pc lv (st.map (cv E)))
section LAWR
variable {g : GS} {M : MD} {d pc : Nat} {ls : List (Option MV)} {st : List MV} {h : MH} {sz kc ks : Nat} {Q : QT}
theorem VL.stp {g : GS} {M : MD} {d pc pc2 : Nat} {ls : List (Option MV)} {st st2 : List MV} {h : MH} {sz kc ks : Nat} {Q : QT} (hs : StepS M pc pc2 st st2) (hok : (∀ v ∈ st, okV v) → ∀ v ∈ st2, okV v) (k : VL g M d pc2 ls st2 h sz kc ks Q) : VL g M d pc ls st h sz kc ks Q := by
  intro p l e R s m args below meth c Z E F cM sM hg9 C H locs cells slots lv hR hF hS hL hst h1 h2
  exact hs p l e R s m args below meth c Z E H locs cells slots lv C.1.1 C.1.2.1 hst (k p l e R s m args below meth c Z E F cM sM hg9 C H locs cells slots lv hR hF hS hL (hok hst) h1 h2)
theorem VL.aload_n {g : GS} {M : MD} {d pc : Nat} {ls : List (Option MV)} {st : List MV} {h : MH} {sz kc ks : Nat} {Q : QT} {n : Fin 4} {w : Option Nat ⊕ Nat} (i : Nat) (hd : decode M.2.1 pc = .ok (.aload_n n, 1)) (hn : (n : Nat) = i) (hi : lk ls i = some (.inr (.inr w))) (k : VL g M d (pc + 1) ls (.inr (.inr w) :: st) h sz kc ks Q) : VL g M d pc ls st h sz kc ks Q := by
  intro p l e R s m args below meth c Z E F cM sM hg9 C H locs cells slots lv hR hF hS hL hst h1 h2
  obtain ⟨⟨hx, hb, hml, hown, hnm⟩, hSF, hFF, hrm, hret⟩ := id C
  have hq := hL.2.2 i _ hi
  have kk := k p l e R s m args below meth c Z E F cM sM hg9 C H locs cells slots lv hR hF hS hL (okp hq.2 hst) h1 h2
  rcases w with (- | a) | a
  · exact lv_aload_nN hx hb hd hn hq.1 kk
  · exact lv_aload_n hx hb hd hn hq.1 kk
  · exact lv_aload_n hx hb hd hn hq.1 kk
theorem VL.iload_n {g : GS} {M : MD} {d pc : Nat} {ls : List (Option MV)} {st : List MV} {h : MH} {sz kc ks : Nat} {Q : QT} {n : Fin 4} {x : Int} (i : Nat) (hd : decode M.2.1 pc = .ok (.iload_n n, 1)) (hn : (n : Nat) = i) (hi : lk ls i = some (vI x)) (k : VL g M d (pc + 1) ls (vI x :: st) h sz kc ks Q) : VL g M d pc ls st h sz kc ks Q := by
  intro p l e R s m args below meth c Z E F cM sM hg9 C H locs cells slots lv hR hF hS hL hst h1 h2
  obtain ⟨⟨hx, hb, hml, hown, hnm⟩, hSF, hFF, hrm, hret⟩ := id C
  have hq := hL.2.2 i _ hi
  exact lv_iload_n hx hb hd hn hq.1 (k p l e R s m args below meth c Z E F cM sM hg9 C H locs cells slots lv hR hF hS hL (okp hq.2 hst) h1 h2)
theorem VL.iconst {g : GS} {M : MD} {d pc : Nat} {ls : List (Option MV)} {st : List MV} {h : MH} {sz kc ks : Nat} {Q : QT} {n : Int} (hd : decode M.2.1 pc = .ok (.iconst n, 1)) (hz : i32 n) (k : VL g M d (pc + 1) ls (vI n :: st) h sz kc ks Q) : VL g M d pc ls (st) h sz kc ks Q := by
  refine VL.stp (pc2 := (pc + 1)) (st2 := vI n :: st) ?_ ?_ k
  · intro p l e R s m args below meth c Z E H locs cells slots lv hx hb hst k
    exact lv_iconst hx hb hd rfl k
  · intro hst
    exact okp (v := vI n) hz hst
theorem VL.bipush {g : GS} {M : MD} {d pc : Nat} {ls : List (Option MV)} {st : List MV} {h : MH} {sz kc ks : Nat} {Q : QT} {n : Int} (hd : decode M.2.1 pc = .ok (.bipush n, 2)) (hz : -128 ≤ n ∧ n < 128) (k : VL g M d (pc + 2) ls (vI n :: st) h sz kc ks Q) : VL g M d pc ls (st) h sz kc ks Q := by
  refine VL.stp (pc2 := (pc + 2)) (st2 := vI n :: st) ?_ ?_ k
  · intro p l e R s m args below meth c Z E H locs cells slots lv hx hb hst k
    exact lv_bipush hx hb hd (Int8.toInt32_ofInt (by show (-128 : Int) ≤ n; exact hz.1) (by show n ≤ (127 : Int); omega)) k
  · intro hst
    exact okp (v := vI n) (by unfold okV i32; omega) hst
theorem VL.iadd {g : GS} {M : MD} {d pc : Nat} {ls : List (Option MV)} {st : List MV} {h : MH} {sz kc ks : Nat} {Q : QT} {x y : Int} (hd : decode M.2.1 pc = .ok (.iadd, 1)) (hz : i32 (x + y)) (k : VL g M d (pc + 1) ls (vI (x + y) :: st) h sz kc ks Q) : VL g M d pc ls (vI y :: vI x :: st) h sz kc ks Q := by
  refine VL.stp (pc2 := (pc + 1)) (st2 := vI (x + y) :: st) ?_ ?_ k
  · intro p l e R s m args below meth c Z E H locs cells slots lv hx hb hst k
    refine lv_iadd hx hb hd ?_
    rw [← Int32.ofInt_add]; exact k
  · intro hst
    exact okp hz (okt (okt hst))
theorem VL.isub {g : GS} {M : MD} {d pc : Nat} {ls : List (Option MV)} {st : List MV} {h : MH} {sz kc ks : Nat} {Q : QT} {x y : Int} (hd : decode M.2.1 pc = .ok (.isub, 1)) (hz : i32 (x - y)) (k : VL g M d (pc + 1) ls (vI (x - y) :: st) h sz kc ks Q) : VL g M d pc ls (vI y :: vI x :: st) h sz kc ks Q := by
  refine VL.stp (pc2 := (pc + 1)) (st2 := vI (x - y) :: st) ?_ ?_ k
  · intro p l e R s m args below meth c Z E H locs cells slots lv hx hb hst k
    refine lv_isub hx hb hd ?_
    rw [← Int32.ofInt_sub]; exact k
  · intro hst
    exact okp hz (okt (okt hst))
theorem VL.iand {g : GS} {M : MD} {d pc : Nat} {ls : List (Option MV)} {st : List MV} {h : MH} {sz kc ks : Nat} {Q : QT} {x y : Int} (z : Int) (hd : decode M.2.1 pc = .ok (.iand, 1)) (hz : i32 x → i32 y → Int32.ofInt x &&& Int32.ofInt y = Int32.ofInt z ∧ i32 z) (k : VL g M d (pc + 1) ls (vI z :: st) h sz kc ks Q) : VL g M d pc ls (vI y :: vI x :: st) h sz kc ks Q := by
  refine VL.stp (pc2 := (pc + 1)) (st2 := vI z :: st) ?_ ?_ k
  · intro p l e R s m args below meth c Z E H locs cells slots lv hx hb hst k
    refine lv_iand hx hb hd ?_
    rw [(hz (okh (okt hst)) (okh hst)).1]; exact k
  · intro hst
    exact okp (hz (okh (okt hst)) (okh hst)).2 (okt (okt hst))
theorem VL.icmp_eq {g : GS} {M : MD} {d pc : Nat} {ls : List (Option MV)} {st : List MV} {h : MH} {sz kc ks : Nat} {Q : QT} {x y : Int} {off : Int} {tgt : Nat} (hd : decode M.2.1 pc = .ok (.if_icmp .eq off, 3)) (ht : (pc : Int) + off = (tgt : Int)) (kt : x = y → VL g M d tgt ls st h sz kc ks Q) (kf : x ≠ y → VL g M d (pc + 3) ls st h sz kc ks Q) : VL g M d pc ls (vI y :: vI x :: st) h sz kc ks Q := by
  intro p l e R s m args below meth c Z E F cM sM hg9 C H locs cells slots lv hR hF hS hL hst h1 h2
  obtain ⟨⟨hx, hb, hml, hown, hnm⟩, hSF, hFF, hrm, hret⟩ := id C
  have hyy : i32 y := okh hst
  have hxx : i32 x := okh (okt hst)
  refine lv_icmp_eq hx hb hd ht (fun cc => ?_) (fun cc => ?_)
  · exact kt (by simp only [i32_eq hxx hyy, ne_eq] at cc ⊢; omega) p l e R s m args below meth c Z E F cM sM hg9 C H locs cells slots lv hR hF hS hL (okt (okt hst)) h1 h2
  · exact kf (by simp only [i32_eq hxx hyy, ne_eq] at cc ⊢; omega) p l e R s m args below meth c Z E F cM sM hg9 C H locs cells slots lv hR hF hS hL (okt (okt hst)) h1 h2
theorem VL.icmp_gt {g : GS} {M : MD} {d pc : Nat} {ls : List (Option MV)} {st : List MV} {h : MH} {sz kc ks : Nat} {Q : QT} {x y : Int} {off : Int} {tgt : Nat} (hd : decode M.2.1 pc = .ok (.if_icmp .gt off, 3)) (ht : (pc : Int) + off = (tgt : Int)) (kt : y < x → VL g M d tgt ls st h sz kc ks Q) (kf : x ≤ y → VL g M d (pc + 3) ls st h sz kc ks Q) : VL g M d pc ls (vI y :: vI x :: st) h sz kc ks Q := by
  intro p l e R s m args below meth c Z E F cM sM hg9 C H locs cells slots lv hR hF hS hL hst h1 h2
  obtain ⟨⟨hx, hb, hml, hown, hnm⟩, hSF, hFF, hrm, hret⟩ := id C
  have hyy : i32 y := okh hst
  have hxx : i32 x := okh (okt hst)
  refine lv_icmp_gt hx hb hd ht (fun cc => ?_) (fun cc => ?_)
  · exact kt (by simp only [i32_lt hyy hxx, ne_eq] at cc ⊢; omega) p l e R s m args below meth c Z E F cM sM hg9 C H locs cells slots lv hR hF hS hL (okt (okt hst)) h1 h2
  · exact kf (by simp only [i32_lt hyy hxx, ne_eq] at cc ⊢; omega) p l e R s m args below meth c Z E F cM sM hg9 C H locs cells slots lv hR hF hS hL (okt (okt hst)) h1 h2
theorem VL.istore_n {g : GS} {M : MD} {d pc : Nat} {ls : List (Option MV)} {st : List MV} {h : MH} {sz kc ks : Nat} {Q : QT} {n : Fin 4} {x : Int} (i : Nat) (hd : decode M.2.1 pc = .ok (.istore_n n, 1)) (hn : (n : Nat) = i) (hL0 : i < M.2.2.1) (hl : noL ls i = true) (k : VL g M d (pc + 1) (put ls i (some (vI x))) st h sz kc ks Q) : VL g M d pc ls (vI x :: st) h sz kc ks Q := by
  intro p l e R s m args below meth c Z E F cM sM hg9 C H locs cells slots lv hR hF hS hL hst h1 h2
  obtain ⟨⟨hx, hb, hml, hown, hnm⟩, hSF, hFF, hrm, hret⟩ := id C
  refine lv_istore_n hx hb hd hn (lpairs_has hL) hL0 rfl (fun lv2 hl2 => ?_)
  exact k p l e R s m args below meth c Z E F cM sM hg9 C H locs cells slots lv2 hR hF hS (LL_put1 hL hl (okh hst) hl2) (okt hst) h1 h2
theorem VL.astore_n {g : GS} {M : MD} {d pc : Nat} {ls : List (Option MV)} {st : List MV} {h : MH} {sz kc ks : Nat} {Q : QT} {n : Fin 4} {w : Option Nat ⊕ Nat} (i : Nat) (hd : decode M.2.1 pc = .ok (.astore_n n, 1)) (hn : (n : Nat) = i) (hL0 : i < M.2.2.1) (hl : noL ls i = true) (k : VL g M d (pc + 1) (put ls i (some (.inr (.inr w)))) st h sz kc ks Q) : VL g M d pc ls (.inr (.inr w) :: st) h sz kc ks Q := by
  intro p l e R s m args below meth c Z E F cM sM hg9 C H locs cells slots lv hR hF hS hL hst h1 h2
  obtain ⟨⟨hx, hb, hml, hown, hnm⟩, hSF, hFF, hrm, hret⟩ := id C
  rcases w with (- | a) | a
  · exact lv_astore_nN hx hb hd hn (lpairs_has hL) hL0 rfl (fun lv2 hl2 => k p l e R s m args below meth c Z E F cM sM hg9 C H locs cells slots lv2 hR hF hS (LL_put1 hL hl (okh hst) hl2) (okt hst) h1 h2)
  · exact lv_astore_n hx hb hd hn (lpairs_has hL) hL0 rfl (fun lv2 hl2 => k p l e R s m args below meth c Z E F cM sM hg9 C H locs cells slots lv2 hR hF hS (LL_put1 hL hl (okh hst) hl2) (okt hst) h1 h2)
  · exact lv_astore_n hx hb hd hn (lpairs_has hL) hL0 rfl (fun lv2 hl2 => k p l e R s m args below meth c Z E F cM sM hg9 C H locs cells slots lv2 hR hF hS (LL_put1 hL hl (okh hst) hl2) (okt hst) h1 h2)
theorem VL.new {index ci N : Nat} {C : String} {T : u_T} {ty : Nat → FieldType} (fs : List MV) {kc2 ks2 : Nat} (hC : Cls ci C T N ty) (hw1 : Cond.classLink M.1.cls index C ∈ lw_tbl) (hw2 : Cond.instantiable C N ∈ lw_tbl) (hw3 : Cond.initialized C ∈ lw_tbl) (hd : decode M.2.1 pc = .ok (.new index, 3)) (hfs : ∀ E, ∀ j, j < N → defaultValue (ty j) = vp_V (fs.map (cv E)) j) (hok : ∀ v ∈ fs, okV v) (g1 : kc2 + 1 ≤ kc) (g2 : ks2 + N ≤ ks)
    (kk : VL g M d (pc + 3) ls (vR sz :: st) (hset h sz (kO ci fs)) (sz + 1) kc2 ks2 Q) : VL g M d pc ls st h sz kc ks Q := by
  intro p l e R s m args below meth c Z E F cM sM hg9 C1 H locs cells slots lv hR hF hS hL hst h1 h2
  obtain ⟨⟨hx, hb, hml, hown, hnm⟩, hSF, hFF, hrm, hret⟩ := id C1
  obtain ⟨hcl, hin, hty, hnn⟩ := hC
  have hKn := hSF.1.1 ci _ hcl
  refine W.newcK hx hb hown (hSF.w hw1 rfl args) (hSF.w hw2 rfl args) (hSF.w hw3 rfl args) rfl hd (by omega) (by omega) hKn.2.1 rfl fun H1 kC hkC e1 z1 o1 => ?_
  have hsz : H.size = eb E + sz := hR.1
  have hR2 : RW E (hset h sz (kO ci fs)) (sz + 1) H1 := by
    refine hR.push z1 o1 hok ⟨_, hcl, ?_⟩
    rw [← hsz]
    exact (u_born ty (hSF.hts args) (in_gT hin) hKn hkC e1 hty).to (hfs E)
  have hk := kk p l e R s m args below meth c Z E F cM sM hg9 C1 H1 locs (cells + 1) (slots + N) lv hR2 (hset_F hF (by rw [← hsz]; exact hFF.1 _ hS.1)) (hS.push1 z1 o1) hL (okp (v := vR sz) trivial hst) (by omega) (by omega)
  rw [hsz]
  exact hk
theorem VL.dup {g : GS} {M : MD} {d pc : Nat} {ls : List (Option MV)} {st : List MV} {h : MH} {sz kc ks : Nat} {Q : QT} {v : MV} (hd : decode M.2.1 pc = .ok (.dup, 1)) (hc : ∀ E, (cv E v).category = 1) (k : VL g M d (pc + 1) ls (v :: v :: st) h sz kc ks Q) : VL g M d pc ls (v :: st) h sz kc ks Q := by
  refine VL.stp (pc2 := (pc + 1)) (st2 := v :: v :: st) ?_ ?_ k
  · intro p l e R s m args below meth c Z E H locs cells slots lv hx hb hst k
    exact lv_dup hx hb hd (hc E) k
  · intro hst
    exact okp (okh hst) hst
theorem VL.goto {g : GS} {M : MD} {d pc : Nat} {ls : List (Option MV)} {st : List MV} {h : MH} {sz kc ks : Nat} {Q : QT} {off : Int} {tgt : Nat} (hd : decode M.2.1 pc = .ok (.goto off, 3)) (ht : (pc : Int) + off = (tgt : Int)) (k : VL g M d tgt ls (st) h sz kc ks Q) : VL g M d pc ls (st) h sz kc ks Q := by
  refine VL.stp (pc2 := tgt) (st2 := st) ?_ ?_ k
  · intro p l e R s m args below meth c Z E H locs cells slots lv hx hb hst k
    exact lv_goto hx hb hd ht k
  · intro hst
    exact hst
theorem VL.iinc {g : GS} {M : MD} {d pc : Nat} {ls : List (Option MV)} {st : List MV} {h : MH} {sz kc ks : Nat} {Q : QT} {x n : Int} {i : Nat} (hd : decode M.2.1 pc = .ok (.iinc i n, 3)) (hi : lk ls i = some (vI x)) (hz : i32 (x + n)) (hL0 : i < M.2.2.1) (hl : noL ls i = true) (k : VL g M d (pc + 3) (put ls i (some (vI (x + n)))) st h sz kc ks Q) : VL g M d pc ls st h sz kc ks Q := by
  intro p l e R s m args below meth c Z E F cM sM hg9 C H locs cells slots lv hR hF hS hL hst h1 h2
  obtain ⟨⟨hx, hb, hml, hown, hnm⟩, hSF, hFF, hrm, hret⟩ := id C
  obtain ⟨kk, hk⟩ := List.getElem?_of_mem (lpairs_mem (E := E) hi)
  refine lv_iinc hx hb hd (lpairs_has hL) hk (v := Int32.ofInt (x + n)) (by rw [Int32.ofInt_add]) hL0 rfl (fun lv2 hl2 => ?_)
  exact k p l e R s m args below meth c Z E F cM sM hg9 C H locs cells slots lv2 hR hF hS (LL_put1 (v := vI (x + n)) hL hl hz hl2) hst h1 h2
theorem VL.call {st0 : List MV} {hc : MH} {mc ms kc2 ks2 : Nat} {Qc : QT} (hrun : RunC M d pc st0 st h sz hc mc ms Qc) (hsub : ∀ a c, hc a = some c → h a = some c) (hst0 : (∀ v ∈ st0, okV v) → ∀ v ∈ st, okV v) (g1 : kc2 + mc ≤ kc) (g2 : ks2 + ms ≤ ks)
    (kk : ∀ (r : Option MV) (h2 : MH) (sz2 : Nat), Qc r h2 sz2 → VL g M d (pc + 3) ls (r.toList ++ st) (hov h2 h hc sz) sz2 kc2 ks2 Q) : VL g M d pc ls st0 h sz kc ks Q := by
  intro p l e R s m args below meth c Z E F cM sM hg9 C1 H locs cells slots lv hR hF hS hL hst h1 h2
  obtain ⟨⟨hx, hb, hml, hown, hnm⟩, hSF, hFF, hrm, hret⟩ := id C1
  have hRc : RW E hc sz H := ⟨hR.1, fun a c ha => hR.2 a c (hsub a c ha)⟩
  obtain ⟨a9, hr⟩ := hrun p l e R s m args below meth c E F H locs cells slots lv ⟨hx, hb, hml, hown⟩ hSF hFF ⟨hrm.1, hrm.2.1⟩ hR hRc hS hL.1 hst (by omega) (by omega)
  intro T hT X
  obtain ⟨v, st₀, t, T', L, h0, X', hLf, e1, e2, ⟨r, h3, sz3, hv, hokr, hq, hR3, hF3, hz3, hk3⟩, stp⟩ := hr T hT X
  have hve : v = r.map (cv E) := Outcome.returned.inj hv
  subst hve
  rw [h0] at hz3 hk3
  have hFRF : ∀ q, FR E hc sz q → F q := by
    intro q hq
    rcases hq with ⟨a, c, ha, rfl⟩ | hq
    · exact hF a c (hsub a c ha)
    · exact hFF.1 q (Nat.le_trans hS.1 (by rw [hR.1]; exact hq))
  have hkeep : ∀ a, hc a = none → a < sz → t.heap[eb E + a]? = H[eb E + a]? := by
    intro a n1 n2
    refine hk3 (eb E + a) (by rw [hR.1]; omega) ?_
    rintro (⟨b, c, hb1, hb2⟩ | q)
    · have : b = a := by omega
      subst this
      rw [n1] at hb1; cases hb1
    · omega
  have hR9 : RW E (hov h3 h hc sz) sz3 T'.heap := by
    rw [e1]
    refine ⟨hR3.1, fun a c ha => ?_⟩
    unfold hov at ha
    cases q3 : h3 a with
    | some c3 => rw [q3] at ha; cases ha; exact hR3.2 a c q3
    | none =>
      rw [q3] at ha
      simp only at ha
      split at ha
      · rename_i qq
        have := hR.2 a c ha
        exact ⟨this.1, this.2.kept (hkeep a qq.1 qq.2)⟩
      · cases ha
  have hF9 : ∀ a c, hov h3 h hc sz a = some c → F (eb E + a) := by
    intro a c ha
    unfold hov at ha
    cases q3 : h3 a with
    | some c3 => exact hFRF _ (hF3 a c3 q3)
    | none =>
      rw [q3] at ha
      simp only at ha
      split at ha
      · exact hF a c ha
      · cases ha
  have hS9 : va_S F s.heap T'.heap (locs ++ L) := by
    rw [e1]
    refine ⟨Nat.le_trans hS.1 hz3, fun q q1 q2 => ?_, fun q hq => ?_⟩
    · rw [hk3 q (Nat.lt_of_lt_of_le q1 hS.1) (fun z => q2 (hFRF q z))]
      exact hS.2.1 q q1 q2
    · rcases List.mem_append.mp hq with q1 | q1
      · exact hS.2.2 q q1
      · exact hFRF _ (hLf q q1)
  have hok9 : ∀ v ∈ r.toList ++ st, okV v := by
    intro w hw
    rcases List.mem_append.mp hw with q | q
    · exact hokr w (by cases r with
        | none => cases q
        | some r' => rw [List.mem_singleton.mp q])
    · exact hst0 hst w q
  obtain ⟨t2, a1, b1⟩ := kk r h3 sz3 hq p l e R s m args below meth c Z E F cM sM hg9 C1 T'.heap (locs ++ L) (cells + mc) (slots + ms) lv hR9 hF9 hS9 hL hok9 (by omega) (by omega) T' rfl X'
  refine ⟨t2, stp t2 ?_, b1⟩
  have e9 : (r.toList ++ st).map (cv E) = (r.map (cv E)).toList ++ st.map (cv E) := by cases r <;> rfl
  rw [e9] at a1
  exact a1
theorem VL.ret {g : GS} {M : MD} {d pc : Nat} {ls : List (Option MV)} {st : List MV} {h : MH} {sz kc ks : Nat} {Q : QT} {r : Option MV} (hd : decode M.2.1 pc = .ok (retI r, 1)) (hr : okRet M.2.2.2 r) (hs : st = r.toList) (hq : Q r h sz) : VL g M d pc ls st h sz kc ks Q := by
  intro p l e R s m args below meth c Z E F cM sM hg9 C H locs cells slots lv hR hF hS hL hst h1 h2
  obtain ⟨⟨hx, hb, hml, hown, hnm⟩, hSF, hFF, hrm, hret⟩ := id C
  refine W.widen (k := cM) (n := sM) (by omega) (by omega) ?_
  subst hs
  exact hret H locs lv pc r h sz hR hF hS (fun v hv => hst v (by rw [hv]; exact List.mem_cons_self)) hr hq hd

theorem VL.lcmp {g : GS} {M : MD} {d pc : Nat} {ls : List (Option MV)} {st : List MV} {h : MH} {sz kc ks : Nat} {Q : QT} {x y : Int} (hd : decode M.2.1 pc = .ok (.lcmp, 1)) (k : VL g M d (pc + 1) ls (vI (lc x y) :: st) h sz kc ks Q) : VL g M d pc ls (vL y :: vL x :: st) h sz kc ks Q := by
  refine VL.stp (pc2 := (pc + 1)) (st2 := vI (lc x y) :: st) ?_ ?_ k
  · intro p l e R s m args below meth c Z E H locs cells slots lv hx hb hst k
    refine W.lcmp hx hb hd ?_
    rw [lc_ok (okh (okt hst)) (okh hst)]; exact k
  · intro hst
    exact okp (v := vI _) (lc_rng x y) (okt (okt hst))
theorem VL.if_eq {g : GS} {M : MD} {d pc : Nat} {ls : List (Option MV)} {st : List MV} {h : MH} {sz kc ks : Nat} {Q : QT} {x : Int} {off : Int} {tgt : Nat} (hd : decode M.2.1 pc = .ok (.ifCond .eq off, 3)) (ht : (pc : Int) + off = (tgt : Int)) (kt : x = 0 → VL g M d tgt ls st h sz kc ks Q) (kf : x ≠ 0 → VL g M d (pc + 3) ls st h sz kc ks Q) : VL g M d pc ls (vI x :: st) h sz kc ks Q := by
  intro p l e R s m args below meth c Z E F cM sM hg9 C H locs cells slots lv hR hF hS hL hst h1 h2
  obtain ⟨⟨hx, hb, hml, hown, hnm⟩, hSF, hFF, hrm, hret⟩ := id C
  have hxx : i32 x := okh hst
  refine lv_if_eq hx hb hd ht (fun cc => ?_) (fun cc => ?_)
  · rw [show (0 : Int32) = Int32.ofInt 0 from rfl] at cc
    exact kt (by simp only [i32_eq hxx i32_0, ne_eq] at cc ⊢; omega) p l e R s m args below meth c Z E F cM sM hg9 C H locs cells slots lv hR hF hS hL (okt hst) h1 h2
  · rw [show (0 : Int32) = Int32.ofInt 0 from rfl] at cc
    exact kf (by simp only [i32_eq hxx i32_0, ne_eq] at cc ⊢; omega) p l e R s m args below meth c Z E F cM sM hg9 C H locs cells slots lv hR hF hS hL (okt hst) h1 h2
theorem VL.tswIn {g : GS} {M : MD} {d pc : Nat} {ls : List (Option MV)} {st : List MV} {h : MH} {sz kc ks : Nat} {Q : QT} {x : Int} {dflt lo hi : Int} {offs : Array Int} {len : Nat} {off : Int} {tgt : Nat} (hd : decode M.2.1 pc = .ok (.tableswitch dflt lo hi offs, len)) (hx1 : lo ≤ x) (hx2 : x ≤ hi) (ho : offs[(x - lo).toNat]? = some off) (ht : (pc : Int) + off = (tgt : Int)) (k : VL g M d tgt ls st h sz kc ks Q) : VL g M d pc ls (vI x :: st) h sz kc ks Q := by
  intro p l e R s m args below meth c Z E F cM sM hg9 C H locs cells slots lv hR hF hS hL hst h1 h2
  obtain ⟨⟨hx, hb, hml, hown, hnm⟩, hSF, hFF, hrm, hret⟩ := id C
  have hxx : i32 x := okh hst
  exact lv_tableIn hx hb hd (by rw [i32_to hxx]; omega) (by rw [i32_to hxx]; omega) (by rw [i32_to hxx]; exact ho) ht (k p l e R s m args below meth c Z E F cM sM hg9 C H locs cells slots lv hR hF hS hL (okt hst) h1 h2)
theorem VL.tswOut {g : GS} {M : MD} {d pc : Nat} {ls : List (Option MV)} {st : List MV} {h : MH} {sz kc ks : Nat} {Q : QT} {x : Int} {dflt lo hi : Int} {offs : Array Int} {len : Nat} {tgt : Nat} (hd : decode M.2.1 pc = .ok (.tableswitch dflt lo hi offs, len)) (hx1 : x < lo ∨ hi < x) (ht : (pc : Int) + dflt = (tgt : Int)) (k : VL g M d tgt ls st h sz kc ks Q) : VL g M d pc ls (vI x :: st) h sz kc ks Q := by
  intro p l e R s m args below meth c Z E F cM sM hg9 C H locs cells slots lv hR hF hS hL hst h1 h2
  obtain ⟨⟨hx, hb, hml, hown, hnm⟩, hSF, hFF, hrm, hret⟩ := id C
  have hxx : i32 x := okh hst
  exact lv_tableOut hx hb hd (by rw [i32_to hxx]; exact hx1) ht (k p l e R s m args below meth c Z E F cM sM hg9 C H locs cells slots lv hR hF hS hL (okt hst) h1 h2)
theorem VL.fresh (k : (∀ a c, h a = some c → a < sz) → VL g M d pc ls st h sz kc ks Q) : VL g M d pc ls st h sz kc ks Q := by
  intro p l e R s m args below meth c Z E F cM sM hg9 C H locs cells slots lv hR
  exact k (fun a c ha => hR.lt ha) p l e R s m args below meth c Z E F cM sM hg9 C H locs cells slots lv hR
theorem VL.heq {h2 : MH} (e : h = h2) (k : VL g M d pc ls st h2 sz kc ks Q) : VL g M d pc ls st h sz kc ks Q := by rw [e]; exact k
theorem VL.less {kc2 ks2 : Nat} (e1 : kc2 ≤ kc) (e2 : ks2 ≤ ks) (k : VL g M d pc ls st h sz kc2 ks2 Q) : VL g M d pc ls st h sz kc ks Q := by
  intro p l e R s m args below meth c Z E F cM sM hg9 C H locs cells slots lv hR hF hS hL hst h1 h2
  exact k p l e R s m args below meth c Z E F cM sM hg9 C H locs cells slots lv hR hF hS hL hst (by omega) (by omega)
/-- a number of the script -/
def scv (g : GS) (i : Int) : Int := (g.2.2 i.toNat).toInt
theorem scv_ok (g : GS) (i : Int) : i32 (scv g i) := ⟨Int32.le_toInt _, Int32.toInt_lt _⟩
theorem VL.sld {i : Int} (hd : decode M.2.1 pc = .ok (.iaload, 1)) (h0 : 0 ≤ i) (h9 : i < g.2.1) (kk : VL g M d (pc + 1) ls (vI (scv g i) :: st) h sz kc ks Q) : VL g M d pc ls (vI i :: vS 0 :: st) h sz kc ks Q := by
  intro p l e R s m args below meth c Z E F cM sM hg9 C1 H locs cells slots lv hR hF hS hL hst h1 h2
  obtain ⟨⟨hx, hb, hml, hown, hnm⟩, hSF, hFF, hrm, hret⟩ := id C1
  have hi : i32 i := okh hst
  obtain ⟨e0, ⟨cell, a1, a2, a3, a4, a5⟩, hbl, hbe⟩ := id hg9
  have hH : H[E.2.2.2 0]? = some cell := by
    rw [e0, hS.2.1 _ hbl (fun z => hbe (hFF.2 _ z))]; exact a1
  have kk2 := kk p l e R s m args below meth c Z E F cM sM hg9 C1 H locs cells slots lv hR hF hS hL (okp (v := vI _) (scv_ok g i) (okt (okt hst))) h1 h2
  refine W.iald (v := .int (Int32.ofInt (scv g i))) hx hb hH a2 a3 (fun q => i32_in hi h0 h9 (q.elim Or.inl (fun z => Or.inr (Nat.le_trans (Nat.le_of_eq a4.symm) z)))) ?_ rfl rfl hd kk2
  rw [i32_cl hi]
  have := a5 i.toNat (by omega)
  rw [this]; unfold scv; rw [Int32.ofInt_toInt]
theorem VL.slen (hL3 : g.2.1 ≤ 3072) (hd : decode M.2.1 pc = .ok (.arraylength, 1)) (kk : VL g M d (pc + 1) ls (vI (g.2.1 : Int) :: st) h sz kc ks Q) : VL g M d pc ls (vS 0 :: st) h sz kc ks Q := by
  intro p l e R s m args below meth c Z E F cM sM hg9 C1 H locs cells slots lv hR hF hS hL hst h1 h2
  obtain ⟨⟨hx, hb, hml, hown, hnm⟩, hSF, hFF, hrm, hret⟩ := id C1
  obtain ⟨e0, hX, hbl, hbe⟩ := id hg9
  have kk2 := kk p l e R s m args below meth c Z E F cM sM hg9 C1 H locs cells slots lv hR hF hS hL (okp (v := vI _) (by show i32 _; unfold i32; omega) (okt hst)) h1 h2
  have e1 : cv E (vS 0) = .ref g.1 := by show Value.ref (E.2.2.2 0) = _; rw [e0]
  rw [List.map_cons, e1]
  refine va_slen hx hb hX hbl (fun z => hbe (hFF.2 _ z)) hS hd ?_
  have e2 : cv E (vI (g.2.1 : Int)) = .int (Int32.ofNat g.2.1) := by show Value.int (Int32.ofInt (g.2.1 : Int)) = _; rw [oI_n]; rfl
  rw [List.map_cons, e2] at kk2
  exact kk2
end LAWR
