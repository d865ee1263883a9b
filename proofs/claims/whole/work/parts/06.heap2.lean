/-! RULES: more of the heap -/
section HR2
variable {M : MD} {d pc : Nat} {ls : List (Option MV)} {st : List MV} {h : MH} {sz kc ks : Nat} {Q : QT}
theorem n32 {n : Nat} (h : n < 2147483648) : i32 (n : Int) := by unfold i32; omega
theorem n32_size {n : Nat} (h : n < 2147483648) : n.toInt32 = Int32.ofInt (n : Int) := by rw [Int32.ofInt_eq_ofNat]
theorem V.alen {a t n : Nat} {f : Nat → Int} (hd : decode M.2.1 pc = .ok (.arraylength, 1)) (ha : h a = some (kA t n f)) (kk : V M d (pc + 1) ls (vI n :: st) h sz kc ks Q) : V M d pc ls (vR a :: st) h sz kc ks Q := by
  intro p l e R s m args below meth c Z E F cM sM C1 H locs cells slots lv hR hF hS hL hst h1 h2
  obtain ⟨⟨hx, hb, hml, hown, hnm⟩, hSF, hFF, hrm, hret⟩ := id C1
  obtain ⟨hok, hat⟩ := hR.2 a _ ha
  have hat : H[eb E + a]? = some (arrV (E.2.1 0) n (fun j => .int (Int32.ofInt (f j)))) := hat
  refine W.alen (n := Int32.ofInt (n : Int)) hx hb hat ((hSF.1.2 0 _ rfl).1 n (fun j => .int (Int32.ofInt (f j)))) (by rw [arrV_size]; exact n32_size hok.1) rfl rfl hd ?_
  exact kk p l e R s m args below meth c Z E F cM sM C1 H locs cells slots lv hR hF hS hL (okp (v := vI n) (n32 hok.1) (okt hst)) h1 h2
theorem V.rlen0 {a n : Nat} {g : Nat → Option Nat} (hd : decode M.2.1 pc = .ok (.arraylength, 1)) (ha : h a = some (kR 0 n g)) (kk : V M d (pc + 1) ls (vI n :: st) h sz kc ks Q) : V M d pc ls (vR a :: st) h sz kc ks Q := by
  intro p l e R s m args below meth c Z E F cM sM C1 H locs cells slots lv hR hF hS hL hst h1 h2
  obtain ⟨⟨hx, hb, hml, hown, hnm⟩, hSF, hFF, hrm, hret⟩ := id C1
  obtain ⟨hok, hat⟩ := hR.2 a _ ha
  have hat : H[eb E + a]? = some (arrV (E.2.1 2) n (fun j => va_rf (cq E (g j)))) := hat
  refine W.alen (n := Int32.ofInt (n : Int)) hx hb hat ((hSF.1.2 2 _ rfl).1 n (fun j => va_rf (cq E (g j)))) (by rw [arrV_size]; exact n32_size hok) rfl rfl hd ?_
  exact kk p l e R s m args below meth c Z E F cM sM C1 H locs cells slots lv hR hF hS hL (okp (v := vI n) (n32 hok) (okt hst)) h1 h2
theorem V.rlen1 {a n : Nat} {g : Nat → Option Nat} (hd : decode M.2.1 pc = .ok (.arraylength, 1)) (ha : h a = some (kR 1 n g)) (kk : V M d (pc + 1) ls (vI n :: st) h sz kc ks Q) : V M d pc ls (vR a :: st) h sz kc ks Q := by
  intro p l e R s m args below meth c Z E F cM sM C1 H locs cells slots lv hR hF hS hL hst h1 h2
  obtain ⟨⟨hx, hb, hml, hown, hnm⟩, hSF, hFF, hrm, hret⟩ := id C1
  obtain ⟨hok, hat⟩ := hR.2 a _ ha
  have hat : H[eb E + a]? = some (arrV (E.2.1 3) n (fun j => va_rf (cq E (g j)))) := hat
  refine W.alen (n := Int32.ofInt (n : Int)) hx hb hat ((hSF.1.2 3 _ rfl).1 n (fun j => va_rf (cq E (g j)))) (by rw [arrV_size]; exact n32_size hok) rfl rfl hd ?_
  exact kk p l e R s m args below meth c Z E F cM sM C1 H locs cells slots lv hR hF hS hL (okp (v := vI n) (n32 hok) (okt hst)) h1 h2
theorem stV_rng : ∀ k, 1 ≤ k → k ≤ 3 → ∀ j, j < stL k → 0 ≤ stV k j ∧ stV k j < 100000 := by
  intro k a b
  match k, a, b with
  | 1, _, _ => decide +kernel
  | 2, _, _ => decide +kernel
  | 3, _, _ => decide +kernel
theorem V.gets {index : Nat} (k : Nat) (hk1 : 1 ≤ k) (hk2 : k ≤ 3) (hw : Cond.fieldLink M.1.cls index "RiverRoad" (stN k) "[I" ∈ lw_tbl) (hd : decode M.2.1 pc = .ok (.getstatic index, 3)) (kk : V M d (pc + 3) ls (vS k :: st) h sz kc ks Q) : V M d pc ls st h sz kc ks Q := by
  intro p l e R s m args below meth c Z E F cM sM C1 H locs cells slots lv hR hF hS hL hst h1 h2
  obtain ⟨⟨hx, hb, hml, hown, hnm⟩, hSF, hFF, hrm, hret⟩ := id C1
  have hZ := (hSF.2.2.2.2.2.2.2.2.2 k hk1 hk2).1
  have hS2 : va_S (fun q => eb E ≤ q) s.heap H locs := ⟨hS.1, fun q a b => hS.2.1 q a (fun z => b (hFF.2 q z)), fun q hq => hFF.2 _ (hS.2.2 q hq)⟩
  exact va_gets hx hb hZ hS2 hown (hSF.w hw rfl args) (fun _ z => z) hd (kk p l e R s m args below meth c Z E F cM sM C1 H locs cells slots lv hR hF hS hL (okp (v := vS k) trivial hst) h1 h2)
theorem V.sald {i : Int} (k : Nat) (hk1 : 1 ≤ k) (hk2 : k ≤ 3) (hd : decode M.2.1 pc = .ok (.iaload, 1)) (h0 : 0 ≤ i) (h9 : i < stL k) (kk : V M d (pc + 1) ls (vI (stV k i.toNat) :: st) h sz kc ks Q) : V M d pc ls (vI i :: vS k :: st) h sz kc ks Q := by
  intro p l e R s m args below meth c Z E F cM sM C1 H locs cells slots lv hR hF hS hL hst h1 h2
  obtain ⟨⟨hx, hb, hml, hown, hnm⟩, hSF, hFF, hrm, hret⟩ := id C1
  have hi : i32 i := okh hst
  obtain ⟨cell, a1, a2, a3, a4, a5, a6, a7⟩ := (hSF.2.2.2.2.2.2.2.2.2 k hk1 hk2).2
  have hH : H[E.2.2.2 k]? = some cell := by
    rw [hS.2.1 _ (Array.getElem?_eq_some_iff.mp a1).1 (fun z => a7 (hFF.2 _ z))]; exact a1
  refine W.iald (v := .int (Int32.ofInt (stV k i.toNat))) hx hb hH a2 a3 (fun q => i32_in hi h0 h9 (q.elim Or.inl (fun z => Or.inr (Nat.le_trans a4 z)))) (by rw [i32_cl hi]; exact a6 _ (by omega)) rfl rfl hd ?_
  exact kk p l e R s m args below meth c Z E F cM sM C1 H locs cells slots lv hR hF hS hL (okp (v := vI _) (by have := stV_rng k hk1 hk2 i.toNat (by omega); show i32 _; unfold i32; omega) (okt (okt hst))) h1 h2
theorem V.ldc {index : Nat} {v : Int32} (z : Int) (hw : Cond.constant M.1.cls index v ∈ lw_tbl) (hv : v = Int32.ofInt z) (hz : i32 z) (hd : decode M.2.1 pc = .ok (.ldc index, 2)) (kk : V M d (pc + 2) ls (vI z :: st) h sz kc ks Q) : V M d pc ls st h sz kc ks Q := by
  intro p l e R s m args below meth c Z E F cM sM C1 H locs cells slots lv hR hF hS hL hst h1 h2
  obtain ⟨⟨hx, hb, hml, hown, hnm⟩, hSF, hFF, hrm, hret⟩ := id C1
  subst hv
  exact lv_ldc hx hb hown (hSF.w hw rfl args) hd (kk p l e R s m args below meth c Z E F cM sM C1 H locs cells slots lv hR hF hS hL (okp (v := vI z) hz hst) h1 h2)
theorem V.ldc2 {index : Nat} {v : Int64} (z : Int) (hw : Cond.constantLong M.1.cls index v ∈ lw_tbl) (hv : v = Int64.ofInt z) (hz : i64 z) (hd : decode M.2.1 pc = .ok (.ldc2_w index, 3)) (kk : V M d (pc + 3) ls (vL z :: st) h sz kc ks Q) : V M d pc ls st h sz kc ks Q := by
  intro p l e R s m args below meth c Z E F cM sM C1 H locs cells slots lv hR hF hS hL hst h1 h2
  obtain ⟨⟨hx, hb, hml, hown, hnm⟩, hSF, hFF, hrm, hret⟩ := id C1
  subst hv
  exact W.ldc2 (g := F0 m pc lv (st.map (cv E))) hx hb hown (hSF.w hw rfl args) rfl hd (kk p l e R s m args below meth c Z E F cM sM C1 H locs cells slots lv hR hF hS hL (okp (v := vL z) hz hst) h1 h2)
theorem recv {E : Ev} {s : State} {ci N : Nat} {C : String} {T : u_T} {ty : Nat → FieldType} {a : Nat} {fs : List MV} {H : Heap} (hSF : SF E s) (hR : RW E h sz H) (hC : Cls ci C T N ty) (ha : h a = some (kO ci fs)) : ∃ cell : Cell, H[eb E + a]? = some cell ∧ cell.vm.isStatics = false ∧ s.vm.findClass C = some cell.cls := by
  obtain ⟨hokb, r, hr1, cellV, g1, g2, g3, g4⟩ := hR.2 a _ ha
  exact ⟨cellV, g1, by rw [g3]; rfl, by rw [g2]; exact (hSF.1.1 ci _ hC.1).2.1⟩
/-- instanceof: C may be cast to nm, is nm, may not be cast to nm -/
theorem V.instY {index ci N : Nat} {C : String} {T : u_T} {ty : Nat → FieldType} {a : Nat} {fs : List MV} (nm : String) (hC : Cls ci C T N ty) (hca : C = nm ∨ (C, nm) ∈ caL) (hw : Cond.classLink M.1.cls index nm ∈ lw_tbl) (hd : decode M.2.1 pc = .ok (.instanceof index, 3)) (ha : h a = some (kO ci fs)) (kk : V M d (pc + 3) ls (vI 1 :: st) h sz kc ks Q) : V M d pc ls (vR a :: st) h sz kc ks Q := by
  intro p l e R s m args below meth c Z E F cM sM C1 H locs cells slots lv hR hF hS hL hst h1 h2
  obtain ⟨⟨hx, hb, hml, hown, hnm⟩, hSF, hFF, hrm, hret⟩ := id C1
  have hr := recv hSF hR hC ha
  have hk := kk p l e R s m args below meth c Z E F cM sM C1 H locs cells slots lv hR hF hS hL (okp (v := vI 1) (by show i32 1; unfold i32; omega) (okt hst)) h1 h2
  rcases hca with e1 | hca
  · subst e1
    exact va_instS hx hb hown (hSF.w hw rfl args) (hSF.1.1 ci _ hC.1).2 hr hd hk
  · exact va_instY hx hb hown (hSF.w hw rfl args) (hSF.2.2.1 _ hca) hr hd hk
theorem V.instNo {index ci N : Nat} {C : String} {T : u_T} {ty : Nat → FieldType} {a : Nat} {fs : List MV} (nm : String) (hC : Cls ci C T N ty) (hca : (C, nm) ∈ ncL) (hw : Cond.classLink M.1.cls index nm ∈ lw_tbl) (hd : decode M.2.1 pc = .ok (.instanceof index, 3)) (ha : h a = some (kO ci fs)) (kk : V M d (pc + 3) ls (vI 0 :: st) h sz kc ks Q) : V M d pc ls (vR a :: st) h sz kc ks Q := by
  intro p l e R s m args below meth c Z E F cM sM C1 H locs cells slots lv hR hF hS hL hst h1 h2
  obtain ⟨⟨hx, hb, hml, hown, hnm⟩, hSF, hFF, hrm, hret⟩ := id C1
  exact va_instNo hx hb hown (hSF.w hw rfl args) (hSF.2.2.2.2.2.1 _ hca) (recv hSF hR hC ha) hd (kk p l e R s m args below meth c Z E F cM sM C1 H locs cells slots lv hR hF hS hL (okp (v := vI 0) i32_0 (okt hst)) h1 h2)
theorem V.instN {index : Nat} (hd : decode M.2.1 pc = .ok (.instanceof index, 3)) (kk : V M d (pc + 3) ls (vI 0 :: st) h sz kc ks Q) : V M d pc ls (vN :: st) h sz kc ks Q := by
  intro p l e R s m args below meth c Z E F cM sM C1 H locs cells slots lv hR hF hS hL hst h1 h2
  obtain ⟨⟨hx, hb, hml, hown, hnm⟩, hSF, hFF, hrm, hret⟩ := id C1
  exact lv_instN hx hb hd (kk p l e R s m args below meth c Z E F cM sM C1 H locs cells slots lv hR hF hS hL (okp (v := vI 0) i32_0 (okt hst)) h1 h2)
theorem V.castY {index ci N : Nat} {C : String} {T : u_T} {ty : Nat → FieldType} {a : Nat} {fs : List MV} (nm : String) (hC : Cls ci C T N ty) (hca : C = nm ∨ (C, nm) ∈ caL) (hw : Cond.classLink M.1.cls index nm ∈ lw_tbl) (hd : decode M.2.1 pc = .ok (.checkcast index, 3)) (ha : h a = some (kO ci fs)) (kk : V M d (pc + 3) ls (vR a :: st) h sz kc ks Q) : V M d pc ls (vR a :: st) h sz kc ks Q := by
  intro p l e R s m args below meth c Z E F cM sM C1 H locs cells slots lv hR hF hS hL hst h1 h2
  obtain ⟨⟨hx, hb, hml, hown, hnm⟩, hSF, hFF, hrm, hret⟩ := id C1
  have hr := recv hSF hR hC ha
  have hk := kk p l e R s m args below meth c Z E F cM sM C1 H locs cells slots lv hR hF hS hL hst h1 h2
  rcases hca with e1 | hca
  · subst e1
    exact va_castS hx hb hown (hSF.w hw rfl args) (hSF.1.1 ci _ hC.1).2 hr hd hk
  · exact va_castY hx hb hown (hSF.w hw rfl args) (hSF.2.2.1 _ hca) hr hd hk
theorem V.castA {index t n a : Nat} {f : Nat → Int} (hw : Cond.classLink M.1.cls index "[I" ∈ lw_tbl) (hd : decode M.2.1 pc = .ok (.checkcast index, 3)) (ha : h a = some (kA t n f)) (kk : V M d (pc + 3) ls (vR a :: st) h sz kc ks Q) : V M d pc ls (vR a :: st) h sz kc ks Q := by
  intro p l e R s m args below meth c Z E F cM sM C1 H locs cells slots lv hR hF hS hL hst h1 h2
  obtain ⟨⟨hx, hb, hml, hown, hnm⟩, hSF, hFF, hrm, hret⟩ := id C1
  obtain ⟨hok, hat⟩ := hR.2 a _ ha
  have hP : va_P E.1 classes [(eb E + a, .inl (E.2.1 0, n, .inl (fun j => Int32.ofInt (f j))))] H := fun j q hq => by
    match j, hq with
    | 0, hq => cases hq; exact hat
    | j + 1, hq => cases hq
  exact va_castA hx hb hown (hSF.w hw rfl args) hP 0 rfl (hSF.1.2 0 _ rfl).2 hd (kk p l e R s m args below meth c Z E F cM sM C1 H locs cells slots lv hR hF hS hL hst h1 h2)
theorem V.objInit {index : Nat} {a : Nat} (hw1 : Cond.methodLink M.1.cls index Lib.objectInit ∈ lw_tbl) (hd1 : 1 ≤ d) (hst9 : st.length ≤ 4) (hd : decode M.2.1 pc = .ok (.invokespecial index, 3)) (kk : V M d (pc + 3) ls st h sz kc ks Q) : V M d pc ls (vR a :: st) h sz kc ks Q := by
  intro p l e R s m args below meth c Z E F cM sM C1 H locs cells slots lv hR hF hS hL hst h1 h2
  obtain ⟨⟨hx, hb, hml, hown, hnm⟩, hSF, hFF, hrm, hret⟩ := id C1
  have hcat : ∀ (st : List MV), ((st.map (cv E)).map fun v => v.category).sum ≤ 2 * st.length := by
    intro st
    induction st with
    | nil => exact Nat.le_refl _
    | cons v t ih =>
      rw [List.map_cons, List.map_cons, List.sum_cons, List.length_cons]
      have := lv_cat (cv E v)
      omega
  have := hcat st
  refine W.objInit hx hb hown (hSF.w hw1 rfl args) (hSF.w (w := .instanceMethod Lib.objectInit) (by decide +kernel) rfl args) (hSF.w (w := .code Lib.objectInit ⟨#[0xb1]⟩ 1 none) (by decide +kernel) rfl args) rfl (by rw [hml]; exact hL.1) rfl hd (by omega) (by show 2 * 0 + _ + 12 ≤ _; omega) ?_
  exact kk p l e R s m args below meth c Z E F cM sM C1 H locs cells slots lv hR hF hS hL (okt hst) h1 h2
theorem V.mmax {index : Nat} {x y : Int} (hw1 : Cond.methodLink M.1.cls index Lib.Math.max.name ∈ lw_tbl) (hd1 : 1 ≤ d) (hst9 : st.length ≤ 4) (hd : decode M.2.1 pc = .ok (.invokestatic index, 3)) (kk : V M d (pc + 3) ls (vI (if x < y then y else x) :: st) h sz kc ks Q) : V M d pc ls (vI y :: vI x :: st) h sz kc ks Q := by
  intro p l e R s m args below meth c Z E F cM sM C1 H locs cells slots lv hR hF hS hL hst h1 h2
  obtain ⟨⟨hx, hb, hml, hown, hnm⟩, hSF, hFF, hrm, hret⟩ := id C1
  have hcat : ∀ (st : List MV), ((st.map (cv E)).map fun v => v.category).sum ≤ 2 * st.length := by
    intro st
    induction st with
    | nil => exact Nat.le_refl _
    | cons v t ih =>
      rw [List.map_cons, List.map_cons, List.sum_cons, List.length_cons]
      have := lv_cat (cv E v)
      omega
  have := hcat st
  have hy : i32 y := okh hst
  have hxx : i32 x := okh (okt hst)
  have hk := kk p l e R s m args below meth c Z E F cM sM C1 H locs cells slots lv hR hF hS hL (okp (v := vI _) (by show i32 _; split <;> assumption) (okt (okt hst))) h1 h2
  refine va_mmax hx hb (by rw [hml]; exact hL.1.symm) hown (hSF.w hw1 rfl args) (hSF.w (w := .static Lib.Math.max.name) (by decide +kernel) rfl args) (hSF.w (w := .initialized "java/lang/Math") (by decide +kernel) rfl args) (hSF.w (w := .code Lib.Math.max.name Lib.Math.max.code 2 (some .int)) (by decide +kernel) rfl args) (by omega) (by omega) (by omega) (by omega) hd ?_
  have e9 : (if Int32.ofInt x < Int32.ofInt y then Int32.ofInt y else Int32.ofInt x) = Int32.ofInt (if x < y then y else x) := by
    simp only [i32_lt hxx hy]; split <;> rfl
  rw [e9]
  exact hk
theorem V.mmin {index : Nat} {x y : Int} (hw1 : Cond.methodLink M.1.cls index Lib.Math.min.name ∈ lw_tbl) (hd1 : 1 ≤ d) (hst9 : st.length ≤ 4) (hd : decode M.2.1 pc = .ok (.invokestatic index, 3)) (kk : V M d (pc + 3) ls (vI (if y < x then y else x) :: st) h sz kc ks Q) : V M d pc ls (vI y :: vI x :: st) h sz kc ks Q := by
  intro p l e R s m args below meth c Z E F cM sM C1 H locs cells slots lv hR hF hS hL hst h1 h2
  obtain ⟨⟨hx, hb, hml, hown, hnm⟩, hSF, hFF, hrm, hret⟩ := id C1
  have hcat : ∀ (st : List MV), ((st.map (cv E)).map fun v => v.category).sum ≤ 2 * st.length := by
    intro st
    induction st with
    | nil => exact Nat.le_refl _
    | cons v t ih =>
      rw [List.map_cons, List.map_cons, List.sum_cons, List.length_cons]
      have := lv_cat (cv E v)
      omega
  have := hcat st
  have hy : i32 y := okh hst
  have hxx : i32 x := okh (okt hst)
  have hk := kk p l e R s m args below meth c Z E F cM sM C1 H locs cells slots lv hR hF hS hL (okp (v := vI _) (by show i32 _; split <;> assumption) (okt (okt hst))) h1 h2
  refine va_mmin hx hb (by rw [hml]; exact hL.1.symm) hown (hSF.w hw1 rfl args) (hSF.w (w := .static Lib.Math.min.name) (by decide +kernel) rfl args) (hSF.w (w := .initialized "java/lang/Math") (by decide +kernel) rfl args) (hSF.w (w := .code Lib.Math.min.name Lib.Math.min.code 2 (some .int)) (by decide +kernel) rfl args) (by omega) (by omega) (by omega) (by omega) hd ?_
  have e9 : (if Int32.ofInt y < Int32.ofInt x then Int32.ofInt y else Int32.ofInt x) = Int32.ofInt (if y < x then y else x) := by
    simp only [i32_lt hy hxx]; split <;> rfl
  rw [e9]
  exact hk
end HR2
