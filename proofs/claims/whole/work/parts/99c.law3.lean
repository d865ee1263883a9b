/-! THE LAW: what its start says, printed by wip/whole/gen/law3.py -/
theorem ca_in : ∀ q ∈ caL, Cond.castable q.1 q.2 ∈ lw_tbl := by decide +kernel
theorem de_in : ∀ y ∈ deL, Cond.declares y ∈ lw_tbl := by decide +kernel
theorem nc_in : ∀ q ∈ ncL, Cond.not (.castable q.1 q.2) ∈ flatC (Jvm.Cond.and given_1 narrow_1) := by decide +kernel
abbrev stt (k : Nat) : Term := .static "RiverRoad" (stN k) "[I"
theorem st_arr : ∀ k, k < 4 → 1 ≤ k → Cond.arrayOf (stt k) .int ∈ flatC (Jvm.Cond.and given_1 narrow_1) := by decide +kernel
theorem st_len : ∀ k, k < 4 → 1 ≤ k → Cond.eq (.length (stt k)) (.int (Int32.ofNat (stL k))) ∈ flatC (Jvm.Cond.and given_1 narrow_1) := by decide +kernel
theorem st_el : ∀ k, k < 4 → 1 ≤ k → ∀ j, j < stL k → Cond.eq (.elem (stt k) (.int (Int32.ofNat j))) (.int (Int32.ofInt (stV k j))) ∈ flatC (Jvm.Cond.and given_1 narrow_1) := by decide +kernel
theorem st_lay : ∀ k, k < 4 → 1 ≤ k → Cond.laysStatic "RiverRoad" (stN k) "[I" ∈ lw_tbl := by decide +kernel
theorem st_start {s : State} {b : Nat} (hts : ∀ w ∈ lw_tbl, w.before #[Value.ref b] s = true) (hgv : (Jvm.Cond.and given_1 narrow_1).before #[Value.ref b] s = true) (k : Nat) (h1 : 1 ≤ k) (h3 : k ≤ 3) : ∃ t : Nat, va_Z "RiverRoad" (stN k) "[I" (.ref t) (fun q => s.heap.size ≤ q) s s.heap ∧ va_T .int t (stL k) (fun j => .int (Int32.ofInt (stV k j))) (fun q => s.heap.size ≤ q) s s.heap := by
  have hs := flat_of_before _ hgv
  have hA : ∀ a : Nat, a < s.heap.size → ¬ (fun q : Nat => s.heap.size ≤ q) a := fun a ha => Nat.not_le.mpr ha
  have hN : stL k < 2 ^ 31 := by
    have : k = 1 ∨ k = 2 ∨ k = 3 := by omega
    rcases this with rfl | rfl | rfl <;> decide
  obtain ⟨t, ht, hT⟩ := va_Tof (tm := stt k) (ty := .int) (N := stL k) (f := fun j => .int (Int32.ofInt (stV k j))) (A := fun q => s.heap.size ≤ q) hN (hs _ (st_arr k (by omega) h1)) (va_eqt (hs _ (st_len k (by omega) h1))) (fun j hj => va_eqt (hs _ (st_el k (by omega) h1 j hj))) hA
  exact ⟨t, va_Zref (hts _ (st_lay k (by omega) h1)) (hts _ nw_RR.2) ht hA, hT⟩
theorem sf_start {s : State} {b : Nat} (hts : ∀ w ∈ lw_tbl, w.before #[Value.ref b] s = true) (hgv : (Jvm.Cond.and given_1 narrow_1).before #[Value.ref b] s = true) : ∃ E : Ev, eb E = s.heap.size ∧ E.2.2.2 0 = b ∧ SF E s := by
  have hs := flat_of_before _ hgv
  obtain ⟨c0, i0, k0⟩ := u_known hts cl_RR.2.1 (hts _ nw_RR.1)
  obtain ⟨c1, i1, k1⟩ := u_known hts cl_Tr.2.1 (hts _ nw_Tr.1)
  obtain ⟨c2, i2, k2⟩ := u_known hts cl_Sh.2.1 (hts _ nw_Sh.1)
  obtain ⟨c3, i3, k3⟩ := u_known hts cl_Row.2.1 (hts _ nw_Row.1)
  obtain ⟨c4, i4, k4⟩ := u_known hts cl_Ar.2.1 (hts _ nw_Ar.1)
  obtain ⟨c5, i5, k5⟩ := u_known hts cl_Ne.2.1 (hts _ nw_Ne.1)
  obtain ⟨c6, i6, k6⟩ := u_known hts cl_Pe.2.1 (hts _ nw_Pe.1)
  obtain ⟨c7, i7, k7⟩ := u_known hts cl_La.2.1 (hts _ nw_La.1)
  obtain ⟨c8, i8, k8⟩ := u_known hts cl_Lo.2.1 (hts _ nw_Lo.1)
  obtain ⟨c9, i9, k9⟩ := u_known hts cl_St.2.1 (hts _ nw_St.1)
  obtain ⟨c10, i10, k10⟩ := u_known hts cl_Fo.2.1 (hts _ nw_Fo.1)
  obtain ⟨c11, i11, k11⟩ := u_known hts cl_Mo.2.1 (hts _ nw_Mo.1)
  obtain ⟨a0, ka0, m0, f01, f02, f03⟩ := Cond.arrayClass_spec (hts (.arrayClass .int) (by decide +kernel))
  obtain ⟨a1, ka1, m1, f11, f12, f13⟩ := Cond.arrayClass_spec (hts (.arrayClass .boolean) (by decide +kernel))
  obtain ⟨m2, a2, ka2, f21, f22, f23, f24, f25⟩ := Cond.arrayOver_spec (hts (.arrayOver (.object "RiverRoad$Sheet")) (by decide +kernel))
  obtain ⟨m3, a3, ka3, f31, f32, f33, f34, f35⟩ := Cond.arrayOver_spec (hts (.arrayOver (.object "RiverRoad$Thing")) (by decide +kernel))
  obtain ⟨t1, z1, w1⟩ := st_start hts hgv 1 (by decide) (by decide)
  obtain ⟨t2, z2, w2⟩ := st_start hts hgv 2 (by decide) (by decide)
  obtain ⟨t3, z3, w3⟩ := st_start hts hgv 3 (by decide) (by decide)
  refine ⟨((fun k => if k = 0 then c0 else if k = 1 then c1 else if k = 2 then c2 else if k = 3 then c3 else if k = 4 then c4 else if k = 5 then c5 else if k = 6 then c6 else if k = 7 then c7 else if k = 8 then c8 else if k = 9 then c9 else if k = 10 then c10 else c11, fun k => if k = 0 then i0 else if k = 1 then i1 else if k = 2 then i2 else if k = 3 then i3 else if k = 4 then i4 else if k = 5 then i5 else if k = 6 then i6 else if k = 7 then i7 else if k = 8 then i8 else if k = 9 then i9 else if k = 10 then i10 else i11), fun k => if k = 0 then a0 else if k = 1 then a1 else if k = 2 then a2 else a3, s.heap.size, fun k => if k = 0 then b else if k = 1 then t1 else if k = 2 then t2 else t3), rfl, rfl, ⟨?_, ?_⟩, ?_, ?_, ?_, ?_, ?_, ?_, ?_, ?_, ?_⟩
  · intro k q hq
    match k, hq with
    | 0, hq => cases hq; exact k0
    | 1, hq => cases hq; exact k1
    | 2, hq => cases hq; exact k2
    | 3, hq => cases hq; exact k3
    | 4, hq => cases hq; exact k4
    | 5, hq => cases hq; exact k5
    | 6, hq => cases hq; exact k6
    | 7, hq => cases hq; exact k7
    | 8, hq => cases hq; exact k8
    | 9, hq => cases hq; exact k9
    | 10, hq => cases hq; exact k10
    | 11, hq => cases hq; exact k11
    | k + 12, hq => simp [classes] at hq
  · intro k q hq
    match k, hq with
    | 0, hq => cases hq; exact ⟨fun n z => ⟨fun k h => (by cases h), ka0, f02, m0, f03⟩, f01⟩
    | 1, hq => cases hq; exact ⟨fun n z => ⟨fun k h => (by cases h), ka1, f12, m1, f13⟩, f11⟩
    | 2, hq => cases hq; exact ⟨fun n z => ⟨fun k h => (by cases h), ka2, f23, m2, f24⟩, ka2, m2, f23, f24, f21, f25⟩
    | 3, hq => cases hq; exact ⟨fun n z => ⟨fun k h => (by cases h), ka3, f33, m3, f34⟩, ka3, m3, f33, f34, f31, f35⟩
    | k + 4, hq => simp [ty4] at hq
  · exact fun w hw hg => word_at (U := s) (State.WarmedH.refl s) (good_of_word hg) (hts w hw)
  · exact fun q hq => va_Nw.of rfl (hts _ (ca_in q hq))
  · exact fun y hy => va_Nw.of rfl (hts _ (de_in y hy))
  · exact va_Nw.of rfl (hts (.methodLinkNest "RiverRoad" 23 ⟨"RiverRoad$Trace", "<init>", "()V"⟩ "RiverRoad") (by decide +kernel))
  · exact fun q hq => va_Nc.of (hs _ (nc_in q hq))
  · exact va_AO.of (hts (.arrayOver (.object "RiverRoad$Sheet")) (by decide +kernel))
  · exact va_AO.of (hts (.arrayOver (.object "RiverRoad$Thing")) (by decide +kernel))
  · exact Nat.le_refl _
  · intro k h1 h3
    have : k = 1 ∨ k = 2 ∨ k = 3 := by omega
    rcases this with rfl | rfl | rfl
    · exact ⟨z1, w1⟩
    · exact ⟨z2, w2⟩
    · exact ⟨z3, w3⟩
