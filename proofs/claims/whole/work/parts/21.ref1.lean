/-! THE REFERENCE: small methods, printed by wip/whole/gen/ref1.py -/
set_option maxRecDepth 20000 in
theorem ct_Mo_in (v lo hi : Int) (h : MH) (sz : Nat) : Ct M_Mo_in 0 0 0 [vL v, vL lo, vL hi] h sz (Det (some (vI (if lo ≤ v ∧ v ≤ hi then 1 else 0))) h sz) := by
  refine Ct.of rfl (Nat.le_of_ble_eq_true rfl) ?_
  dsimp only [lsOf]
  refine V.lload_n (pc := 0) 0 d_Mo_in_0 rfl rfl ?_
  refine V.lload_n (pc := 1) 2 d_Mo_in_1 rfl rfl ?_
  refine V.lcmp (pc := 2) d_Mo_in_2 ?_
  refine V.if_lt (tgt := 17) (pc := 3) d_Mo_in_3 (by decide) (fun c_3 => ?_) (fun c_3 => ?_)
  · skip
    refine V.iconst (pc := 17) d_Mo_in_17 ⟨by decide, by decide⟩ ?_
    refine V.ret (pc := 18) (r := some (vI _)) d_Mo_in_18 (Or.inr ⟨rfl, by omega⟩) rfl ?_
    simp only [lc_lt, lc_ge, lc_gt, lc_le, lc_eq, bI_ne, bI_eq] at *
    first | exact detT (by omega) | exact detF (by omega)
  · skip
    refine V.lload_n (pc := 6) 0 d_Mo_in_6 rfl rfl ?_
    refine V.lload (pc := 7) d_Mo_in_7 rfl ?_
    refine V.lcmp (pc := 9) d_Mo_in_9 ?_
    refine V.if_gt (tgt := 17) (pc := 10) d_Mo_in_10 (by decide) (fun c_10 => ?_) (fun c_10 => ?_)
    · skip
      refine V.iconst (pc := 17) d_Mo_in_17 ⟨by decide, by decide⟩ ?_
      refine V.ret (pc := 18) (r := some (vI _)) d_Mo_in_18 (Or.inr ⟨rfl, by omega⟩) rfl ?_
      simp only [lc_lt, lc_ge, lc_gt, lc_le, lc_eq, bI_ne, bI_eq] at *
      first | exact detT (by omega) | exact detF (by omega)
    · skip
      refine V.iconst (pc := 13) d_Mo_in_13 ⟨by decide, by decide⟩ ?_
      refine V.goto (tgt := 18) (pc := 14) d_Mo_in_14 (by decide) ?_
      refine V.ret (pc := 18) (r := some (vI _)) d_Mo_in_18 (Or.inr ⟨rfl, by omega⟩) rfl ?_
      simp only [lc_lt, lc_ge, lc_gt, lc_le, lc_eq, bI_ne, bI_eq] at *
      first | exact detT (by omega) | exact detF (by omega)

set_option maxRecDepth 20000 in
theorem ct_Mo_isSheet (k : Int) (h : MH) (sz : Nat) : Ct M_Mo_isSheet 1 0 0 [vI k] h sz (Det (some (vI (if 0 ≤ k ∧ k ≤ 7 then 1 else 0))) h sz) := by
  refine Ct.of rfl (Nat.le_of_ble_eq_true rfl) ?_
  dsimp only [lsOf]
  refine V.iload_n (pc := 0) 0 d_Mo_isSheet_0 rfl rfl ?_
  refine V.i2l (pc := 1) d_Mo_isSheet_1 ?_
  refine V.lconst0 (pc := 2) d_Mo_isSheet_2 ?_
  refine V.ldc2 (pc := 3) (7) ck_Mo_100 rfl ⟨by decide, by decide⟩ d_Mo_isSheet_3 ?_
  refine V.cS3 (pc := 6) (kc2 := 0) (ks2 := 0) ml_Mo_102 (ct_Mo_in _ _ _ _ _) d_Mo_isSheet_6 (Nat.le_of_ble_eq_true rfl) (Nat.le_of_ble_eq_true rfl) (Nat.le_of_ble_eq_true rfl) (Nat.le_of_ble_eq_true rfl) ?_
  rintro _ _ _ ⟨rfl, rfl, rfl⟩
  dsimp only [Option.toList, List.cons_append, List.nil_append]
  refine V.ret (pc := 9) (r := some (vI _)) d_Mo_isSheet_9 (Or.inr ⟨rfl, by omega⟩) rfl ?_
  exact detR

set_option maxRecDepth 20000 in
theorem ct_Mo_isPlace (k : Int) (h : MH) (sz : Nat) : Ct M_Mo_isPlace 1 0 0 [vI k] h sz (Det (some (vI (if 0 ≤ k ∧ k ≤ 9 then 1 else 0))) h sz) := by
  refine Ct.of rfl (Nat.le_of_ble_eq_true rfl) ?_
  dsimp only [lsOf]
  refine V.iload_n (pc := 0) 0 d_Mo_isPlace_0 rfl rfl ?_
  refine V.i2l (pc := 1) d_Mo_isPlace_1 ?_
  refine V.lconst0 (pc := 2) d_Mo_isPlace_2 ?_
  refine V.ldc2 (pc := 3) (9) ck_Mo_120 rfl ⟨by decide, by decide⟩ d_Mo_isPlace_3 ?_
  refine V.cS3 (pc := 6) (kc2 := 0) (ks2 := 0) ml_Mo_102 (ct_Mo_in _ _ _ _ _) d_Mo_isPlace_6 (Nat.le_of_ble_eq_true rfl) (Nat.le_of_ble_eq_true rfl) (Nat.le_of_ble_eq_true rfl) (Nat.le_of_ble_eq_true rfl) ?_
  rintro _ _ _ ⟨rfl, rfl, rfl⟩
  dsimp only [Option.toList, List.cons_append, List.nil_append]
  refine V.ret (pc := 9) (r := some (vI _)) d_Mo_isPlace_9 (Or.inr ⟨rfl, by omega⟩) rfl ?_
  exact detR

set_option maxRecDepth 20000 in
theorem ct_Mo_finds (f : Int) (hf : 0 ≤ f ∧ f ≤ 9) (σ : SM) (sz : Nat) : Ct M_Mo_finds 0 0 0 [vR 8, vI f] (hM σ) sz (Det (some (vI (-1000010 - f))) (hM (sset σ 10 (fun _ => f))) sz) := by
  refine Ct.of rfl (Nat.le_of_ble_eq_true rfl) ?_
  dsimp only [lsOf]
  refine V.aload_n (pc := 0) 0 d_Mo_finds_0 rfl rfl ?_
  refine V.iload_n (pc := 1) 1 d_Mo_finds_1 rfl rfl ?_
  refine V.putf (pc := 2) 10 cl_Mo fl_Mo_95_Mo d_Mo_finds_2 (hM_o _) (Nat.le_of_ble_eq_true rfl) (Nat.le_of_ble_eq_true rfl) rfl (fun _ => ⟨rfl, rfl⟩) ?_
  rw [pu_status]
  refine V.ldc (pc := 5) (-1000010) ck_Mo_99 rfl ⟨by decide, by decide⟩ d_Mo_finds_5 ?_
  refine V.iload_n (pc := 7) 1 d_Mo_finds_7 rfl rfl ?_
  refine V.isub (pc := 8) d_Mo_finds_8 ⟨by omega, by omega⟩ ?_
  refine V.ret (pc := 9) (r := some (vI _)) d_Mo_finds_9 (Or.inl rfl) rfl ?_
  exact detR

set_option maxRecDepth 20000 in
theorem ct_Mo_well (v : Int) (σ : SM) (sz : Nat) : Ct M_Mo_well 0 0 0 [vR 8, vI v] (hM σ) sz (Det (some (vI v)) (hM (sset σ 10 (fun _ => 0))) sz) := by
  refine Ct.of rfl (Nat.le_of_ble_eq_true rfl) ?_
  dsimp only [lsOf]
  refine V.aload_n (pc := 0) 0 d_Mo_well_0 rfl rfl ?_
  refine V.iconst (pc := 1) d_Mo_well_1 ⟨by decide, by decide⟩ ?_
  refine V.putf (pc := 2) 10 cl_Mo fl_Mo_95_Mo d_Mo_well_2 (hM_o _) (Nat.le_of_ble_eq_true rfl) (Nat.le_of_ble_eq_true rfl) rfl (fun _ => ⟨rfl, rfl⟩) ?_
  rw [pu_status]
  refine V.iload_n (pc := 5) 1 d_Mo_well_5 rfl rfl ?_
  refine V.ret (pc := 6) (r := some (vI _)) d_Mo_well_6 (Or.inl rfl) rfl ?_
  exact detR

set_option maxRecDepth 20000 in
theorem ct_Mo_status (σ : SM) (sz : Nat) : Ct M_Mo_status 0 0 0 [vR 8] (hM σ) sz (Det (some (vI (σ 10 0))) (hM σ) sz) := by
  refine Ct.of rfl (Nat.le_of_ble_eq_true rfl) ?_
  dsimp only [lsOf]
  refine V.aload_n (pc := 0) 0 d_Mo_status_0 rfl rfl ?_
  refine V.getf (pc := 1) 10 cl_Mo fl_Mo_95_Mo d_Mo_status_1 (hM_o _) (Nat.le_of_ble_eq_true rfl) rfl ?_
  refine V.ret (pc := 4) (r := some (vI _)) d_Mo_status_4 (Or.inl rfl) rfl ?_
  exact detR

/-- own is of the KIND, or of one that this is too -/
abbrev isOf (own kind : Int) : Prop := own = kind ∨ (0 < own ∧ (kind = 0 ∨ (kind = 1 ∧ own < 5) ∨ (kind = 2 ∧ (own = 3 ∨ own = 4)) ∨ (kind = 5 ∧ own = 6) ∨ (kind = 7 ∧ own = 8)))
