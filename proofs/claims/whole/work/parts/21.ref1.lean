/-! THE REFERENCE: small methods, printed by wip/whole/gen/ref1.py -/
set_option maxRecDepth 20000 in
theorem ct_Mo_in (v lo hi : Int) (h : MH) (sz : Nat) : Ct M_Mo_in 0 0 0 [vL v, vL lo, vL hi] h sz (Det (some (vI (if lo ≤ v ∧ v ≤ hi then 1 else 0))) h sz) := by
  refine Ct.of rfl (Nat.le_of_ble_eq_true rfl) ?_
  dsimp only [lsOf]
  refine V.lload_n (pc := 0) 0 d_Mo_in_0 rfl rfl ?_
  refine V.lload_n (pc := 1) 2 d_Mo_in_1 rfl rfl ?_
  refine V.lcmp (pc := 2) d_Mo_in_2 ?_
  refine V.if_lt (tgt := 17) (pc := 3) d_Mo_in_3 (by decide) (fun c_3 => ?_) (fun c_3 => ?_)
  · skip
    refine V.iconst (pc := 17) d_Mo_in_17 ⟨by decide, by decide⟩ ?_
    refine V.ret (pc := 18) (r := some (vI _)) d_Mo_in_18 (Or.inr ⟨rfl, by omega⟩) rfl ?_
    simp only [lc_lt, lc_ge, lc_gt, lc_le, lc_eq, bI_ne, bI_eq] at *
    first | exact detT (by omega) | exact detF (by omega)
  · skip
    refine V.lload_n (pc := 6) 0 d_Mo_in_6 rfl rfl ?_
    refine V.lload (pc := 7) d_Mo_in_7 rfl ?_
    refine V.lcmp (pc := 9) d_Mo_in_9 ?_
    refine V.if_gt (tgt := 17) (pc := 10) d_Mo_in_10 (by decide) (fun c_10 => ?_) (fun c_10 => ?_)
    · skip
      refine V.iconst (pc := 17) d_Mo_in_17 ⟨by decide, by decide⟩ ?_
      refine V.ret (pc := 18) (r := some (vI _)) d_Mo_in_18 (Or.inr ⟨rfl, by omega⟩) rfl ?_
      simp only [lc_lt, lc_ge, lc_gt, lc_le, lc_eq, bI_ne, bI_eq] at *
      first | exact detT (by omega) | exact detF (by omega)
    · skip
      refine V.iconst (pc := 13) d_Mo_in_13 ⟨by decide, by decide⟩ ?_
      refine V.goto (tgt := 18) (pc := 14) d_Mo_in_14 (by decide) ?_
      refine V.ret (pc := 18) (r := some (vI _)) d_Mo_in_18 (Or.inr ⟨rfl, by omega⟩) rfl ?_
      simp only [lc_lt, lc_ge, lc_gt, lc_le, lc_eq, bI_ne, bI_eq] at *
      first | exact detT (by omega) | exact detF (by omega)

set_option maxRecDepth 20000 in
theorem ct_Mo_isSheet (k : Int) (h : MH) (sz : Nat) : Ct M_Mo_isSheet 1 0 0 [vI k] h sz (Det (some (vI (if 0 ≤ k ∧ k ≤ 7 then 1 else 0))) h sz) := by
  refine Ct.of rfl (Nat.le_of_ble_eq_true rfl) ?_
  dsimp only [lsOf]
  refine V.iload_n (pc := 0) 0 d_Mo_isSheet_0 rfl rfl ?_
  refine V.i2l (pc := 1) d_Mo_isSheet_1 ?_
  refine V.lconst0 (pc := 2) d_Mo_isSheet_2 ?_
  refine V.ldc2 (pc := 3) (7) ck_Mo_100 rfl ⟨by decide, by decide⟩ d_Mo_isSheet_3 ?_
  refine V.cS3 (pc := 6) (kc2 := 0) (ks2 := 0) ml_Mo_102 (ct_Mo_in _ _ _ _ _) d_Mo_isSheet_6 (Nat.le_of_ble_eq_true rfl) (Nat.le_of_ble_eq_true rfl) (Nat.le_of_ble_eq_true rfl) (Nat.le_of_ble_eq_true rfl) ?_
  rintro _ _ _ ⟨rfl, rfl, rfl⟩
  dsimp only [Option.toList, List.cons_append, List.nil_append]
  refine V.ret (pc := 9) (r := some (vI _)) d_Mo_isSheet_9 (Or.inr ⟨rfl, by omega⟩) rfl ?_
  exact detR

set_option maxRecDepth 20000 in
theorem ct_Mo_isPlace (k : Int) (h : MH) (sz : Nat) : Ct M_Mo_isPlace 1 0 0 [vI k] h sz (Det (some (vI (if 0 ≤ k ∧ k ≤ 9 then 1 else 0))) h sz) := by
  refine Ct.of rfl (Nat.le_of_ble_eq_true rfl) ?_
  dsimp only [lsOf]
  refine V.iload_n (pc := 0) 0 d_Mo_isPlace_0 rfl rfl ?_
  refine V.i2l (pc := 1) d_Mo_isPlace_1 ?_
  refine V.lconst0 (pc := 2) d_Mo_isPlace_2 ?_
  refine V.ldc2 (pc := 3) (9) ck_Mo_120 rfl ⟨by decide, by decide⟩ d_Mo_isPlace_3 ?_
  refine V.cS3 (pc := 6) (kc2 := 0) (ks2 := 0) ml_Mo_102 (ct_Mo_in _ _ _ _ _) d_Mo_isPlace_6 (Nat.le_of_ble_eq_true rfl) (Nat.le_of_ble_eq_true rfl) (Nat.le_of_ble_eq_true rfl) (Nat.le_of_ble_eq_true rfl) ?_
  rintro _ _ _ ⟨rfl, rfl, rfl⟩
  dsimp only [Option.toList, List.cons_append, List.nil_append]
  refine V.ret (pc := 9) (r := some (vI _)) d_Mo_isPlace_9 (Or.inr ⟨rfl, by omega⟩) rfl ?_
  exact detR

set_option maxRecDepth 20000 in
theorem ct_Mo_finds (f : Int) (hf : 0 ≤ f ∧ f ≤ 9) (σ : SM) (sz : Nat) : Ct M_Mo_finds 0 0 0 [vR 8, vI f] (hM σ) sz (Det (some (vI (-1000010 - f))) (hM (sset σ 10 (fun _ => f))) sz) := by
  refine Ct.of rfl (Nat.le_of_ble_eq_true rfl) ?_
  dsimp only [lsOf]
  refine V.aload_n (pc := 0) 0 d_Mo_finds_0 rfl rfl ?_
  refine V.iload_n (pc := 1) 1 d_Mo_finds_1 rfl rfl ?_
  refine V.putf (pc := 2) 10 cl_Mo fl_Mo_95_Mo d_Mo_finds_2 (hM_o _) (Nat.le_of_ble_eq_true rfl) (Nat.le_of_ble_eq_true rfl) rfl (fun _ => ⟨rfl, rfl⟩) ?_
  rw [pu_status]
  refine V.ldc (pc := 5) (-1000010) ck_Mo_99 rfl ⟨by decide, by decide⟩ d_Mo_finds_5 ?_
  refine V.iload_n (pc := 7) 1 d_Mo_finds_7 rfl rfl ?_
  refine V.isub (pc := 8) d_Mo_finds_8 ⟨by omega, by omega⟩ ?_
  refine V.ret (pc := 9) (r := some (vI _)) d_Mo_finds_9 (Or.inl rfl) rfl ?_
  exact detR

set_option maxRecDepth 20000 in
theorem ct_Mo_well (v : Int) (σ : SM) (sz : Nat) : Ct M_Mo_well 0 0 0 [vR 8, vI v] (hM σ) sz (Det (some (vI v)) (hM (sset σ 10 (fun _ => 0))) sz) := by
  refine Ct.of rfl (Nat.le_of_ble_eq_true rfl) ?_
  dsimp only [lsOf]
  refine V.aload_n (pc := 0) 0 d_Mo_well_0 rfl rfl ?_
  refine V.iconst (pc := 1) d_Mo_well_1 ⟨by decide, by decide⟩ ?_
  refine V.putf (pc := 2) 10 cl_Mo fl_Mo_95_Mo d_Mo_well_2 (hM_o _) (Nat.le_of_ble_eq_true rfl) (Nat.le_of_ble_eq_true rfl) rfl (fun _ => ⟨rfl, rfl⟩) ?_
  rw [pu_status]
  refine V.iload_n (pc := 5) 1 d_Mo_well_5 rfl rfl ?_
  refine V.ret (pc := 6) (r := some (vI _)) d_Mo_well_6 (Or.inl rfl) rfl ?_
  exact detR

set_option maxRecDepth 20000 in
theorem ct_Mo_status (σ : SM) (sz : Nat) : Ct M_Mo_status 0 0 0 [vR 8] (hM σ) sz (Det (some (vI (σ 10 0))) (hM σ) sz) := by
  refine Ct.of rfl (Nat.le_of_ble_eq_true rfl) ?_
  dsimp only [lsOf]
  refine V.aload_n (pc := 0) 0 d_Mo_status_0 rfl rfl ?_
  refine V.getf (pc := 1) 10 cl_Mo fl_Mo_95_Mo d_Mo_status_1 (hM_o _) (Nat.le_of_ble_eq_true rfl) rfl ?_
  try simp (disch := omega) only [sset_n, sset_e]
  refine V.ret (pc := 4) (r := some (vI _)) d_Mo_status_4 (Or.inl rfl) rfl ?_
  exact detR

/-- own is of the KIND, or of one that this is too -/
abbrev isOf (own kind : Int) : Prop := own = kind ∨ (0 < own ∧ (kind = 0 ∨ (kind = 1 ∧ own < 5) ∨ (kind = 2 ∧ (own = 3 ∨ own = 4)) ∨ (kind = 5 ∧ own = 6) ∨ (kind = 7 ∧ own = 8)))
set_option maxRecDepth 20000 in
theorem ct_Mo_isOf (own kind : Int) (h : MH) (sz : Nat) : Ct M_Mo_isOf 0 0 0 [vI own, vI kind] h sz (Det (some (vI (if isOf own kind then 1 else 0))) h sz) := by
  refine Ct.of rfl (Nat.le_of_ble_eq_true rfl) ?_
  dsimp only [lsOf]
  refine V.iload_n (pc := 0) 0 d_Mo_isOf_0 rfl rfl ?_
  refine V.iload_n (pc := 1) 1 d_Mo_isOf_1 rfl rfl ?_
  refine V.icmp_eq (tgt := 61) (pc := 2) d_Mo_isOf_2 (by decide) (fun c_2 => ?_) (fun c_2 => ?_)
  · skip
    refine V.iconst (pc := 61) d_Mo_isOf_61 ⟨by decide, by decide⟩ ?_
    refine V.goto (tgt := 66) (pc := 62) d_Mo_isOf_62 (by decide) ?_
    refine V.ret (pc := 66) (r := some (vI _)) d_Mo_isOf_66 (Or.inr ⟨rfl, by omega⟩) rfl ?_
    first | exact detT (by omega) | exact detF (by omega)
  · skip
    refine V.iload_n (pc := 5) 0 d_Mo_isOf_5 rfl rfl ?_
    refine V.if_le (tgt := 65) (pc := 6) d_Mo_isOf_6 (by decide) (fun c_6 => ?_) (fun c_6 => ?_)
    · skip
      refine V.iconst (pc := 65) d_Mo_isOf_65 ⟨by decide, by decide⟩ ?_
      refine V.ret (pc := 66) (r := some (vI _)) d_Mo_isOf_66 (Or.inr ⟨rfl, by omega⟩) rfl ?_
      first | exact detT (by omega) | exact detF (by omega)
    · skip
      refine V.iload_n (pc := 9) 1 d_Mo_isOf_9 rfl rfl ?_
      refine V.if_eq (tgt := 61) (pc := 10) d_Mo_isOf_10 (by decide) (fun c_10 => ?_) (fun c_10 => ?_)
      · skip
        refine V.iconst (pc := 61) d_Mo_isOf_61 ⟨by decide, by decide⟩ ?_
        refine V.goto (tgt := 66) (pc := 62) d_Mo_isOf_62 (by decide) ?_
        refine V.ret (pc := 66) (r := some (vI _)) d_Mo_isOf_66 (Or.inr ⟨rfl, by omega⟩) rfl ?_
        first | exact detT (by omega) | exact detF (by omega)
      · skip
        refine V.iload_n (pc := 13) 1 d_Mo_isOf_13 rfl rfl ?_
        refine V.iconst (pc := 14) d_Mo_isOf_14 ⟨by decide, by decide⟩ ?_
        refine V.icmp_ne (tgt := 23) (pc := 15) d_Mo_isOf_15 (by decide) (fun c_15 => ?_) (fun c_15 => ?_)
        · skip
          refine V.iload_n (pc := 23) 1 d_Mo_isOf_23 rfl rfl ?_
          refine V.iconst (pc := 24) d_Mo_isOf_24 ⟨by decide, by decide⟩ ?_
          refine V.icmp_ne (tgt := 38) (pc := 25) d_Mo_isOf_25 (by decide) (fun c_25 => ?_) (fun c_25 => ?_)
          · skip
            refine V.iload_n (pc := 38) 1 d_Mo_isOf_38 rfl rfl ?_
            refine V.iconst (pc := 39) d_Mo_isOf_39 ⟨by decide, by decide⟩ ?_
            refine V.icmp_ne (tgt := 49) (pc := 40) d_Mo_isOf_40 (by decide) (fun c_40 => ?_) (fun c_40 => ?_)
            · skip
              refine V.iload_n (pc := 49) 1 d_Mo_isOf_49 rfl rfl ?_
              refine V.bipush (pc := 50) d_Mo_isOf_50 ⟨by decide, by decide⟩ ?_
              refine V.icmp_ne (tgt := 65) (pc := 52) d_Mo_isOf_52 (by decide) (fun c_52 => ?_) (fun c_52 => ?_)
              · skip
                refine V.iconst (pc := 65) d_Mo_isOf_65 ⟨by decide, by decide⟩ ?_
                refine V.ret (pc := 66) (r := some (vI _)) d_Mo_isOf_66 (Or.inr ⟨rfl, by omega⟩) rfl ?_
                first | exact detT (by omega) | exact detF (by omega)
              · skip
                refine V.iload_n (pc := 55) 0 d_Mo_isOf_55 rfl rfl ?_
                refine V.bipush (pc := 56) d_Mo_isOf_56 ⟨by decide, by decide⟩ ?_
                refine V.icmp_ne (tgt := 65) (pc := 58) d_Mo_isOf_58 (by decide) (fun c_58 => ?_) (fun c_58 => ?_)
                · skip
                  refine V.iconst (pc := 65) d_Mo_isOf_65 ⟨by decide, by decide⟩ ?_
                  refine V.ret (pc := 66) (r := some (vI _)) d_Mo_isOf_66 (Or.inr ⟨rfl, by omega⟩) rfl ?_
                  first | exact detT (by omega) | exact detF (by omega)
                · skip
                  refine V.iconst (pc := 61) d_Mo_isOf_61 ⟨by decide, by decide⟩ ?_
                  refine V.goto (tgt := 66) (pc := 62) d_Mo_isOf_62 (by decide) ?_
                  refine V.ret (pc := 66) (r := some (vI _)) d_Mo_isOf_66 (Or.inr ⟨rfl, by omega⟩) rfl ?_
                  first | exact detT (by omega) | exact detF (by omega)
            · skip
              refine V.iload_n (pc := 43) 0 d_Mo_isOf_43 rfl rfl ?_
              refine V.bipush (pc := 44) d_Mo_isOf_44 ⟨by decide, by decide⟩ ?_
              refine V.icmp_eq (tgt := 61) (pc := 46) d_Mo_isOf_46 (by decide) (fun c_46 => ?_) (fun c_46 => ?_)
              · skip
                refine V.iconst (pc := 61) d_Mo_isOf_61 ⟨by decide, by decide⟩ ?_
                refine V.goto (tgt := 66) (pc := 62) d_Mo_isOf_62 (by decide) ?_
                refine V.ret (pc := 66) (r := some (vI _)) d_Mo_isOf_66 (Or.inr ⟨rfl, by omega⟩) rfl ?_
                first | exact detT (by omega) | exact detF (by omega)
              · skip
                refine V.iload_n (pc := 49) 1 d_Mo_isOf_49 rfl rfl ?_
                refine V.bipush (pc := 50) d_Mo_isOf_50 ⟨by decide, by decide⟩ ?_
                refine V.icmp_ne (tgt := 65) (pc := 52) d_Mo_isOf_52 (by decide) (fun c_52 => ?_) (fun c_52 => ?_)
                · skip
                  refine V.iconst (pc := 65) d_Mo_isOf_65 ⟨by decide, by decide⟩ ?_
                  refine V.ret (pc := 66) (r := some (vI _)) d_Mo_isOf_66 (Or.inr ⟨rfl, by omega⟩) rfl ?_
                  first | exact detT (by omega) | exact detF (by omega)
                · skip
                  refine V.iload_n (pc := 55) 0 d_Mo_isOf_55 rfl rfl ?_
                  refine V.bipush (pc := 56) d_Mo_isOf_56 ⟨by decide, by decide⟩ ?_
                  refine V.icmp_ne (tgt := 65) (pc := 58) d_Mo_isOf_58 (by decide) (fun c_58 => ?_) (fun c_58 => ?_)
                  · skip
                    refine V.iconst (pc := 65) d_Mo_isOf_65 ⟨by decide, by decide⟩ ?_
                    refine V.ret (pc := 66) (r := some (vI _)) d_Mo_isOf_66 (Or.inr ⟨rfl, by omega⟩) rfl ?_
                    first | exact detT (by omega) | exact detF (by omega)
                  · skip
                    refine V.iconst (pc := 61) d_Mo_isOf_61 ⟨by decide, by decide⟩ ?_
                    refine V.goto (tgt := 66) (pc := 62) d_Mo_isOf_62 (by decide) ?_
                    refine V.ret (pc := 66) (r := some (vI _)) d_Mo_isOf_66 (Or.inr ⟨rfl, by omega⟩) rfl ?_
                    first | exact detT (by omega) | exact detF (by omega)
          · skip
            refine V.iload_n (pc := 28) 0 d_Mo_isOf_28 rfl rfl ?_
            refine V.iconst (pc := 29) d_Mo_isOf_29 ⟨by decide, by decide⟩ ?_
            refine V.icmp_eq (tgt := 61) (pc := 30) d_Mo_isOf_30 (by decide) (fun c_30 => ?_) (fun c_30 => ?_)
            · skip
              refine V.iconst (pc := 61) d_Mo_isOf_61 ⟨by decide, by decide⟩ ?_
              refine V.goto (tgt := 66) (pc := 62) d_Mo_isOf_62 (by decide) ?_
              refine V.ret (pc := 66) (r := some (vI _)) d_Mo_isOf_66 (Or.inr ⟨rfl, by omega⟩) rfl ?_
              first | exact detT (by omega) | exact detF (by omega)
            · skip
              refine V.iload_n (pc := 33) 0 d_Mo_isOf_33 rfl rfl ?_
              refine V.iconst (pc := 34) d_Mo_isOf_34 ⟨by decide, by decide⟩ ?_
              refine V.icmp_eq (tgt := 61) (pc := 35) d_Mo_isOf_35 (by decide) (fun c_35 => ?_) (fun c_35 => ?_)
              · skip
                refine V.iconst (pc := 61) d_Mo_isOf_61 ⟨by decide, by decide⟩ ?_
                refine V.goto (tgt := 66) (pc := 62) d_Mo_isOf_62 (by decide) ?_
                refine V.ret (pc := 66) (r := some (vI _)) d_Mo_isOf_66 (Or.inr ⟨rfl, by omega⟩) rfl ?_
                first | exact detT (by omega) | exact detF (by omega)
              · skip
                refine V.iload_n (pc := 38) 1 d_Mo_isOf_38 rfl rfl ?_
                refine V.iconst (pc := 39) d_Mo_isOf_39 ⟨by decide, by decide⟩ ?_
                refine V.icmp_ne (tgt := 49) (pc := 40) d_Mo_isOf_40 (by decide) (fun c_40 => ?_) (fun c_40 => ?_)
                · skip
                  refine V.iload_n (pc := 49) 1 d_Mo_isOf_49 rfl rfl ?_
                  refine V.bipush (pc := 50) d_Mo_isOf_50 ⟨by decide, by decide⟩ ?_
                  refine V.icmp_ne (tgt := 65) (pc := 52) d_Mo_isOf_52 (by decide) (fun c_52 => ?_) (fun c_52 => ?_)
                  · skip
                    refine V.iconst (pc := 65) d_Mo_isOf_65 ⟨by decide, by decide⟩ ?_
                    refine V.ret (pc := 66) (r := some (vI _)) d_Mo_isOf_66 (Or.inr ⟨rfl, by omega⟩) rfl ?_
                    first | exact detT (by omega) | exact detF (by omega)
                  · skip
                    refine V.iload_n (pc := 55) 0 d_Mo_isOf_55 rfl rfl ?_
                    refine V.bipush (pc := 56) d_Mo_isOf_56 ⟨by decide, by decide⟩ ?_
                    refine V.icmp_ne (tgt := 65) (pc := 58) d_Mo_isOf_58 (by decide) (fun c_58 => ?_) (fun c_58 => ?_)
                    · skip
                      refine V.iconst (pc := 65) d_Mo_isOf_65 ⟨by decide, by decide⟩ ?_
                      refine V.ret (pc := 66) (r := some (vI _)) d_Mo_isOf_66 (Or.inr ⟨rfl, by omega⟩) rfl ?_
                      first | exact detT (by omega) | exact detF (by omega)
                    · skip
                      refine V.iconst (pc := 61) d_Mo_isOf_61 ⟨by decide, by decide⟩ ?_
                      refine V.goto (tgt := 66) (pc := 62) d_Mo_isOf_62 (by decide) ?_
                      refine V.ret (pc := 66) (r := some (vI _)) d_Mo_isOf_66 (Or.inr ⟨rfl, by omega⟩) rfl ?_
                      first | exact detT (by omega) | exact detF (by omega)
                · skip
                  refine V.iload_n (pc := 43) 0 d_Mo_isOf_43 rfl rfl ?_
                  refine V.bipush (pc := 44) d_Mo_isOf_44 ⟨by decide, by decide⟩ ?_
                  refine V.icmp_eq (tgt := 61) (pc := 46) d_Mo_isOf_46 (by decide) (fun c_46 => ?_) (fun c_46 => ?_)
                  · skip
                    refine V.iconst (pc := 61) d_Mo_isOf_61 ⟨by decide, by decide⟩ ?_
                    refine V.goto (tgt := 66) (pc := 62) d_Mo_isOf_62 (by decide) ?_
                    refine V.ret (pc := 66) (r := some (vI _)) d_Mo_isOf_66 (Or.inr ⟨rfl, by omega⟩) rfl ?_
                    first | exact detT (by omega) | exact detF (by omega)
                  · skip
                    refine V.iload_n (pc := 49) 1 d_Mo_isOf_49 rfl rfl ?_
                    refine V.bipush (pc := 50) d_Mo_isOf_50 ⟨by decide, by decide⟩ ?_
                    refine V.icmp_ne (tgt := 65) (pc := 52) d_Mo_isOf_52 (by decide) (fun c_52 => ?_) (fun c_52 => ?_)
                    · skip
                      refine V.iconst (pc := 65) d_Mo_isOf_65 ⟨by decide, by decide⟩ ?_
                      refine V.ret (pc := 66) (r := some (vI _)) d_Mo_isOf_66 (Or.inr ⟨rfl, by omega⟩) rfl ?_
                      first | exact detT (by omega) | exact detF (by omega)
                    · skip
                      refine V.iload_n (pc := 55) 0 d_Mo_isOf_55 rfl rfl ?_
                      refine V.bipush (pc := 56) d_Mo_isOf_56 ⟨by decide, by decide⟩ ?_
                      refine V.icmp_ne (tgt := 65) (pc := 58) d_Mo_isOf_58 (by decide) (fun c_58 => ?_) (fun c_58 => ?_)
                      · skip
                        refine V.iconst (pc := 65) d_Mo_isOf_65 ⟨by decide, by decide⟩ ?_
                        refine V.ret (pc := 66) (r := some (vI _)) d_Mo_isOf_66 (Or.inr ⟨rfl, by omega⟩) rfl ?_
                        first | exact detT (by omega) | exact detF (by omega)
                      · skip
                        refine V.iconst (pc := 61) d_Mo_isOf_61 ⟨by decide, by decide⟩ ?_
                        refine V.goto (tgt := 66) (pc := 62) d_Mo_isOf_62 (by decide) ?_
                        refine V.ret (pc := 66) (r := some (vI _)) d_Mo_isOf_66 (Or.inr ⟨rfl, by omega⟩) rfl ?_
                        first | exact detT (by omega) | exact detF (by omega)
        · skip
          refine V.iload_n (pc := 18) 0 d_Mo_isOf_18 rfl rfl ?_
          refine V.iconst (pc := 19) d_Mo_isOf_19 ⟨by decide, by decide⟩ ?_
          refine V.icmp_lt (tgt := 61) (pc := 20) d_Mo_isOf_20 (by decide) (fun c_20 => ?_) (fun c_20 => ?_)
          · skip
            refine V.iconst (pc := 61) d_Mo_isOf_61 ⟨by decide, by decide⟩ ?_
            refine V.goto (tgt := 66) (pc := 62) d_Mo_isOf_62 (by decide) ?_
            refine V.ret (pc := 66) (r := some (vI _)) d_Mo_isOf_66 (Or.inr ⟨rfl, by omega⟩) rfl ?_
            first | exact detT (by omega) | exact detF (by omega)
          · skip
            refine V.iload_n (pc := 23) 1 d_Mo_isOf_23 rfl rfl ?_
            refine V.iconst (pc := 24) d_Mo_isOf_24 ⟨by decide, by decide⟩ ?_
            refine V.icmp_ne (tgt := 38) (pc := 25) d_Mo_isOf_25 (by decide) (fun c_25 => ?_) (fun c_25 => ?_)
            · skip
              refine V.iload_n (pc := 38) 1 d_Mo_isOf_38 rfl rfl ?_
              refine V.iconst (pc := 39) d_Mo_isOf_39 ⟨by decide, by decide⟩ ?_
              refine V.icmp_ne (tgt := 49) (pc := 40) d_Mo_isOf_40 (by decide) (fun c_40 => ?_) (fun c_40 => ?_)
              · skip
                refine V.iload_n (pc := 49) 1 d_Mo_isOf_49 rfl rfl ?_
                refine V.bipush (pc := 50) d_Mo_isOf_50 ⟨by decide, by decide⟩ ?_
                refine V.icmp_ne (tgt := 65) (pc := 52) d_Mo_isOf_52 (by decide) (fun c_52 => ?_) (fun c_52 => ?_)
                · skip
                  refine V.iconst (pc := 65) d_Mo_isOf_65 ⟨by decide, by decide⟩ ?_
                  refine V.ret (pc := 66) (r := some (vI _)) d_Mo_isOf_66 (Or.inr ⟨rfl, by omega⟩) rfl ?_
                  first | exact detT (by omega) | exact detF (by omega)
                · skip
                  refine V.iload_n (pc := 55) 0 d_Mo_isOf_55 rfl rfl ?_
                  refine V.bipush (pc := 56) d_Mo_isOf_56 ⟨by decide, by decide⟩ ?_
                  refine V.icmp_ne (tgt := 65) (pc := 58) d_Mo_isOf_58 (by decide) (fun c_58 => ?_) (fun c_58 => ?_)
                  · skip
                    refine V.iconst (pc := 65) d_Mo_isOf_65 ⟨by decide, by decide⟩ ?_
                    refine V.ret (pc := 66) (r := some (vI _)) d_Mo_isOf_66 (Or.inr ⟨rfl, by omega⟩) rfl ?_
                    first | exact detT (by omega) | exact detF (by omega)
                  · skip
                    refine V.iconst (pc := 61) d_Mo_isOf_61 ⟨by decide, by decide⟩ ?_
                    refine V.goto (tgt := 66) (pc := 62) d_Mo_isOf_62 (by decide) ?_
                    refine V.ret (pc := 66) (r := some (vI _)) d_Mo_isOf_66 (Or.inr ⟨rfl, by omega⟩) rfl ?_
                    first | exact detT (by omega) | exact detF (by omega)
              · skip
                refine V.iload_n (pc := 43) 0 d_Mo_isOf_43 rfl rfl ?_
                refine V.bipush (pc := 44) d_Mo_isOf_44 ⟨by decide, by decide⟩ ?_
                refine V.icmp_eq (tgt := 61) (pc := 46) d_Mo_isOf_46 (by decide) (fun c_46 => ?_) (fun c_46 => ?_)
                · skip
                  refine V.iconst (pc := 61) d_Mo_isOf_61 ⟨by decide, by decide⟩ ?_
                  refine V.goto (tgt := 66) (pc := 62) d_Mo_isOf_62 (by decide) ?_
                  refine V.ret (pc := 66) (r := some (vI _)) d_Mo_isOf_66 (Or.inr ⟨rfl, by omega⟩) rfl ?_
                  first | exact detT (by omega) | exact detF (by omega)
                · skip
                  refine V.iload_n (pc := 49) 1 d_Mo_isOf_49 rfl rfl ?_
                  refine V.bipush (pc := 50) d_Mo_isOf_50 ⟨by decide, by decide⟩ ?_
                  refine V.icmp_ne (tgt := 65) (pc := 52) d_Mo_isOf_52 (by decide) (fun c_52 => ?_) (fun c_52 => ?_)
                  · skip
                    refine V.iconst (pc := 65) d_Mo_isOf_65 ⟨by decide, by decide⟩ ?_
                    refine V.ret (pc := 66) (r := some (vI _)) d_Mo_isOf_66 (Or.inr ⟨rfl, by omega⟩) rfl ?_
                    first | exact detT (by omega) | exact detF (by omega)
                  · skip
                    refine V.iload_n (pc := 55) 0 d_Mo_isOf_55 rfl rfl ?_
                    refine V.bipush (pc := 56) d_Mo_isOf_56 ⟨by decide, by decide⟩ ?_
                    refine V.icmp_ne (tgt := 65) (pc := 58) d_Mo_isOf_58 (by decide) (fun c_58 => ?_) (fun c_58 => ?_)
                    · skip
                      refine V.iconst (pc := 65) d_Mo_isOf_65 ⟨by decide, by decide⟩ ?_
                      refine V.ret (pc := 66) (r := some (vI _)) d_Mo_isOf_66 (Or.inr ⟨rfl, by omega⟩) rfl ?_
                      first | exact detT (by omega) | exact detF (by omega)
                    · skip
                      refine V.iconst (pc := 61) d_Mo_isOf_61 ⟨by decide, by decide⟩ ?_
                      refine V.goto (tgt := 66) (pc := 62) d_Mo_isOf_62 (by decide) ?_
                      refine V.ret (pc := 66) (r := some (vI _)) d_Mo_isOf_66 (Or.inr ⟨rfl, by omega⟩) rfl ?_
                      first | exact detT (by omega) | exact detF (by omega)
            · skip
              refine V.iload_n (pc := 28) 0 d_Mo_isOf_28 rfl rfl ?_
              refine V.iconst (pc := 29) d_Mo_isOf_29 ⟨by decide, by decide⟩ ?_
              refine V.icmp_eq (tgt := 61) (pc := 30) d_Mo_isOf_30 (by decide) (fun c_30 => ?_) (fun c_30 => ?_)
              · skip
                refine V.iconst (pc := 61) d_Mo_isOf_61 ⟨by decide, by decide⟩ ?_
                refine V.goto (tgt := 66) (pc := 62) d_Mo_isOf_62 (by decide) ?_
                refine V.ret (pc := 66) (r := some (vI _)) d_Mo_isOf_66 (Or.inr ⟨rfl, by omega⟩) rfl ?_
                first | exact detT (by omega) | exact detF (by omega)
              · skip
                refine V.iload_n (pc := 33) 0 d_Mo_isOf_33 rfl rfl ?_
                refine V.iconst (pc := 34) d_Mo_isOf_34 ⟨by decide, by decide⟩ ?_
                refine V.icmp_eq (tgt := 61) (pc := 35) d_Mo_isOf_35 (by decide) (fun c_35 => ?_) (fun c_35 => ?_)
                · skip
                  refine V.iconst (pc := 61) d_Mo_isOf_61 ⟨by decide, by decide⟩ ?_
                  refine V.goto (tgt := 66) (pc := 62) d_Mo_isOf_62 (by decide) ?_
                  refine V.ret (pc := 66) (r := some (vI _)) d_Mo_isOf_66 (Or.inr ⟨rfl, by omega⟩) rfl ?_
                  first | exact detT (by omega) | exact detF (by omega)
                · skip
                  refine V.iload_n (pc := 38) 1 d_Mo_isOf_38 rfl rfl ?_
                  refine V.iconst (pc := 39) d_Mo_isOf_39 ⟨by decide, by decide⟩ ?_
                  refine V.icmp_ne (tgt := 49) (pc := 40) d_Mo_isOf_40 (by decide) (fun c_40 => ?_) (fun c_40 => ?_)
                  · skip
                    refine V.iload_n (pc := 49) 1 d_Mo_isOf_49 rfl rfl ?_
                    refine V.bipush (pc := 50) d_Mo_isOf_50 ⟨by decide, by decide⟩ ?_
                    refine V.icmp_ne (tgt := 65) (pc := 52) d_Mo_isOf_52 (by decide) (fun c_52 => ?_) (fun c_52 => ?_)
                    · skip
                      refine V.iconst (pc := 65) d_Mo_isOf_65 ⟨by decide, by decide⟩ ?_
                      refine V.ret (pc := 66) (r := some (vI _)) d_Mo_isOf_66 (Or.inr ⟨rfl, by omega⟩) rfl ?_
                      first | exact detT (by omega) | exact detF (by omega)
                    · skip
                      refine V.iload_n (pc := 55) 0 d_Mo_isOf_55 rfl rfl ?_
                      refine V.bipush (pc := 56) d_Mo_isOf_56 ⟨by decide, by decide⟩ ?_
                      refine V.icmp_ne (tgt := 65) (pc := 58) d_Mo_isOf_58 (by decide) (fun c_58 => ?_) (fun c_58 => ?_)
                      · skip
                        refine V.iconst (pc := 65) d_Mo_isOf_65 ⟨by decide, by decide⟩ ?_
                        refine V.ret (pc := 66) (r := some (vI _)) d_Mo_isOf_66 (Or.inr ⟨rfl, by omega⟩) rfl ?_
                        first | exact detT (by omega) | exact detF (by omega)
                      · skip
                        refine V.iconst (pc := 61) d_Mo_isOf_61 ⟨by decide, by decide⟩ ?_
                        refine V.goto (tgt := 66) (pc := 62) d_Mo_isOf_62 (by decide) ?_
                        refine V.ret (pc := 66) (r := some (vI _)) d_Mo_isOf_66 (Or.inr ⟨rfl, by omega⟩) rfl ?_
                        first | exact detT (by omega) | exact detF (by omega)
                  · skip
                    refine V.iload_n (pc := 43) 0 d_Mo_isOf_43 rfl rfl ?_
                    refine V.bipush (pc := 44) d_Mo_isOf_44 ⟨by decide, by decide⟩ ?_
                    refine V.icmp_eq (tgt := 61) (pc := 46) d_Mo_isOf_46 (by decide) (fun c_46 => ?_) (fun c_46 => ?_)
                    · skip
                      refine V.iconst (pc := 61) d_Mo_isOf_61 ⟨by decide, by decide⟩ ?_
                      refine V.goto (tgt := 66) (pc := 62) d_Mo_isOf_62 (by decide) ?_
                      refine V.ret (pc := 66) (r := some (vI _)) d_Mo_isOf_66 (Or.inr ⟨rfl, by omega⟩) rfl ?_
                      first | exact detT (by omega) | exact detF (by omega)
                    · skip
                      refine V.iload_n (pc := 49) 1 d_Mo_isOf_49 rfl rfl ?_
                      refine V.bipush (pc := 50) d_Mo_isOf_50 ⟨by decide, by decide⟩ ?_
                      refine V.icmp_ne (tgt := 65) (pc := 52) d_Mo_isOf_52 (by decide) (fun c_52 => ?_) (fun c_52 => ?_)
                      · skip
                        refine V.iconst (pc := 65) d_Mo_isOf_65 ⟨by decide, by decide⟩ ?_
                        refine V.ret (pc := 66) (r := some (vI _)) d_Mo_isOf_66 (Or.inr ⟨rfl, by omega⟩) rfl ?_
                        first | exact detT (by omega) | exact detF (by omega)
                      · skip
                        refine V.iload_n (pc := 55) 0 d_Mo_isOf_55 rfl rfl ?_
                        refine V.bipush (pc := 56) d_Mo_isOf_56 ⟨by decide, by decide⟩ ?_
                        refine V.icmp_ne (tgt := 65) (pc := 58) d_Mo_isOf_58 (by decide) (fun c_58 => ?_) (fun c_58 => ?_)
                        · skip
                          refine V.iconst (pc := 65) d_Mo_isOf_65 ⟨by decide, by decide⟩ ?_
                          refine V.ret (pc := 66) (r := some (vI _)) d_Mo_isOf_66 (Or.inr ⟨rfl, by omega⟩) rfl ?_
                          first | exact detT (by omega) | exact detF (by omega)
                        · skip
                          refine V.iconst (pc := 61) d_Mo_isOf_61 ⟨by decide, by decide⟩ ?_
                          refine V.goto (tgt := 66) (pc := 62) d_Mo_isOf_62 (by decide) ?_
                          refine V.ret (pc := 66) (r := some (vI _)) d_Mo_isOf_66 (Or.inr ⟨rfl, by omega⟩) rfl ?_
                          first | exact detT (by omega) | exact detF (by omega)

/-- what is against taking a thing of kind kd as one of kind k: a finding's number, or 0 -/
def refu (kd k : Int) : Int := if kd = 0 then 1 else if isOf kd k then 0 else 3
theorem refu_rng (kd k : Int) : refu kd k = 0 ∨ refu kd k = 1 ∨ refu kd k = 3 := by unfold refu; split <;> (try split) <;> omega
def QR (σ : SM) (f : Int) (sz : Nat) : QT := fun r h s => (f = 0 ∧ r = some (vI 0) ∧ h = hM σ ∧ s = sz) ∨ (f ≠ 0 ∧ r = some (vI (-1000010 - f)) ∧ h = hM (sset σ 10 (fun _ => f)) ∧ s = sz)
set_option maxRecDepth 20000 in
theorem ct_Mo_refusal (p k : Int) (hp : 0 ≤ p ∧ p ≤ 10) (σ : SM) (sz : Nat) : Ct M_Mo_refusal 1 0 0 [vR 8, vI p, vI k] (hM σ) sz (QR σ (refu (σ 4 p.toNat) k) sz) := by
  refine Ct.of rfl (Nat.le_of_ble_eq_true rfl) ?_
  dsimp only [lsOf]
  refine V.aload_n (pc := 0) 0 d_Mo_refusal_0 rfl rfl ?_
  refine V.getf (pc := 1) 4 cl_Mo fl_Mo_22_Mo d_Mo_refusal_1 (hM_o _) (Nat.le_of_ble_eq_true rfl) rfl ?_
  refine V.iload_n (pc := 4) 1 d_Mo_refusal_4 rfl rfl ?_
  refine V.iald (pc := 5) d_Mo_refusal_5 (ar_kinds _).1 (by omega) (by omega) ?_
  try simp (disch := omega) only [sset_n, sset_e]
  refine V.if_ne (tgt := 15) (pc := 6) d_Mo_refusal_6 (by decide) (fun c_6 => ?_) (fun c_6 => ?_)
  · skip
    refine V.aload_n (pc := 15) 0 d_Mo_refusal_15 rfl rfl ?_
    refine V.getf (pc := 16) 4 cl_Mo fl_Mo_22_Mo d_Mo_refusal_16 (hM_o _) (Nat.le_of_ble_eq_true rfl) rfl ?_
    refine V.iload_n (pc := 19) 1 d_Mo_refusal_19 rfl rfl ?_
    refine V.iald (pc := 20) d_Mo_refusal_20 (ar_kinds _).1 (by omega) (by omega) ?_
    try simp (disch := omega) only [sset_n, sset_e]
    refine V.iload_n (pc := 21) 2 d_Mo_refusal_21 rfl rfl ?_
    refine V.cS2 (pc := 22) (kc2 := 0) (ks2 := 0) ml_Mo_161 (ct_Mo_isOf _ _ _ _) d_Mo_refusal_22 (Nat.le_of_ble_eq_true rfl) (Nat.le_of_ble_eq_true rfl) (Nat.le_of_ble_eq_true rfl) (Nat.le_of_ble_eq_true rfl) ?_
    rintro _ _ _ ⟨rfl, rfl, rfl⟩
    dsimp only [Option.toList, List.cons_append, List.nil_append]
    refine V.ifB_eq (tgt := 32) (pc := 25) d_Mo_refusal_25 (by decide) (fun c_25 => ?_) (fun c_25 => ?_)
    · skip
      refine V.aload_n (pc := 32) 0 d_Mo_refusal_32 rfl rfl ?_
      refine V.iconst (pc := 33) d_Mo_refusal_33 ⟨by decide, by decide⟩ ?_
      refine V.cV1 (pc := 34) (kc2 := 0) (ks2 := 0) ml_Mo_113 (hM_o _) (ct_Mo_finds _ (by omega) _ _) d_Mo_refusal_34 (Nat.le_of_ble_eq_true rfl) (Nat.le_of_ble_eq_true rfl) (Nat.le_of_ble_eq_true rfl) (Nat.le_of_ble_eq_true rfl) ?_
      rintro _ _ _ ⟨rfl, rfl, rfl⟩
      dsimp only [Option.toList, List.cons_append, List.nil_append]
      refine V.ret (pc := 37) (r := some (vI _)) d_Mo_refusal_37 (Or.inl rfl) rfl ?_
      unfold QR refu
      first
        | exact Or.inr ⟨by rw [if_pos (by omega)]; omega, by rw [if_pos (by omega)], by rw [if_pos (by omega)], rfl⟩
        | exact Or.inl ⟨by rw [if_neg (by omega), if_pos (by omega)], rfl, rfl, rfl⟩
        | exact Or.inr ⟨by rw [if_neg (by omega), if_neg (by omega)]; omega, by rw [if_neg (by omega), if_neg (by omega)], by rw [if_neg (by omega), if_neg (by omega)], rfl⟩
    · skip
      refine V.iconst (pc := 28) d_Mo_refusal_28 ⟨by decide, by decide⟩ ?_
      refine V.goto (tgt := 37) (pc := 29) d_Mo_refusal_29 (by decide) ?_
      refine V.ret (pc := 37) (r := some (vI _)) d_Mo_refusal_37 (Or.inl rfl) rfl ?_
      unfold QR refu
      first
        | exact Or.inr ⟨by rw [if_pos (by omega)]; omega, by rw [if_pos (by omega)], by rw [if_pos (by omega)], rfl⟩
        | exact Or.inl ⟨by rw [if_neg (by omega), if_pos (by omega)], rfl, rfl, rfl⟩
        | exact Or.inr ⟨by rw [if_neg (by omega), if_neg (by omega)]; omega, by rw [if_neg (by omega), if_neg (by omega)], by rw [if_neg (by omega), if_neg (by omega)], rfl⟩
  · skip
    refine V.aload_n (pc := 9) 0 d_Mo_refusal_9 rfl rfl ?_
    refine V.iconst (pc := 10) d_Mo_refusal_10 ⟨by decide, by decide⟩ ?_
    refine V.cV1 (pc := 11) (kc2 := 0) (ks2 := 0) ml_Mo_113 (hM_o _) (ct_Mo_finds _ (by omega) _ _) d_Mo_refusal_11 (Nat.le_of_ble_eq_true rfl) (Nat.le_of_ble_eq_true rfl) (Nat.le_of_ble_eq_true rfl) (Nat.le_of_ble_eq_true rfl) ?_
    rintro _ _ _ ⟨rfl, rfl, rfl⟩
    dsimp only [Option.toList, List.cons_append, List.nil_append]
    refine V.ret (pc := 14) (r := some (vI _)) d_Mo_refusal_14 (Or.inl rfl) rfl ?_
    unfold QR refu
    first
      | exact Or.inr ⟨by rw [if_pos (by omega)]; omega, by rw [if_pos (by omega)], by rw [if_pos (by omega)], rfl⟩
      | exact Or.inl ⟨by rw [if_neg (by omega), if_pos (by omega)], rfl, rfl, rfl⟩
      | exact Or.inr ⟨by rw [if_neg (by omega), if_neg (by omega)]; omega, by rw [if_neg (by omega), if_neg (by omega)], by rw [if_neg (by omega), if_neg (by omega)], rfl⟩

/-- THE TRACE with one number more, if there is room -/
def tr1 (σ : SM) (b : Int) : SM := if σ 12 0 < 16 then sset (sset σ 11 (upf (σ 11) (σ 12 0).toNat b)) 12 (fun _ => σ 12 0 + 1) else σ
set_option maxRecDepth 20000 in
theorem ct_Mo_begins (b : Int) (σ : SM) (h0 : 0 ≤ σ 12 0) (sz : Nat) : Ct M_Mo_begins 0 0 0 [vR 8, vI b] (hM σ) sz (Det none (hM (tr1 σ b)) sz) := by
  refine Ct.of rfl (Nat.le_of_ble_eq_true rfl) ?_
  dsimp only [lsOf]
  refine V.aload_n (pc := 0) 0 d_Mo_begins_0 rfl rfl ?_
  refine V.getf (pc := 1) 12 cl_Mo fl_Mo_190_Mo d_Mo_begins_1 (hM_o _) (Nat.le_of_ble_eq_true rfl) rfl ?_
  try simp (disch := omega) only [sset_n, sset_e]
  refine V.bipush (pc := 4) d_Mo_begins_4 ⟨by decide, by decide⟩ ?_
  refine V.icmp_ge (tgt := 29) (pc := 6) d_Mo_begins_6 (by decide) (fun c_6 => ?_) (fun c_6 => ?_)
  · skip
    refine V.ret (pc := 29) (r := none) d_Mo_begins_29 rfl rfl ?_
    unfold tr1
    first | (rw [if_neg (by omega)]; exact detR) | (rw [if_pos (by omega)]; exact detR)
  · skip
    refine V.aload_n (pc := 9) 0 d_Mo_begins_9 rfl rfl ?_
    refine V.getf (pc := 10) 11 cl_Mo fl_Mo_40_Mo d_Mo_begins_10 (hM_o _) (Nat.le_of_ble_eq_true rfl) rfl ?_
    refine V.aload_n (pc := 13) 0 d_Mo_begins_13 rfl rfl ?_
    refine V.getf (pc := 14) 12 cl_Mo fl_Mo_190_Mo d_Mo_begins_14 (hM_o _) (Nat.le_of_ble_eq_true rfl) rfl ?_
    try simp (disch := omega) only [sset_n, sset_e]
    refine V.iload_n (pc := 17) 1 d_Mo_begins_17 rfl rfl ?_
    refine V.iast (pc := 18) d_Mo_begins_18 (ar_trace _).1 (by omega) (by omega) ?_
    rw [(ar_trace _).2]
    refine V.aload_n (pc := 19) 0 d_Mo_begins_19 rfl rfl ?_
    refine V.dup (pc := 20) d_Mo_begins_20 (fun _ => rfl) ?_
    refine V.getf (pc := 21) 12 cl_Mo fl_Mo_190_Mo d_Mo_begins_21 (hM_o _) (Nat.le_of_ble_eq_true rfl) rfl ?_
    try simp (disch := omega) only [sset_n, sset_e]
    refine V.iconst (pc := 24) d_Mo_begins_24 ⟨by decide, by decide⟩ ?_
    refine V.iadd (pc := 25) d_Mo_begins_25 ⟨by omega, by omega⟩ ?_
    refine V.putf (pc := 26) 12 cl_Mo fl_Mo_190_Mo d_Mo_begins_26 (hM_o _) (Nat.le_of_ble_eq_true rfl) (Nat.le_of_ble_eq_true rfl) rfl (fun _ => ⟨rfl, rfl⟩) ?_
    rw [pu_traced]
    refine V.ret (pc := 29) (r := none) d_Mo_begins_29 rfl rfl ?_
    unfold tr1
    first | (rw [if_neg (by omega)]; exact detR) | (rw [if_pos (by omega)]; exact detR)

