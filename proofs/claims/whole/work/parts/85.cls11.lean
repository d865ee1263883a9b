/-! THE CLASS: sheets, counts, printed by wip/whole/gen/cls11.py -/
set_option maxRecDepth 20000 in
theorem cc_RR_landsOf (n k : Int) (hn : 1 ≤ n ∧ n ≤ 7) (hk : 0 ≤ k) (h : MH) (sz : Nat) : Ct M_RR_landsOf 0 0 0 [vI n, vI k] h sz (Det (some (vI (landT n.toNat k.toNat))) h sz) := by
  refine Ct.of rfl (Nat.le_of_ble_eq_true rfl) ?_
  dsimp only [lsOf]
  refine V.iload_n (pc := 0) 1 d_RR_landsOf_0 rfl rfl ?_
  refine V.iconst (pc := 1) d_RR_landsOf_1 ⟨by decide, by decide⟩ ?_
  refine V.icmp_lt (tgt := 10) (pc := 2) d_RR_landsOf_2 (by decide) (fun c_2 => ?_) (fun c_2 => ?_)
  · skip
    refine V.iconst (pc := 10) d_RR_landsOf_10 ⟨by decide, by decide⟩ ?_
    refine V.goto (tgt := 28) (pc := 11) d_RR_landsOf_11 (by decide) ?_
    refine V.ret (pc := 28) (r := some (vI _)) d_RR_landsOf_28 (Or.inl rfl) rfl ?_
    exact detI (by unfold landT; rw [if_neg (by omega)])
  · skip
    refine V.iload_n (pc := 5) 1 d_RR_landsOf_5 rfl rfl ?_
    refine V.iload_n (pc := 6) 0 d_RR_landsOf_6 rfl rfl ?_
    refine V.icmp_le (tgt := 14) (pc := 7) d_RR_landsOf_7 (by decide) (fun c_7 => ?_) (fun c_7 => ?_)
    · skip
      refine V.gets (pc := 14) 1 (by decide) (by decide) fs_RR_274 d_RR_landsOf_14 ?_
      refine V.iload_n (pc := 17) 0 d_RR_landsOf_17 rfl rfl ?_
      refine V.iconst (pc := 18) d_RR_landsOf_18 ⟨by decide, by decide⟩ ?_
      refine V.isub (pc := 19) d_RR_landsOf_19 ⟨by omega, by omega⟩ ?_
      refine V.bipush (pc := 20) d_RR_landsOf_20 ⟨by decide, by decide⟩ ?_
      refine V.imul (pc := 22) d_RR_landsOf_22 ⟨by omega, by omega⟩ ?_
      refine V.iload_n (pc := 23) 1 d_RR_landsOf_23 rfl rfl ?_
      refine V.iadd (pc := 24) d_RR_landsOf_24 ⟨by omega, by omega⟩ ?_
      refine V.iconst (pc := 25) d_RR_landsOf_25 ⟨by decide, by decide⟩ ?_
      refine V.isub (pc := 26) d_RR_landsOf_26 ⟨by omega, by omega⟩ ?_
      refine V.sald (pc := 27) 1 (by decide) (by decide) d_RR_landsOf_27 (by first | omega | (show _ < ((49 : Nat) : Int); omega)) (by first | omega | (show _ < ((49 : Nat) : Int); omega)) ?_
      refine V.ret (pc := 28) (r := some (vI _)) d_RR_landsOf_28 (Or.inl rfl) rfl ?_
      exact detI (by unfold landT; rw [if_pos (by omega), show ((n - 1) * 7 + k - 1).toNat = (n.toNat - 1) * 7 + k.toNat - 1 by omega])
    · skip
      refine V.iconst (pc := 10) d_RR_landsOf_10 ⟨by decide, by decide⟩ ?_
      refine V.goto (tgt := 28) (pc := 11) d_RR_landsOf_11 (by decide) ?_
      refine V.ret (pc := 28) (r := some (vI _)) d_RR_landsOf_28 (Or.inl rfl) rfl ?_
      exact detI (by unfold landT; rw [if_neg (by omega)])
set_option maxRecDepth 20000 in
theorem cs_RR_lands (S : SS) (h : MH) (hI : CI S h) (n k : Int) (sz : Nat) (hsz : 37 ≤ sz) : Ct M_RR_lands 1 0 0 [vR 0, vI n, vI k] h sz (QCI (sp_lands S n k) sz) := by
  refine Ct.of rfl (Nat.le_of_ble_eq_true rfl) ?_
  dsimp only [lsOf]
  obtain ⟨gs, gt, tr, en, fs, fp, hB, hcc⟩ := id hI
  obtain ⟨b0, b1, b2, b3, b4, b5, b6, b7⟩ := id hB
  refine V.iload_n (pc := 0) 1 d_RR_lands_0 rfl rfl ?_
  refine V.iconst (pc := 1) d_RR_lands_1 ⟨by decide, by decide⟩ ?_
  refine V.icmp_lt (tgt := 15) (pc := 2) d_RR_lands_2 (by decide) (fun c_2 => ?_) (fun c_2 => ?_)
  · skip
    refine V.ldc (pc := 15) (-1000001) ck_RR_50 rfl ⟨by decide, by decide⟩ d_RR_lands_15 ?_
    refine V.ret (pc := 17) (r := some (vI _)) d_RR_lands_17 (Or.inl rfl) rfl ?_
    exact qc_of (Nat.le_refl _) (by unfold sp_lands; rw [if_neg (by omega)]) hI
  · skip
    refine V.iload_n (pc := 5) 1 d_RR_lands_5 rfl rfl ?_
    refine V.bipush (pc := 6) d_RR_lands_6 ⟨by decide, by decide⟩ ?_
    refine V.icmp_gt (tgt := 15) (pc := 8) d_RR_lands_8 (by decide) (fun c_8 => ?_) (fun c_8 => ?_)
    · skip
      refine V.ldc (pc := 15) (-1000001) ck_RR_50 rfl ⟨by decide, by decide⟩ d_RR_lands_15 ?_
      refine V.ret (pc := 17) (r := some (vI _)) d_RR_lands_17 (Or.inl rfl) rfl ?_
      exact qc_of (Nat.le_refl _) (by unfold sp_lands; rw [if_neg (by omega)]) hI
    · skip
      refine V.iload_n (pc := 11) 2 d_RR_lands_11 rfl rfl ?_
      refine V.if_ge (tgt := 18) (pc := 12) d_RR_lands_12 (by decide) (fun c_12 => ?_) (fun c_12 => ?_)
      · skip
        refine V.iload_n (pc := 18) 1 d_RR_lands_18 rfl rfl ?_
        refine V.iload_n (pc := 19) 2 d_RR_lands_19 rfl rfl ?_
        refine V.cS2 (pc := 20) (kc2 := 0) (ks2 := 0) ml_RR_197 (cc_RR_landsOf _ _ (by omega) (by omega) _ _) d_RR_lands_20 (Nat.le_of_ble_eq_true rfl) (Nat.le_of_ble_eq_true rfl) (Nat.le_of_ble_eq_true rfl) (Nat.le_of_ble_eq_true rfl) ?_
        rintro _ _ _ ⟨rfl, rfl, rfl⟩
        dsimp only [Option.toList, List.cons_append, List.nil_append]
        refine V.ret (pc := 23) (r := some (vI _)) d_RR_lands_23 (Or.inl rfl) rfl ?_
        refine qc_of (S2 := S) (Nat.le_refl _) ?_ hI
        unfold sp_lands; rw [if_pos (by omega)]
        by_cases e : 7 < k
        · rw [if_pos e]; unfold landT; rw [if_neg (by omega)]
        · rw [if_neg e]
      · skip
        refine V.ldc (pc := 15) (-1000001) ck_RR_50 rfl ⟨by decide, by decide⟩ d_RR_lands_15 ?_
        refine V.ret (pc := 17) (r := some (vI _)) d_RR_lands_17 (Or.inl rfl) rfl ?_
        exact qc_of (Nat.le_refl _) (by unfold sp_lands; rw [if_neg (by omega)]) hI
set_option maxRecDepth 20000 in
theorem cs_RR_unlike (S : SS) (h : MH) (hI : CI S h) (n : Int) (sz : Nat) (hsz : 37 ≤ sz) : Ct M_RR_unlike 0 0 0 [vR 0, vI n] h sz (QCI (sp_unlike S n) sz) := by
  refine Ct.of rfl (Nat.le_of_ble_eq_true rfl) ?_
  dsimp only [lsOf]
  obtain ⟨gs, gt, tr, en, fs, fp, hB, hcc⟩ := id hI
  obtain ⟨b0, b1, b2, b3, b4, b5, b6, b7⟩ := id hB
  refine V.iload_n (pc := 0) 1 d_RR_unlike_0 rfl rfl ?_
  refine V.iconst (pc := 1) d_RR_unlike_1 ⟨by decide, by decide⟩ ?_
  refine V.icmp_lt (tgt := 10) (pc := 2) d_RR_unlike_2 (by decide) (fun c_2 => ?_) (fun c_2 => ?_)
  · skip
    refine V.ldc (pc := 10) (-1000001) ck_RR_50 rfl ⟨by decide, by decide⟩ d_RR_unlike_10 ?_
    refine V.goto (tgt := 22) (pc := 12) d_RR_unlike_12 (by decide) ?_
    refine V.ret (pc := 22) (r := some (vI _)) d_RR_unlike_22 (Or.inl rfl) rfl ?_
    exact qc_of (Nat.le_refl _) (by unfold sp_unlike; rw [if_neg (by omega)]) hI
  · skip
    refine V.iload_n (pc := 5) 1 d_RR_unlike_5 rfl rfl ?_
    refine V.iconst (pc := 6) d_RR_unlike_6 ⟨by decide, by decide⟩ ?_
    refine V.icmp_le (tgt := 15) (pc := 7) d_RR_unlike_7 (by decide) (fun c_7 => ?_) (fun c_7 => ?_)
    · skip
      refine V.gets (pc := 15) 2 (by decide) (by decide) fs_RR_200 d_RR_unlike_15 ?_
      refine V.iload_n (pc := 18) 1 d_RR_unlike_18 rfl rfl ?_
      refine V.iconst (pc := 19) d_RR_unlike_19 ⟨by decide, by decide⟩ ?_
      refine V.isub (pc := 20) d_RR_unlike_20 ⟨by omega, by omega⟩ ?_
      refine V.sald (pc := 21) 2 (by decide) (by decide) d_RR_unlike_21 (by first | omega | (show _ < ((5 : Nat) : Int); omega)) (by first | omega | (show _ < ((5 : Nat) : Int); omega)) ?_
      refine V.ret (pc := 22) (r := some (vI _)) d_RR_unlike_22 (Or.inl rfl) rfl ?_
      refine qc_of (S2 := S) (Nat.le_refl _) ?_ hI
      unfold sp_unlike; rw [if_pos (by omega)]
      show (unlT n.toNat, S) = (stV 2 (n - 1).toNat, S)
      unfold unlT; rw [show (n - 1).toNat = n.toNat - 1 by omega]
    · skip
      refine V.ldc (pc := 10) (-1000001) ck_RR_50 rfl ⟨by decide, by decide⟩ d_RR_unlike_10 ?_
      refine V.goto (tgt := 22) (pc := 12) d_RR_unlike_12 (by decide) ?_
      refine V.ret (pc := 22) (r := some (vI _)) d_RR_unlike_22 (Or.inl rfl) rfl ?_
      exact qc_of (Nat.le_refl _) (by unfold sp_unlike; rw [if_neg (by omega)]) hI
set_option maxRecDepth 20000 in
theorem cs_RR_folds (S : SS) (h : MH) (hI : CI S h) (n : Int) (sz : Nat) (hsz : 37 ≤ sz) : Ct M_RR_folds 0 0 0 [vR 0, vI n] h sz (QCI (sp_folds S n) sz) := by
  refine Ct.of rfl (Nat.le_of_ble_eq_true rfl) ?_
  dsimp only [lsOf]
  obtain ⟨gs, gt, tr, en, fs, fp, hB, hcc⟩ := id hI
  obtain ⟨b0, b1, b2, b3, b4, b5, b6, b7⟩ := id hB
  refine V.iload_n (pc := 0) 1 d_RR_folds_0 rfl rfl ?_
  refine V.iconst (pc := 1) d_RR_folds_1 ⟨by decide, by decide⟩ ?_
  refine V.icmp_lt (tgt := 11) (pc := 2) d_RR_folds_2 (by decide) (fun c_2 => ?_) (fun c_2 => ?_)
  · skip
    refine V.ldc (pc := 11) (-1000001) ck_RR_50 rfl ⟨by decide, by decide⟩ d_RR_folds_11 ?_
    refine V.goto (tgt := 25) (pc := 13) d_RR_folds_13 (by decide) ?_
    refine V.ret (pc := 25) (r := some (vI _)) d_RR_folds_25 (Or.inl rfl) rfl ?_
    exact qc_of (Nat.le_refl _) (by unfold sp_folds; rw [if_neg (by omega)]) hI
  · skip
    refine V.iload_n (pc := 5) 1 d_RR_folds_5 rfl rfl ?_
    refine V.bipush (pc := 6) d_RR_folds_6 ⟨by decide, by decide⟩ ?_
    refine V.icmp_le (tgt := 16) (pc := 8) d_RR_folds_8 (by decide) (fun c_8 => ?_) (fun c_8 => ?_)
    · skip
      refine V.iload_n (pc := 16) 1 d_RR_folds_16 rfl rfl ?_
      refine V.gets (pc := 17) 3 (by decide) (by decide) fs_RR_217 d_RR_folds_17 ?_
      refine V.iload_n (pc := 20) 1 d_RR_folds_20 rfl rfl ?_
      refine V.iconst (pc := 21) d_RR_folds_21 ⟨by decide, by decide⟩ ?_
      refine V.isub (pc := 22) d_RR_folds_22 ⟨by omega, by omega⟩ ?_
      refine V.sald (pc := 23) 3 (by decide) (by decide) d_RR_folds_23 (by first | omega | (show _ < ((8 : Nat) : Int); omega)) (by first | omega | (show _ < ((8 : Nat) : Int); omega)) ?_
      have e9 : n * stV 3 (n - 1).toNat = foldT n.toNat := by unfold foldT; rw [show (n - 1).toNat = n.toNat - 1 by omega, show ((n.toNat : Nat) : Int) = n by omega]
      refine V.imul (pc := 24) d_RR_folds_24 ⟨by have := foldT_b (show 1 ≤ n.toNat by omega) (show n.toNat ≤ 8 by omega); rw [e9]; omega, by have := foldT_b (show 1 ≤ n.toNat by omega) (show n.toNat ≤ 8 by omega); rw [e9]; omega⟩ ?_
      refine V.ret (pc := 25) (r := some (vI _)) d_RR_folds_25 (Or.inl rfl) rfl ?_
      refine qc_of (S2 := S) (Nat.le_refl _) ?_ hI
      unfold sp_folds; rw [if_pos (by omega), e9]
    · skip
      refine V.ldc (pc := 11) (-1000001) ck_RR_50 rfl ⟨by decide, by decide⟩ d_RR_folds_11 ?_
      refine V.goto (tgt := 25) (pc := 13) d_RR_folds_13 (by decide) ?_
      refine V.ret (pc := 25) (r := some (vI _)) d_RR_folds_25 (Or.inl rfl) rfl ?_
      exact qc_of (Nat.le_refl _) (by unfold sp_folds; rw [if_neg (by omega)]) hI
def QCL2 (x : Int × SS) (sz : Nat) : QT := fun r h s => sz ≤ s ∧ r = some (vL x.1) ∧ CI x.2 h
set_option maxRecDepth 20000 in
theorem lq_RR_sum (S : SS) (h : MH) (hI : CI S h) (n q : Int) (hn : 1 ≤ n ∧ n ≤ 7) (hq : -9 ≤ q ∧ q ≤ 9) (sz : Nat) : ∀ (c k : Nat) (kk w s : Int), (k : Int) + c = n + 1 → 1 ≤ k → kk = k → w = q ^ (k - 1) → s = sS n.toNat q (k - 1) →
    V M_RR_sum 1 35 [some (vR 0), some (vI n), some (vI q), some (vL s), none, some (vL w), none, some (vI kk)] [] h sz 0 0 (QCL2 (sp_sum S n q) sz) := by
  intro c
  induction c with
  | zero =>
    intro k kk w s hc h1 hkk hw hs
    refine V.iload (pc := 35) d_RR_sum_35 rfl ?_
    refine V.iload_n (pc := 37) 1 d_RR_sum_37 rfl rfl ?_
    refine V.icmp_gt (tgt := 67) (pc := 38) d_RR_sum_38 (by decide) (fun c_38 => ?_) (fun c_38 => ?_)
    · skip
      refine V.lload_n (pc := 67) 3 d_RR_sum_67 rfl rfl ?_
      refine V.ret (pc := 68) (r := some (vL _)) d_RR_sum_68 rfl rfl ?_
      exact ⟨Nat.le_refl _, by unfold sp_sum; rw [if_pos (by omega), hs, show k - 1 = n.toNat by omega], by unfold sp_sum; rw [if_pos (by omega)]; exact hI⟩
    · skip
      exfalso; omega
  | succ c ih =>
    intro k kk w s hc h1 hkk hw hs
    refine V.iload (pc := 35) d_RR_sum_35 rfl ?_
    refine V.iload_n (pc := 37) 1 d_RR_sum_37 rfl rfl ?_
    refine V.icmp_gt (tgt := 67) (pc := 38) d_RR_sum_38 (by decide) (fun c_38 => ?_) (fun c_38 => ?_)
    · skip
      exfalso; omega
    · skip
      have hb1 := pow_b2 hq (show k ≤ 7 by omega)
      have hb2 := pow_b2 hq (show k - 1 ≤ 7 by omega)
      have hb3 := prod_b2 (show n.toNat ≤ 7 by omega) hq (show k ≤ 7 by omega)
      have hb4 := sS_b (show n.toNat ≤ 7 by omega) hq (k - 1) (by omega)
      have hw2 : w * q = q ^ k := by rw [hw, ← Int.pow_succ, show (k - 1).succ = k by omega]
      refine V.lload (pc := 41) d_RR_sum_41 rfl ?_
      refine V.iload_n (pc := 43) 2 d_RR_sum_43 rfl rfl ?_
      refine V.i2l (pc := 44) d_RR_sum_44 ?_
      refine V.lmul (pc := 45) d_RR_sum_45 ⟨by rw [hw2]; omega, by rw [hw2]; omega⟩ ?_
      rw [hw2]
      refine V.lstore (pc := 46) d_RR_sum_46 (Nat.le_of_ble_eq_true rfl) rfl ?_
      dsimp only [put]
      refine V.lload_n (pc := 48) 3 d_RR_sum_48 rfl rfl ?_
      refine V.lload (pc := 49) d_RR_sum_49 rfl ?_
      refine V.iload_n (pc := 51) 1 d_RR_sum_51 rfl rfl ?_
      refine V.iload (pc := 52) d_RR_sum_52 rfl ?_
      refine V.cS2 (pc := 54) (kc2 := 0) (ks2 := 0) ml_RR_197 (cc_RR_landsOf _ _ (by omega) (by omega) _ _) d_RR_sum_54 (Nat.le_of_ble_eq_true rfl) (Nat.le_of_ble_eq_true rfl) (Nat.le_of_ble_eq_true rfl) (Nat.le_of_ble_eq_true rfl) ?_
      rintro _ _ _ ⟨rfl, rfl, rfl⟩
      dsimp only [Option.toList, List.cons_append, List.nil_append]
      rw [show kk.toNat = k by omega]
      refine V.i2l (pc := 57) d_RR_sum_57 ?_
      refine V.lmul (pc := 58) d_RR_sum_58 ⟨by omega, by omega⟩ ?_
      refine V.ladd (pc := 59) d_RR_sum_59 ⟨by omega, by omega⟩ ?_
      refine V.lstore_n (pc := 60) 3 d_RR_sum_60 rfl (Nat.le_of_ble_eq_true rfl) rfl ?_
      dsimp only [put]
      refine V.iinc (pc := 61) d_RR_sum_61 rfl ⟨by omega, by omega⟩ (Nat.le_of_ble_eq_true rfl) rfl ?_
      dsimp only [put]
      refine V.goto (tgt := 35) (pc := 64) d_RR_sum_64 (by decide) ?_
      refine ih (k + 1) _ _ _ (by omega) (by omega) (by omega) (by rw [show k + 1 - 1 = k by omega]) ?_
      rw [show k + 1 - 1 = k by omega]
      obtain ⟨m, rfl⟩ : ∃ m, k = m + 1 := ⟨k - 1, by omega⟩
      show _ = sS n.toNat q m + q ^ (m + 1) * landT n.toNat (m + 1)
      rw [hs]; rfl
set_option maxRecDepth 20000 in
theorem cs_RR_sum (S : SS) (h : MH) (hI : CI S h) (n q : Int) (sz : Nat) (hsz : 37 ≤ sz) : Ct M_RR_sum 1 0 0 [vR 0, vI n, vI q] h sz (QCL2 (sp_sum S n q) sz) := by
  refine Ct.of rfl (Nat.le_of_ble_eq_true rfl) ?_
  dsimp only [lsOf]
  obtain ⟨gs, gt, tr, en, fs, fp, hB, hcc⟩ := id hI
  obtain ⟨b0, b1, b2, b3, b4, b5, b6, b7⟩ := id hB
  refine V.iload_n (pc := 0) 1 d_RR_sum_0 rfl rfl ?_
  refine V.iconst (pc := 1) d_RR_sum_1 ⟨by decide, by decide⟩ ?_
  refine V.icmp_lt (tgt := 23) (pc := 2) d_RR_sum_2 (by decide) (fun c_2 => ?_) (fun c_2 => ?_)
  · skip
    refine V.ldc2 (pc := 23) (-1000001) ck_RR_203 rfl ⟨by decide, by decide⟩ d_RR_sum_23 ?_
    refine V.ret (pc := 26) (r := some (vL _)) d_RR_sum_26 rfl rfl ?_
    exact ⟨Nat.le_refl _, by unfold sp_sum; rw [if_neg (by omega)], by unfold sp_sum; rw [if_neg (by omega)]; exact hI⟩
  · skip
    refine V.iload_n (pc := 5) 1 d_RR_sum_5 rfl rfl ?_
    refine V.bipush (pc := 6) d_RR_sum_6 ⟨by decide, by decide⟩ ?_
    refine V.icmp_gt (tgt := 23) (pc := 8) d_RR_sum_8 (by decide) (fun c_8 => ?_) (fun c_8 => ?_)
    · skip
      refine V.ldc2 (pc := 23) (-1000001) ck_RR_203 rfl ⟨by decide, by decide⟩ d_RR_sum_23 ?_
      refine V.ret (pc := 26) (r := some (vL _)) d_RR_sum_26 rfl rfl ?_
      exact ⟨Nat.le_refl _, by unfold sp_sum; rw [if_neg (by omega)], by unfold sp_sum; rw [if_neg (by omega)]; exact hI⟩
    · skip
      refine V.iload_n (pc := 11) 2 d_RR_sum_11 rfl rfl ?_
      refine V.bipush (pc := 12) d_RR_sum_12 ⟨by decide, by decide⟩ ?_
      refine V.icmp_lt (tgt := 23) (pc := 14) d_RR_sum_14 (by decide) (fun c_14 => ?_) (fun c_14 => ?_)
      · skip
        refine V.ldc2 (pc := 23) (-1000001) ck_RR_203 rfl ⟨by decide, by decide⟩ d_RR_sum_23 ?_
        refine V.ret (pc := 26) (r := some (vL _)) d_RR_sum_26 rfl rfl ?_
        exact ⟨Nat.le_refl _, by unfold sp_sum; rw [if_neg (by omega)], by unfold sp_sum; rw [if_neg (by omega)]; exact hI⟩
      · skip
        refine V.iload_n (pc := 17) 2 d_RR_sum_17 rfl rfl ?_
        refine V.bipush (pc := 18) d_RR_sum_18 ⟨by decide, by decide⟩ ?_
        refine V.icmp_le (tgt := 27) (pc := 20) d_RR_sum_20 (by decide) (fun c_20 => ?_) (fun c_20 => ?_)
        · skip
          refine V.lconst0 (pc := 27) d_RR_sum_27 ?_
          refine V.lstore_n (pc := 28) 3 d_RR_sum_28 rfl (Nat.le_of_ble_eq_true rfl) rfl ?_
          dsimp only [put]
          refine V.lconst1 (pc := 29) d_RR_sum_29 ?_
          refine V.lstore (pc := 30) d_RR_sum_30 (Nat.le_of_ble_eq_true rfl) rfl ?_
          dsimp only [put]
          refine V.iconst (pc := 32) d_RR_sum_32 ⟨by decide, by decide⟩ ?_
          refine V.istore (pc := 33) d_RR_sum_33 (Nat.le_of_ble_eq_true rfl) rfl ?_
          dsimp only [put]
          exact lq_RR_sum S h hI n q (by omega) (by omega) sz n.toNat 1 1 1 0 (by omega) (by omega) rfl (by rw [show 1 - 1 = 0 from rfl, Int.pow_zero]) rfl
        · skip
          refine V.ldc2 (pc := 23) (-1000001) ck_RR_203 rfl ⟨by decide, by decide⟩ d_RR_sum_23 ?_
          refine V.ret (pc := 26) (r := some (vL _)) d_RR_sum_26 rfl rfl ?_
          exact ⟨Nat.le_refl _, by unfold sp_sum; rw [if_neg (by omega)], by unfold sp_sum; rw [if_neg (by omega)]; exact hI⟩
set_option maxRecDepth 20000 in
theorem cc_Sh_holds (a b t m : Nat) (l i k : Int) (f : Nat → Int) (hm : m ≤ 100) (h : MH) (ha : h a = some (kO 2 [vI l, vR b])) (hb : h b = some (kA t m f)) (sz : Nat) : Ct M_Sh_holds 0 0 0 [vR a, vI i, vI k] h sz (Det (some (vI (if 0 ≤ i ∧ 0 ≤ k ∧ i + k ≤ m then 1 else 0))) h sz) := by
  refine Ct.of rfl (Nat.le_of_ble_eq_true rfl) ?_
  dsimp only [lsOf]
  refine V.lrng 2 rfl (fun hri => ?_)
  obtain ⟨hri1, hri2⟩ := hri
  refine V.iload_n (pc := 0) 1 d_Sh_holds_0 rfl rfl ?_
  refine V.if_lt (tgt := 23) (pc := 1) d_Sh_holds_1 (by decide) (fun c_1 => ?_) (fun c_1 => ?_)
  · skip
    refine V.iconst (pc := 23) d_Sh_holds_23 ⟨by decide, by decide⟩ ?_
    refine V.ret (pc := 24) (r := some (vI _)) d_Sh_holds_24 (Or.inr ⟨rfl, by omega⟩) rfl ?_
    first | exact detT (by omega) | exact detF (by omega)
  · skip
    refine V.iload_n (pc := 4) 2 d_Sh_holds_4 rfl rfl ?_
    refine V.if_lt (tgt := 23) (pc := 5) d_Sh_holds_5 (by decide) (fun c_5 => ?_) (fun c_5 => ?_)
    · skip
      refine V.iconst (pc := 23) d_Sh_holds_23 ⟨by decide, by decide⟩ ?_
      refine V.ret (pc := 24) (r := some (vI _)) d_Sh_holds_24 (Or.inr ⟨rfl, by omega⟩) rfl ?_
      first | exact detT (by omega) | exact detF (by omega)
    · skip
      refine V.iload_n (pc := 8) 1 d_Sh_holds_8 rfl rfl ?_
      refine V.aload_n (pc := 9) 0 d_Sh_holds_9 rfl rfl ?_
      refine V.getf (pc := 10) 1 cl_Sh fl_Sh_13_Sh d_Sh_holds_10 ha (Nat.le_of_ble_eq_true rfl) rfl ?_
      refine V.alen (pc := 13) d_Sh_holds_13 hb ?_
      refine V.iload_n (pc := 14) 2 d_Sh_holds_14 rfl rfl ?_
      refine V.isub (pc := 15) d_Sh_holds_15 ⟨by omega, by omega⟩ ?_
      refine V.icmp_gt (tgt := 23) (pc := 16) d_Sh_holds_16 (by decide) (fun c_16 => ?_) (fun c_16 => ?_)
      · skip
        refine V.iconst (pc := 23) d_Sh_holds_23 ⟨by decide, by decide⟩ ?_
        refine V.ret (pc := 24) (r := some (vI _)) d_Sh_holds_24 (Or.inr ⟨rfl, by omega⟩) rfl ?_
        first | exact detT (by omega) | exact detF (by omega)
      · skip
        refine V.iconst (pc := 19) d_Sh_holds_19 ⟨by decide, by decide⟩ ?_
        refine V.goto (tgt := 24) (pc := 20) d_Sh_holds_20 (by decide) ?_
        refine V.ret (pc := 24) (r := some (vI _)) d_Sh_holds_24 (Or.inr ⟨rfl, by omega⟩) rfl ?_
        first | exact detT (by omega) | exact detF (by omega)
set_option maxRecDepth 20000 in
theorem cc_Sh_cut (a b : Nat) (l v : Int) (hl : 0 ≤ l ∧ l ≤ 2) (h : MH) (ha : h a = some (kO 2 [vI l, vR b])) (sz : Nat) : Ct M_Sh_cut 0 0 0 [vR a, vI v] h sz (Det (some (vI (cutv l v))) h sz) := by
  refine Ct.of rfl (Nat.le_of_ble_eq_true rfl) ?_
  dsimp only [lsOf]
  have hl3 : l = 0 ∨ l = 1 ∨ l = 2 := by omega
  rcases hl3 with rfl | rfl | rfl
  · skip
    refine V.aload_n (pc := 0) 0 d_Sh_cut_0 rfl rfl ?_
    refine V.getf (pc := 1) 0 cl_Sh fl_Sh_7_Sh d_Sh_cut_1 ha (Nat.le_of_ble_eq_true rfl) rfl ?_
    refine V.lsw (pc := 4) (tgt := 32) d_Sh_cut_4 (by decide) rfl (by decide) ?_
    refine V.iload_n (pc := 32) 1 d_Sh_cut_32 rfl rfl ?_
    refine V.i2b (pc := 33) d_Sh_cut_33 ?_
    refine V.ret (pc := 34) (r := some (vI _)) d_Sh_cut_34 (Or.inl rfl) rfl ?_
    exact detR
  · skip
    refine V.aload_n (pc := 0) 0 d_Sh_cut_0 rfl rfl ?_
    refine V.getf (pc := 1) 0 cl_Sh fl_Sh_7_Sh d_Sh_cut_1 ha (Nat.le_of_ble_eq_true rfl) rfl ?_
    refine V.lsw (pc := 4) (tgt := 35) d_Sh_cut_4 (by decide) rfl (by decide) ?_
    refine V.iload_n (pc := 35) 1 d_Sh_cut_35 rfl rfl ?_
    refine V.i2s (pc := 36) d_Sh_cut_36 ?_
    refine V.ret (pc := 37) (r := some (vI _)) d_Sh_cut_37 (Or.inl rfl) rfl ?_
    exact detR
  · skip
    refine V.aload_n (pc := 0) 0 d_Sh_cut_0 rfl rfl ?_
    refine V.getf (pc := 1) 0 cl_Sh fl_Sh_7_Sh d_Sh_cut_1 ha (Nat.le_of_ble_eq_true rfl) rfl ?_
    refine V.lsw (pc := 4) (tgt := 38) d_Sh_cut_4 (by decide) rfl (by decide) ?_
    refine V.iload_n (pc := 38) 1 d_Sh_cut_38 rfl rfl ?_
    refine V.ret (pc := 39) (r := some (vI _)) d_Sh_cut_39 (Or.inl rfl) rfl ?_
    exact detR
/-- a sheet comes, or goes -/
theorem CC.shp {S : SS} {h : MH} {gs gt : Nat → Option Nat} {tr en : Nat → Int} (q : CC S h gs gt tr en) {p : Nat} (hp : p < 8) {o : Option SHT} {v : Option Nat} (x : Int) (hv : C_sh h (upq gs p v) p o) (c2 : MC) : CC (ups S.1 p o, S.2.1, x, S.2.2.2) (hset h 1 c2) (upq gs p v) gt tr en := by
  obtain ⟨q1, q2, q3, q4, q5⟩ := q.set0 (a := 1) (by omega) c2
  refine ⟨q1, q2, q3, fun t ht => ?_, q5⟩
  by_cases e : t = p
  · subst e
    show C_sh _ _ t (ups S.1 t o t)
    rw [ups_e]
    exact hv.go (fun a c ha k => hset_o (by omega) k)
  · show C_sh _ _ t (ups S.1 p o t)
    rw [ups_n e]
    have := q4 t ht
    unfold C_sh at this ⊢
    have e2 : upq gs p v t = gs t := by unfold upq; rw [if_neg e]
    cases e3 : S.1 t with
    | none => rw [e3] at this; exact e2.trans this
    | some T =>
      rw [e3] at this
      obtain ⟨l, n, g⟩ := T
      obtain ⟨a, b, f, a1, a2⟩ := this
      exact ⟨a, b, f, e2.trans a1, a2⟩
theorem CI.shp {S : SS} {h : MH} {gs gt : Nat → Option Nat} {tr en fs fp : Nat → Int} (b : CB S h gs gt tr en fs fp) (c : CC S h gs gt tr en) {p : Nat} (hp : p < 8) {v : Option Nat} {o : Option SHT} (hT : C_sh h (upq gs p v) p o) : CI (sSh S p o) (hset (hset h 1 (kR 0 8 (upq gs p v))) 0 (oRR 0)) := by
  obtain ⟨b0, b1, b2, b3, b4, b5, b6, b7⟩ := b
  exact ⟨_, gt, tr, en, fs, fp, ⟨hset_s, hset_o (by decide) hset_s, hset_o (by decide) (hset_o (by decide) b2), hset_o (by decide) (hset_o (by decide) b3), hset_o (by decide) (hset_o (by decide) b4), hset_o (by decide) (hset_o (by decide) b5), hset_o (by decide) (hset_o (by decide) b6), hset_o (by decide) (hset_o (by decide) b7)⟩, (c.shp hp 0 hT _).set0 (by omega) _⟩
/-- a sheet's items change -/
theorem CI.items {S : SS} {h : MH} {gs gt : Nat → Option Nat} {tr en fs fp : Nat → Int} (bb : CB S h gs gt tr en fs fp) (c : CC S h gs gt tr en) {k : Nat} (hk : k < 8) {l : Int} {n a b : Nat} {f f2 g2 : Nat → Int} (hg : gs k = some a) (ha37 : 37 ≤ a) (hb37 : 37 ≤ b) (ha : h a = some (kO 2 [vI l, vR b])) (hb : h b = some (kA (k + 1) n f)) (hl : 0 ≤ l ∧ l ≤ 2) (hn : n ≤ 100) (hf : ∀ i, i < n → f2 i = g2 i) : CI (sSh S k (some (l, n, g2))) (hset (hset h b (kA (k + 1) n f2)) 0 (oRR 0)) := by
  obtain ⟨b0, b1, b2, b3, b4, b5, b6, b7⟩ := bb
  obtain ⟨q1, q2, q3, q4, q5⟩ := c
  have hex : Ex h (hset (hset h b (kA (k + 1) n f2)) 0 (oRR 0)) := by
    intro a2 c2 h1 h2 h3
    refine hset_o (by omega) (hset_o (fun e => ?_) h2)
    rw [e, hb] at h2
    cases h2
    cases h3
  refine ⟨gs, gt, tr, en, fs, fp, ⟨hset_s, hset_o (by decide) (hset_o (by omega) b1), hset_o (by decide) (hset_o (by omega) b2), hset_o (by decide) (hset_o (by omega) b3), hset_o (by decide) (hset_o (by omega) b4), hset_o (by decide) (hset_o (by omega) b5), hset_o (by decide) (hset_o (by omega) b6), hset_o (by decide) (hset_o (by omega) b7)⟩, fun a2 h1 h2 => ?_, q2, q3, fun t ht => ?_, fun t ht => (q5 t ht).go hex⟩
  · rw [hset_ne (by omega), hset_ne (by omega)]; exact q1 a2 h1 h2
  · by_cases e : t = k
    · subst e
      show C_sh _ gs t (ups S.1 t (some (l, n, g2)) t)
      rw [ups_e]
      exact ⟨a, b, f2, hg, ha37, hb37, hset_o (by omega) (hset_o (fun z => by rw [z, hb] at ha; cases ha) ha), hset_o (by omega) hset_s, hf, hl.1, hl.2, hn⟩
    · show C_sh _ gs t (ups S.1 k (some (l, n, g2)) t)
      rw [ups_n e]
      have := q4 t ht
      unfold C_sh at this ⊢
      cases e3 : S.1 t with
      | none => rw [e3] at this; exact this
      | some T =>
        rw [e3] at this
        obtain ⟨l3, n3, g3⟩ := T
        obtain ⟨a3, b3x, f3, a1, a2, a4, a5, a6, a7⟩ := this
        refine ⟨a3, b3x, f3, a1, a2, a4, hex _ _ a2 a5 trivial, hset_o (by omega) (hset_o (fun z => ?_) a6), a7⟩
        rw [z, hb] at a6
        have e9 : kA (k + 1) n f = kA (t + 1) n3 f3 := Option.some.inj a6
        have e8 := (Prod.mk.inj (Prod.mk.inj (Sum.inl.inj e9)).2).1
        omega
set_option maxRecDepth 20000 in
theorem cs_RR_drop (S : SS) (h : MH) (hI : CI S h) (sh : Int) (sz : Nat) (hsz : 37 ≤ sz) : Ct M_RR_drop 1 0 0 [vR 0, vI sh] h sz (QCI (sp_drop S sh) sz) := by
  refine Ct.of rfl (Nat.le_of_ble_eq_true rfl) ?_
  dsimp only [lsOf]
  obtain ⟨gs, gt, tr, en, fs, fp, hB, hcc⟩ := id hI
  obtain ⟨b0, b1, b2, b3, b4, b5, b6, b7⟩ := id hB
  refine V.iload_n (pc := 0) 1 d_RR_drop_0 rfl rfl ?_
  refine V.cS1 (pc := 1) (kc2 := 0) (ks2 := 0) ml_RR_46 (cc_RR_isSheet _ _ _) d_RR_drop_1 (Nat.le_of_ble_eq_true rfl) (Nat.le_of_ble_eq_true rfl) (Nat.le_of_ble_eq_true rfl) (Nat.le_of_ble_eq_true rfl) ?_
  rintro _ _ _ ⟨rfl, rfl, rfl⟩
  dsimp only [Option.toList, List.cons_append, List.nil_append]
  refine V.ifB_ne (tgt := 10) (pc := 4) d_RR_drop_4 (by decide) (fun c_4 => ?_) (fun c_4 => ?_)
  · skip
    rcases csh_cases (hcc.2.2.2.1 sh.toNat (by omega)) with ⟨hS, hgt⟩ | ⟨l, m, g, a, bi, f, hS, hgt, ha, hb, hoa, hob, hfg, hl1, hl2, hm⟩
    rotate_left
    · skip
      refine V.aload_n (pc := 10) 0 d_RR_drop_10 rfl rfl ?_
      refine V.getf (pc := 11) 0 cl_RR fl_RR_11_RR d_RR_drop_11 b0 (Nat.le_of_ble_eq_true rfl) rfl ?_
      refine V.iload_n (pc := 14) 1 d_RR_drop_14 rfl rfl ?_
      refine V.aald0 (pc := 15) d_RR_drop_15 b1 (by omega) (by omega) ?_
      rw [hgt]
      refine V.astore_n (pc := 16) 2 d_RR_drop_16 rfl (Nat.le_of_ble_eq_true rfl) rfl ?_
      dsimp only [put]
      refine V.aload_n (pc := 17) 2 d_RR_drop_17 rfl rfl ?_
      refine V.ifnonnull (tgt := 27) (pc := 18) d_RR_drop_18 (by decide) (fun a_18 c_18 => ?_) (fun c_18 => ?_)
      · skip
        refine V.aload_n (pc := 27) 0 d_RR_drop_27 rfl rfl ?_
        refine V.getf (pc := 28) 0 cl_RR fl_RR_11_RR d_RR_drop_28 b0 (Nat.le_of_ble_eq_true rfl) rfl ?_
        refine V.iload_n (pc := 31) 1 d_RR_drop_31 rfl rfl ?_
        refine V.anull (pc := 32) d_RR_drop_32 ?_
        refine V.aastN0 (pc := 33) d_RR_drop_33 b1 (by omega) (by omega) ?_
        refine V.aload_n (pc := 34) 0 d_RR_drop_34 rfl rfl ?_
        refine V.aload_n (pc := 35) 2 d_RR_drop_35 rfl rfl ?_
        refine V.getf (pc := 36) 1 cl_Sh fl_RR_65_Sh d_RR_drop_36 (hset_o (by omega) hoa) (Nat.le_of_ble_eq_true rfl) rfl ?_
        refine V.alen (pc := 39) d_RR_drop_39 (hset_o (by omega) hob) ?_
        refine V.cV1 (pc := 40) (kc2 := 0) (ks2 := 0) ml_RR_58 (hset_o (by omega) b0) (cc_RR_settled _ _ _ (hset_o (by omega) b0) _) d_RR_drop_40 (Nat.le_of_ble_eq_true rfl) (Nat.le_of_ble_eq_true rfl) (Nat.le_of_ble_eq_true rfl) (Nat.le_of_ble_eq_true rfl) ?_
        rintro _ _ _ ⟨rfl, rfl, rfl⟩
        dsimp only [Option.toList, List.cons_append, List.nil_append]
        refine V.ret (pc := 43) (r := some (vI _)) d_RR_drop_43 (Or.inl rfl) rfl ?_
        refine qc_of (S2 := sSh S sh.toNat none) (Nat.le_refl _) ?_ (CI.shp hB hcc (by omega) (v := none) ?_)
        · unfold sp_drop; rw [if_pos (by omega)]; simp only [hS]
        · show upq gs sh.toNat none sh.toNat = none
          unfold upq; rw [if_pos rfl]
      · skip
        cases c_18
    · skip
      refine V.aload_n (pc := 10) 0 d_RR_drop_10 rfl rfl ?_
      refine V.getf (pc := 11) 0 cl_RR fl_RR_11_RR d_RR_drop_11 b0 (Nat.le_of_ble_eq_true rfl) rfl ?_
      refine V.iload_n (pc := 14) 1 d_RR_drop_14 rfl rfl ?_
      refine V.aald0 (pc := 15) d_RR_drop_15 b1 (by omega) (by omega) ?_
      rw [hgt]
      refine V.astore_n (pc := 16) 2 d_RR_drop_16 rfl (Nat.le_of_ble_eq_true rfl) rfl ?_
      dsimp only [put]
      refine V.aload_n (pc := 17) 2 d_RR_drop_17 rfl rfl ?_
      refine V.ifnonnull (tgt := 27) (pc := 18) d_RR_drop_18 (by decide) (fun a_18 c_18 => ?_) (fun c_18 => ?_)
      · skip
        cases c_18
      · skip
        refine V.aload_n (pc := 21) 0 d_RR_drop_21 rfl rfl ?_
        refine V.iconst (pc := 22) d_RR_drop_22 ⟨by decide, by decide⟩ ?_
        refine V.cV1 (pc := 23) (kc2 := 0) (ks2 := 0) ml_RR_51 b0 (cc_RR_found _ _ (by omega) _ b0 _) d_RR_drop_23 (Nat.le_of_ble_eq_true rfl) (Nat.le_of_ble_eq_true rfl) (Nat.le_of_ble_eq_true rfl) (Nat.le_of_ble_eq_true rfl) ?_
        rintro _ _ _ ⟨rfl, rfl, rfl⟩
        dsimp only [Option.toList, List.cons_append, List.nil_append]
        first | rw [fi1] | rw [fi2] | rw [fi3] | rw [fi4] | rw [fi5]
        refine V.ret (pc := 26) (r := some (vI _)) d_RR_drop_26 (Or.inl rfl) rfl ?_
        refine qc_of (S2 := sSt S 1) (Nat.le_refl _) ?_ (hI.st 1)
        unfold sp_drop; rw [if_pos (by omega)]; simp only [hS]
  · skip
    refine V.ldc (pc := 7) (-1000001) ck_RR_50 rfl ⟨by decide, by decide⟩ d_RR_drop_7 ?_
    refine V.ret (pc := 9) (r := some (vI _)) d_RR_drop_9 (Or.inl rfl) rfl ?_
    exact qc_of (Nat.le_refl _) (by unfold sp_drop; rw [if_neg (by omega)]) hI
set_option maxRecDepth 20000 in
theorem cs_RR_set (S : SS) (h : MH) (hI : CI S h) (sh i v : Int) (sz : Nat) (hsz : 37 ≤ sz) : Ct M_RR_set 1 0 0 [vR 0, vI sh, vI i, vI v] h sz (QCI (sp_set S sh i v) sz) := by
  refine Ct.of rfl (Nat.le_of_ble_eq_true rfl) ?_
  dsimp only [lsOf]
  obtain ⟨gs, gt, tr, en, fs, fp, hB, hcc⟩ := id hI
  obtain ⟨b0, b1, b2, b3, b4, b5, b6, b7⟩ := id hB
  refine V.iload_n (pc := 0) 1 d_RR_set_0 rfl rfl ?_
  refine V.cS1 (pc := 1) (kc2 := 0) (ks2 := 0) ml_RR_46 (cc_RR_isSheet _ _ _) d_RR_set_1 (Nat.le_of_ble_eq_true rfl) (Nat.le_of_ble_eq_true rfl) (Nat.le_of_ble_eq_true rfl) (Nat.le_of_ble_eq_true rfl) ?_
  rintro _ _ _ ⟨rfl, rfl, rfl⟩
  dsimp only [Option.toList, List.cons_append, List.nil_append]
  refine V.ifB_ne (tgt := 10) (pc := 4) d_RR_set_4 (by decide) (fun c_4 => ?_) (fun c_4 => ?_)
  · skip
    rcases csh_cases (hcc.2.2.2.1 sh.toNat (by omega)) with ⟨hS, hgt⟩ | ⟨l, m, g, a, bi, f, hS, hgt, ha, hb, hoa, hob, hfg, hl1, hl2, hm⟩
    rotate_left
    · skip
      have hne : a ≠ bi := fun z => by rw [z, hob] at hoa; cases hoa
      refine V.aload_n (pc := 10) 0 d_RR_set_10 rfl rfl ?_
      refine V.getf (pc := 11) 0 cl_RR fl_RR_11_RR d_RR_set_11 b0 (Nat.le_of_ble_eq_true rfl) rfl ?_
      refine V.iload_n (pc := 14) 1 d_RR_set_14 rfl rfl ?_
      refine V.aald0 (pc := 15) d_RR_set_15 b1 (by omega) (by omega) ?_
      rw [hgt]
      refine V.astore (pc := 16) d_RR_set_16 (Nat.le_of_ble_eq_true rfl) rfl ?_
      dsimp only [put]
      refine V.aload (pc := 18) d_RR_set_18 rfl ?_
      refine V.ifnonnull (tgt := 29) (pc := 20) d_RR_set_20 (by decide) (fun a_20 c_20 => ?_) (fun c_20 => ?_)
      · skip
        refine V.aload (pc := 29) d_RR_set_29 rfl ?_
        refine V.iload_n (pc := 31) 2 d_RR_set_31 rfl rfl ?_
        refine V.iconst (pc := 32) d_RR_set_32 ⟨by decide, by decide⟩ ?_
        refine V.cV2 (pc := 33) (kc2 := 0) (ks2 := 0) ml_RR_61 hoa (cc_Sh_holds a bi _ m l _ _ f hm _ hoa hob _) d_RR_set_33 (Nat.le_of_ble_eq_true rfl) (Nat.le_of_ble_eq_true rfl) (Nat.le_of_ble_eq_true rfl) (Nat.le_of_ble_eq_true rfl) ?_
        rintro _ _ _ ⟨rfl, rfl, rfl⟩
        dsimp only [Option.toList, List.cons_append, List.nil_append]
        refine V.ifB_ne (tgt := 45) (pc := 36) d_RR_set_36 (by decide) (fun c_36 => ?_) (fun c_36 => ?_)
        · skip
          refine V.aload (pc := 45) d_RR_set_45 rfl ?_
          refine V.getf (pc := 47) 1 cl_Sh fl_RR_65_Sh d_RR_set_47 hoa (Nat.le_of_ble_eq_true rfl) rfl ?_
          refine V.iload_n (pc := 50) 2 d_RR_set_50 rfl rfl ?_
          refine V.aload (pc := 51) d_RR_set_51 rfl ?_
          refine V.iload_n (pc := 53) 3 d_RR_set_53 rfl rfl ?_
          refine V.cV1 (pc := 54) (kc2 := 0) (ks2 := 0) ml_RR_68 hoa (cc_Sh_cut a bi l _ (by omega) _ hoa _) d_RR_set_54 (Nat.le_of_ble_eq_true rfl) (Nat.le_of_ble_eq_true rfl) (Nat.le_of_ble_eq_true rfl) (Nat.le_of_ble_eq_true rfl) ?_
          rintro _ _ _ ⟨rfl, rfl, rfl⟩
          dsimp only [Option.toList, List.cons_append, List.nil_append]
          refine V.iast (pc := 57) d_RR_set_57 hob (by omega) (by omega) ?_
          refine V.aload_n (pc := 58) 0 d_RR_set_58 rfl rfl ?_
          refine V.aload (pc := 59) d_RR_set_59 rfl ?_
          refine V.getf (pc := 61) 1 cl_Sh fl_RR_65_Sh d_RR_set_61 (hset_o (by omega) hoa) (Nat.le_of_ble_eq_true rfl) rfl ?_
          refine V.iload_n (pc := 64) 2 d_RR_set_64 rfl rfl ?_
          refine V.iald (pc := 65) d_RR_set_65 hset_s (by omega) (by omega) ?_
          refine V.cV1 (pc := 66) (kc2 := 0) (ks2 := 0) ml_RR_58 (hset_o (by omega) b0) (cc_RR_settled _ _ _ (hset_o (by omega) b0) _) d_RR_set_66 (Nat.le_of_ble_eq_true rfl) (Nat.le_of_ble_eq_true rfl) (Nat.le_of_ble_eq_true rfl) (Nat.le_of_ble_eq_true rfl) ?_
          rintro _ _ _ ⟨rfl, rfl, rfl⟩
          dsimp only [Option.toList, List.cons_append, List.nil_append]
          refine V.ret (pc := 69) (r := some (vI _)) d_RR_set_69 (Or.inl rfl) rfl ?_
          refine qc_of (S2 := sSh S sh.toNat (some (l, m, upf g i.toNat (cutv l v)))) (Nat.le_refl _) ?_ (CI.items hB hcc (by omega) hgt ha hb hoa hob ⟨hl1, hl2⟩ hm (fun q hq => ?_))
          · unfold sp_set; rw [if_pos (by omega)]; simp only [hS]; rw [if_pos (by omega), upf_e]
          · unfold upf
            by_cases e : q = i.toNat
            · rw [if_pos e, if_pos e]
            · rw [if_neg e, if_neg e]; exact hfg q hq
        · skip
          refine V.aload_n (pc := 39) 0 d_RR_set_39 rfl rfl ?_
          refine V.iconst (pc := 40) d_RR_set_40 ⟨by decide, by decide⟩ ?_
          refine V.cV1 (pc := 41) (kc2 := 0) (ks2 := 0) ml_RR_51 b0 (cc_RR_found _ _ (by omega) _ b0 _) d_RR_set_41 (Nat.le_of_ble_eq_true rfl) (Nat.le_of_ble_eq_true rfl) (Nat.le_of_ble_eq_true rfl) (Nat.le_of_ble_eq_true rfl) ?_
          rintro _ _ _ ⟨rfl, rfl, rfl⟩
          dsimp only [Option.toList, List.cons_append, List.nil_append]
          first | rw [fi1] | rw [fi2] | rw [fi3] | rw [fi4] | rw [fi5]
          refine V.ret (pc := 44) (r := some (vI _)) d_RR_set_44 (Or.inl rfl) rfl ?_
          refine qc_of (S2 := sSt S 2) (Nat.le_refl _) ?_ (hI.st 2)
          unfold sp_set; rw [if_pos (by omega)]; simp only [hS]; rw [if_neg (by omega)]
      · skip
        cases c_20
    · skip
      refine V.aload_n (pc := 10) 0 d_RR_set_10 rfl rfl ?_
      refine V.getf (pc := 11) 0 cl_RR fl_RR_11_RR d_RR_set_11 b0 (Nat.le_of_ble_eq_true rfl) rfl ?_
      refine V.iload_n (pc := 14) 1 d_RR_set_14 rfl rfl ?_
      refine V.aald0 (pc := 15) d_RR_set_15 b1 (by omega) (by omega) ?_
      rw [hgt]
      refine V.astore (pc := 16) d_RR_set_16 (Nat.le_of_ble_eq_true rfl) rfl ?_
      dsimp only [put]
      refine V.aload (pc := 18) d_RR_set_18 rfl ?_
      refine V.ifnonnull (tgt := 29) (pc := 20) d_RR_set_20 (by decide) (fun a_20 c_20 => ?_) (fun c_20 => ?_)
      · skip
        cases c_20
      · skip
        refine V.aload_n (pc := 23) 0 d_RR_set_23 rfl rfl ?_
        refine V.iconst (pc := 24) d_RR_set_24 ⟨by decide, by decide⟩ ?_
        refine V.cV1 (pc := 25) (kc2 := 0) (ks2 := 0) ml_RR_51 b0 (cc_RR_found _ _ (by omega) _ b0 _) d_RR_set_25 (Nat.le_of_ble_eq_true rfl) (Nat.le_of_ble_eq_true rfl) (Nat.le_of_ble_eq_true rfl) (Nat.le_of_ble_eq_true rfl) ?_
        rintro _ _ _ ⟨rfl, rfl, rfl⟩
        dsimp only [Option.toList, List.cons_append, List.nil_append]
        first | rw [fi1] | rw [fi2] | rw [fi3] | rw [fi4] | rw [fi5]
        refine V.ret (pc := 28) (r := some (vI _)) d_RR_set_28 (Or.inl rfl) rfl ?_
        refine qc_of (S2 := sSt S 1) (Nat.le_refl _) ?_ (hI.st 1)
        unfold sp_set; rw [if_pos (by omega)]; simp only [hS]
  · skip
    refine V.ldc (pc := 7) (-1000001) ck_RR_50 rfl ⟨by decide, by decide⟩ d_RR_set_7 ?_
    refine V.ret (pc := 9) (r := some (vI _)) d_RR_set_9 (Or.inl rfl) rfl ?_
    exact qc_of (Nat.le_refl _) (by unfold sp_set; rw [if_neg (by omega)]) hI
theorem hset_ex {h : MH} {a b : Nat} {c d e : MC} (n : a ≠ b) : hset (hset (hset h a c) b d) a e = hset (hset (hset h a c) a e) b d := by
  funext x; unfold hset
  by_cases e1 : x = a
  · rw [if_pos e1, if_neg (by omega), if_pos e1]
  · simp only [if_neg e1]
theorem grow2 {S : SS} {h h2 : MH} {gs gt : Nat → Option Nat} {tr en fs fp : Nat → Int} (b : CB S h gs gt tr en fs fp) (c : CC S h gs gt tr en) (g : Gr h h2) : CB S h2 gs gt tr en fs fp ∧ CC S h2 gs gt tr en := by
  obtain ⟨b0, b1, b2, b3, b4, b5, b6, b7⟩ := b
  exact ⟨⟨g.1 _ _ b0, g.1 _ _ b1, g.1 _ _ b2, g.1 _ _ b3, g.1 _ _ b4, g.1 _ _ b5, g.1 _ _ b6, g.1 _ _ b7⟩, c.keep (fun a c _ k => g.1 a c k) (fun a _ h2 => g.2 a h2)⟩
set_option maxRecDepth 20000 in
theorem cs_RR_sheet (S : SS) (h : MH) (hI : CI S h) (sh ln n : Int) (sz : Nat) (hsz : 37 ≤ sz) : Ct M_RR_sheet 3 2 102 [vR 0, vI sh, vI ln, vI n] h sz (QCI (sp_sheet S sh ln n) sz) := by
  refine Ct.of rfl (Nat.le_of_ble_eq_true rfl) ?_
  dsimp only [lsOf]
  obtain ⟨gs, gt, tr, en, fs, fp, hB, hcc⟩ := id hI
  obtain ⟨b0, b1, b2, b3, b4, b5, b6, b7⟩ := id hB
  refine V.fresh (fun hfr => ?_)
  refine V.iload_n (pc := 0) 1 d_RR_sheet_0 rfl rfl ?_
  refine V.cS1 (pc := 1) (kc2 := 2) (ks2 := 102) ml_RR_46 (cc_RR_isSheet _ _ _) d_RR_sheet_1 (Nat.le_of_ble_eq_true rfl) (Nat.le_of_ble_eq_true rfl) (Nat.le_of_ble_eq_true rfl) (Nat.le_of_ble_eq_true rfl) ?_
  rintro _ h9 s9 ⟨rfl, hq2, hq3⟩
  rw [hq2, hq3]
  clear hq2 hq3 h9 s9
  dsimp only [Option.toList, List.cons_append, List.nil_append]
  refine V.ifB_eq (tgt := 22) (pc := 4) d_RR_sheet_4 (by decide) (fun c_4 => ?_) (fun c_4 => ?_)
  · skip
    refine V.ldc (pc := 22) (-1000001) ck_RR_50 rfl ⟨by decide, by decide⟩ d_RR_sheet_22 ?_
    refine V.ret (pc := 24) (r := some (vI _)) d_RR_sheet_24 (Or.inl rfl) rfl ?_
    exact qc_of (Nat.le_refl _) (by unfold sp_sheet; rw [if_neg (by omega)]) hI
  · skip
    refine V.iload_n (pc := 7) 2 d_RR_sheet_7 rfl rfl ?_
    refine V.if_lt (tgt := 22) (pc := 8) d_RR_sheet_8 (by decide) (fun c_8 => ?_) (fun c_8 => ?_)
    · skip
      refine V.ldc (pc := 22) (-1000001) ck_RR_50 rfl ⟨by decide, by decide⟩ d_RR_sheet_22 ?_
      refine V.ret (pc := 24) (r := some (vI _)) d_RR_sheet_24 (Or.inl rfl) rfl ?_
      exact qc_of (Nat.le_refl _) (by unfold sp_sheet; rw [if_neg (by omega)]) hI
    · skip
      refine V.iload_n (pc := 11) 2 d_RR_sheet_11 rfl rfl ?_
      refine V.iconst (pc := 12) d_RR_sheet_12 ⟨by decide, by decide⟩ ?_
      refine V.icmp_ge (tgt := 22) (pc := 13) d_RR_sheet_13 (by decide) (fun c_13 => ?_) (fun c_13 => ?_)
      · skip
        refine V.ldc (pc := 22) (-1000001) ck_RR_50 rfl ⟨by decide, by decide⟩ d_RR_sheet_22 ?_
        refine V.ret (pc := 24) (r := some (vI _)) d_RR_sheet_24 (Or.inl rfl) rfl ?_
        exact qc_of (Nat.le_refl _) (by unfold sp_sheet; rw [if_neg (by omega)]) hI
      · skip
        refine V.iload_n (pc := 16) 3 d_RR_sheet_16 rfl rfl ?_
        refine V.bipush (pc := 17) d_RR_sheet_17 ⟨by decide, by decide⟩ ?_
        refine V.icmp_le (tgt := 25) (pc := 19) d_RR_sheet_19 (by decide) (fun c_19 => ?_) (fun c_19 => ?_)
        · skip
          refine V.iload_n (pc := 25) 3 d_RR_sheet_25 rfl rfl ?_
          refine V.if_ge (tgt := 35) (pc := 26) d_RR_sheet_26 (by decide) (fun c_26 => ?_) (fun c_26 => ?_)
          · skip
            refine V.aload_n (pc := 35) 0 d_RR_sheet_35 rfl rfl ?_
            refine V.getf (pc := 36) 0 cl_RR fl_RR_11_RR d_RR_sheet_36 b0 (Nat.le_of_ble_eq_true rfl) rfl ?_
            refine V.iload_n (pc := 39) 1 d_RR_sheet_39 rfl rfl ?_
            refine V.new (pc := 40) d0_Sh (kc2 := 1) (ks2 := 100) cl_Sh cl_RR_9 nw_Sh.1 nw_Sh.2 d_RR_sheet_40 df_Sh ok_Sh (Nat.le_of_ble_eq_true rfl) (Nat.le_of_ble_eq_true rfl) ?_
            refine V.dup (pc := 43) d_RR_sheet_43 (fun _ => rfl) ?_
            refine V.iload_n (pc := 44) 2 d_RR_sheet_44 rfl rfl ?_
            refine V.iload_n (pc := 45) 3 d_RR_sheet_45 rfl rfl ?_
            refine V.newi (pc := 46) (sh.toNat + 1) (kc2 := 0) (ks2 := 0) d_RR_sheet_46 (by omega) (by omega) (Nat.le_of_ble_eq_true rfl) (by omega) ?_
            refine V.cI2 (pc := 48) (kc2 := 0) (ks2 := 0) ml_RR_55 (ci_Sh_init sz ln (sz + 1) _ (hset_o (by omega) hset_s) _) d_RR_sheet_48 (Nat.le_of_ble_eq_true rfl) (Nat.le_of_ble_eq_true rfl) (Nat.le_of_ble_eq_true rfl) (Nat.le_of_ble_eq_true rfl) ?_
            rintro _ h9 s9 ⟨rfl, hq2, hq3⟩
            rw [hq2, hq3]
            clear hq2 hq3 h9 s9
            dsimp only [Option.toList, List.cons_append, List.nil_append]
            rw [hset_ex (by omega), hset_tw]
            refine V.aast0 (pc := 51) cl_Sh (Or.inl rfl) d_RR_sheet_51 (hset_o (by omega) (hset_o (by omega) b1)) (hset_o (by omega) hset_s) (by omega) (by omega) ?_
            refine V.aload_n (pc := 52) 0 d_RR_sheet_52 rfl rfl ?_
            refine V.iload_n (pc := 53) 3 d_RR_sheet_53 rfl rfl ?_
            refine V.cV1 (pc := 54) (kc2 := 0) (ks2 := 0) ml_RR_58 (hset_o (by omega) (hset_o (by omega) (hset_o (by omega) b0))) (cc_RR_settled _ _ _ (hset_o (by omega) (hset_o (by omega) (hset_o (by omega) b0))) _) d_RR_sheet_54 (Nat.le_of_ble_eq_true rfl) (Nat.le_of_ble_eq_true rfl) (Nat.le_of_ble_eq_true rfl) (Nat.le_of_ble_eq_true rfl) ?_
            rintro _ h9 s9 ⟨rfl, hq2, hq3⟩
            rw [hq2, hq3]
            clear hq2 hq3 h9 s9
            dsimp only [Option.toList, List.cons_append, List.nil_append]
            refine V.ret (pc := 57) (r := some (vI _)) d_RR_sheet_57 (Or.inl rfl) rfl ?_
            have hg : Gr h (hset (hset h sz (kO 2 [vI ln, vR (sz + 1)])) (sz + 1) (kA (sh.toNat + 1) n.toNat (fun _ => 0))) := ((Gr.rf h).new _ hsz (fr_none hfr (Nat.le_refl _))).new _ (by omega) (fr_none hfr (by omega))
            obtain ⟨e0, e1⟩ := grow2 hB hcc hg
            refine qc_of (S2 := sSh S sh.toNat (some (ln, n.toNat, fun _ => 0))) (by omega) ?_ (CI.shp e0 e1 (by omega) (v := some sz) ?_)
            · unfold sp_sheet; rw [if_pos (by omega), if_neg (by omega)]
            · exact ⟨sz, sz + 1, fun _ => 0, by unfold upq; rw [if_pos rfl], hsz, by omega, hset_o (by omega) hset_s, hset_s, fun _ _ => rfl, by omega, by omega, by omega⟩
          · skip
            refine V.aload_n (pc := 29) 0 d_RR_sheet_29 rfl rfl ?_
            refine V.iconst (pc := 30) d_RR_sheet_30 ⟨by decide, by decide⟩ ?_
            refine V.cV1 (pc := 31) (kc2 := 2) (ks2 := 102) ml_RR_51 b0 (cc_RR_found _ _ (by omega) _ b0 _) d_RR_sheet_31 (Nat.le_of_ble_eq_true rfl) (Nat.le_of_ble_eq_true rfl) (Nat.le_of_ble_eq_true rfl) (Nat.le_of_ble_eq_true rfl) ?_
            rintro _ h9 s9 ⟨rfl, hq2, hq3⟩
            rw [hq2, hq3]
            clear hq2 hq3 h9 s9
            dsimp only [Option.toList, List.cons_append, List.nil_append]
            first | rw [fi1] | rw [fi2] | rw [fi3] | rw [fi4] | rw [fi5]
            refine V.ret (pc := 34) (r := some (vI _)) d_RR_sheet_34 (Or.inl rfl) rfl ?_
            refine qc_of (S2 := sSt S 4) (Nat.le_refl _) ?_ (hI.st 4)
            unfold sp_sheet; rw [if_pos (by omega), if_pos (by omega)]
        · skip
          refine V.ldc (pc := 22) (-1000001) ck_RR_50 rfl ⟨by decide, by decide⟩ d_RR_sheet_22 ?_
          refine V.ret (pc := 24) (r := some (vI _)) d_RR_sheet_24 (Or.inl rfl) rfl ?_
          exact qc_of (Nat.le_refl _) (by unfold sp_sheet; rw [if_neg (by omega)]) hI
