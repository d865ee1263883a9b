/-! THE REFERENCE: lands, sum, printed by wip/whole/gen/refW.py -/
def sp_lands (S : SS) (n k : Int) : Int × SS := if (1 ≤ n ∧ n ≤ 7) ∧ 0 ≤ k then (if 7 < k then 0 else landT n.toNat k.toNat, S) else (-1000001, S)
/-- the sum of q to the loops, over the lands of n with at most k loops -/
def sS (n : Nat) (q : Int) : Nat → Int
  | 0 => 0
  | k + 1 => sS n q k + q ^ (k + 1) * landT n (k + 1)
def sp_sum (S : SS) (n q : Int) : Int × SS := if (1 ≤ n ∧ n ≤ 7) ∧ (-9 ≤ q ∧ q ≤ 9) then (sS n.toNat q n.toNat, S) else (-1000001, S)
def QSL (x : Int × SS) (sz : Nat) : QT := fun r h s => s = sz ∧ r = some (vL x.1) ∧ ∃ τ, h = hM τ ∧ RI x.2 τ
theorem RI.el {S : SS} {σ τ : SM} (hI : RI S σ) (h : EL σ τ) (hl : R_ld (τ 24) (τ 25)) : RI S τ := by
  obtain ⟨h1, h2, h3, h4, h5, h6, h7⟩ := hI
  have e : ∀ j, j ≠ 13 → j ≠ 14 → j ≠ 19 → j ≠ 20 → j ≠ 21 → j ≠ 22 → j ≠ 24 → j ≠ 25 → j ≠ 28 → τ j = σ j := h.1
  refine ⟨?_, ?_, ?_, h.2, hl, ?_, ?_⟩
  · rw [e 0 (by decide) (by decide) (by decide) (by decide) (by decide) (by decide) (by decide) (by decide) (by decide), e 1 (by decide) (by decide) (by decide) (by decide) (by decide) (by decide) (by decide) (by decide) (by decide), e 2 (by decide) (by decide) (by decide) (by decide) (by decide) (by decide) (by decide) (by decide) (by decide)]; exact h1
  · rw [e 4 (by decide) (by decide) (by decide) (by decide) (by decide) (by decide) (by decide) (by decide) (by decide), e 5 (by decide) (by decide) (by decide) (by decide) (by decide) (by decide) (by decide) (by decide) (by decide), e 6 (by decide) (by decide) (by decide) (by decide) (by decide) (by decide) (by decide) (by decide) (by decide), e 7 (by decide) (by decide) (by decide) (by decide) (by decide) (by decide) (by decide) (by decide) (by decide), e 8 (by decide) (by decide) (by decide) (by decide) (by decide) (by decide) (by decide) (by decide) (by decide), e 9 (by decide) (by decide) (by decide) (by decide) (by decide) (by decide) (by decide) (by decide) (by decide)]; exact h2
  · rw [e 10 (by decide) (by decide) (by decide) (by decide) (by decide) (by decide) (by decide) (by decide) (by decide), e 11 (by decide) (by decide) (by decide) (by decide) (by decide) (by decide) (by decide) (by decide) (by decide), e 12 (by decide) (by decide) (by decide) (by decide) (by decide) (by decide) (by decide) (by decide) (by decide)]; exact h3
  · rw [e 26 (by decide) (by decide) (by decide) (by decide) (by decide) (by decide) (by decide) (by decide) (by decide)]; exact h6
  · rw [e 27 (by decide) (by decide) (by decide) (by decide) (by decide) (by decide) (by decide) (by decide) (by decide)]; exact h7
theorem pow_b : ∀ q : Fin 19, ∀ k : Fin 8, -4782969 ≤ ((q.val : Int) - 9) ^ k.val ∧ ((q.val : Int) - 9) ^ k.val ≤ 4782969 := by decide +kernel
theorem prod_b : ∀ n : Fin 8, ∀ q : Fin 19, ∀ k : Fin 8, -1000000000000 ≤ ((q.val : Int) - 9) ^ k.val * landT n.val k.val ∧ ((q.val : Int) - 9) ^ k.val * landT n.val k.val ≤ 1000000000000 := by decide +kernel
theorem pow_b2 {q : Int} (hq : -9 ≤ q ∧ q ≤ 9) {k : Nat} (hk : k ≤ 7) : -4782969 ≤ q ^ k ∧ q ^ k ≤ 4782969 := by
  have := pow_b ⟨(q + 9).toNat, by omega⟩ ⟨k, by omega⟩
  have e : (((q + 9).toNat : Nat) : Int) - 9 = q := by omega
  simp only [e] at this
  exact this
theorem prod_b2 {n : Nat} (hn : n ≤ 7) {q : Int} (hq : -9 ≤ q ∧ q ≤ 9) {k : Nat} (hk : k ≤ 7) : -1000000000000 ≤ q ^ k * landT n k ∧ q ^ k * landT n k ≤ 1000000000000 := by
  have := prod_b ⟨n, by omega⟩ ⟨(q + 9).toNat, by omega⟩ ⟨k, by omega⟩
  have e : (((q + 9).toNat : Nat) : Int) - 9 = q := by omega
  simp only [e] at this
  exact this
theorem sS_b {n : Nat} (hn : n ≤ 7) {q : Int} (hq : -9 ≤ q ∧ q ≤ 9) : ∀ k : Nat, k ≤ 7 → -(1000000000000 * (k : Int)) ≤ sS n q k ∧ sS n q k ≤ 1000000000000 * (k : Int)
  | 0, _ => ⟨Int.le_refl 0, Int.le_refl 0⟩
  | k + 1, hk => by
    have h1 := sS_b hn hq k (by omega)
    have h2 := prod_b2 hn hq hk
    have e : sS n q (k + 1) = sS n q k + q ^ (k + 1) * landT n (k + 1) := rfl
    rw [e]
    generalize q ^ (k + 1) * landT n (k + 1) = z at h2
    omega
set_option maxRecDepth 20000 in
theorem cs_Mo_lands (S : SS) (σ : SM) (hI : RI S σ) (n k : Int) (sz : Nat) : Ct M_Mo_lands 4 0 0 [vR 8, vI n, vI k] (hM σ) sz (QS (sp_lands S n k) sz) := by
  refine Ct.of rfl (Nat.le_of_ble_eq_true rfl) ?_
  dsimp only [lsOf]
  refine V.iload_n (pc := 0) 1 d_Mo_lands_0 rfl rfl ?_
  refine V.i2l (pc := 1) d_Mo_lands_1 ?_
  refine V.lconst1 (pc := 2) d_Mo_lands_2 ?_
  refine V.ldc2 (pc := 3) (7) ck_Mo_100 rfl ⟨by decide, by decide⟩ d_Mo_lands_3 ?_
  refine V.cS3 (pc := 6) (kc2 := 0) (ks2 := 0) ml_Mo_102 (ct_Mo_in _ _ _ _ _) d_Mo_lands_6 (Nat.le_of_ble_eq_true rfl) (Nat.le_of_ble_eq_true rfl) (Nat.le_of_ble_eq_true rfl) (Nat.le_of_ble_eq_true rfl) ?_
  rintro _ _ _ ⟨rfl, rfl, rfl⟩
  dsimp only [Option.toList, List.cons_append, List.nil_append]
  refine V.ifB_eq (tgt := 16) (pc := 9) d_Mo_lands_9 (by decide) (fun c_9 => ?_) (fun c_9 => ?_)
  · skip
    refine V.ldc (pc := 16) (-1000001) ck_Mo_112 rfl ⟨by decide, by decide⟩ d_Mo_lands_16 ?_
    refine V.ret (pc := 18) (r := some (vI _)) d_Mo_lands_18 (Or.inl rfl) rfl ?_
    exact qs_of (by unfold sp_lands; rw [if_neg (by omega)]) hI
  · skip
    refine V.iload_n (pc := 12) 2 d_Mo_lands_12 rfl rfl ?_
    refine V.if_ge (tgt := 19) (pc := 13) d_Mo_lands_13 (by decide) (fun c_13 => ?_) (fun c_13 => ?_)
    · skip
      refine V.aload_n (pc := 19) 0 d_Mo_lands_19 rfl rfl ?_
      refine V.iload_n (pc := 20) 1 d_Mo_lands_20 rfl rfl ?_
      have en : (vI n : MV) = vI (n.toNat : Int) := by rw [show ((n.toNat : Nat) : Int) = n by omega]
      rw [en]
      refine V.cV1 (pc := 21) (kc2 := 0) (ks2 := 0) ml_Mo_216 (hM_o _) (ct_Mo_countLands σ n.toNat (by omega) hI.2.2.2.1 hI.2.2.2.2.1 _) d_Mo_lands_21 (Nat.le_of_ble_eq_true rfl) (Nat.le_of_ble_eq_true rfl) (Nat.le_of_ble_eq_true rfl) (Nat.le_of_ble_eq_true rfl) ?_
      rintro _ _ _ ⟨rfl, rfl, τ, rfl, hEL, hld, htb⟩
      dsimp only [Option.toList, List.cons_append, List.nil_append]
      rw [← en]
      have hI2 := hI.el hEL hld
      refine V.iload_n (pc := 24) 2 d_Mo_lands_24 rfl rfl ?_
      refine V.bipush (pc := 25) d_Mo_lands_25 ⟨by decide, by decide⟩ ?_
      refine V.icmp_le (tgt := 34) (pc := 27) d_Mo_lands_27 (by decide) (fun c_27 => ?_) (fun c_27 => ?_)
      · skip
        refine V.aload_n (pc := 34) 0 d_Mo_lands_34 rfl rfl ?_
        refine V.getf (pc := 35) 24 cl_Mo fl_Mo_65_Mo d_Mo_lands_35 (hM_o _) (Nat.le_of_ble_eq_true rfl) rfl ?_
        refine V.bipush (pc := 38) d_Mo_lands_38 ⟨by decide, by decide⟩ ?_
        refine V.iload_n (pc := 40) 1 d_Mo_lands_40 rfl rfl ?_
        refine V.imul (pc := 41) d_Mo_lands_41 ⟨by omega, by omega⟩ ?_
        refine V.iload_n (pc := 42) 2 d_Mo_lands_42 rfl rfl ?_
        refine V.iadd (pc := 43) d_Mo_lands_43 ⟨by omega, by omega⟩ ?_
        refine V.iald (pc := 44) d_Mo_lands_44 (ar_landCount _).1 (by omega) (by omega) ?_
        try simp (disch := omega) only [sset_n, sset_e]
        
        refine V.ret (pc := 45) (r := some (vI _)) d_Mo_lands_45 (Or.inl rfl) rfl ?_
        refine qs_of (S2 := S) ?_ hI2
        unfold sp_lands; rw [if_pos (by omega), if_neg (by omega)]
        rw [show ((8 : Int) * n + k).toNat = 8 * n.toNat + k.toNat by omega, htb _ (by omega)]
      · skip
        refine V.iconst (pc := 30) d_Mo_lands_30 ⟨by decide, by decide⟩ ?_
        refine V.goto (tgt := 45) (pc := 31) d_Mo_lands_31 (by decide) ?_
        
        refine V.ret (pc := 45) (r := some (vI _)) d_Mo_lands_45 (Or.inl rfl) rfl ?_
        refine qs_of (S2 := S) ?_ hI2
        unfold sp_lands; rw [if_pos (by omega), if_pos (by omega)]
    · skip
      refine V.ldc (pc := 16) (-1000001) ck_Mo_112 rfl ⟨by decide, by decide⟩ d_Mo_lands_16 ?_
      refine V.ret (pc := 18) (r := some (vI _)) d_Mo_lands_18 (Or.inl rfl) rfl ?_
      exact qs_of (by unfold sp_lands; rw [if_neg (by omega)]) hI
set_option maxRecDepth 20000 in
theorem lp_Mo_sum (S : SS) (n q : Int) (hn : 1 ≤ n ∧ n ≤ 7) (hq : -9 ≤ q ∧ q ≤ 9) (τ : SM) (hI2 : RI S τ) (htb : ∀ k, k < 8 → τ 24 (8 * n.toNat + k) = landT n.toNat k) (sz : Nat) : ∀ (c k : Nat) (kk w s : Int), (k : Int) + c = n + 1 → 1 ≤ k → kk = k → w = q ^ (k - 1) → s = sS n.toNat q (k - 1) →
    V M_Mo_sum 4 43 [some (vR 8), some (vI n), some (vI q), some (vL s), none, some (vL w), none, some (vI kk)] [] (hM τ) sz 0 0 (QSL (sp_sum S n q) sz) := by
  intro c
  induction c with
  | zero =>
    intro k kk w s hc h1 hkk hw hs
    refine V.iload (pc := 43) d_Mo_sum_43 rfl ?_
    refine V.iload_n (pc := 45) 1 d_Mo_sum_45 rfl rfl ?_
    refine V.icmp_gt (tgt := 81) (pc := 46) d_Mo_sum_46 (by decide) (fun c_46 => ?_) (fun c_46 => ?_)
    · skip
      refine V.lload_n (pc := 81) 3 d_Mo_sum_81 rfl rfl ?_
      refine V.ret (pc := 82) (r := some (vL _)) d_Mo_sum_82 rfl rfl ?_
      exact ⟨rfl, by unfold sp_sum; rw [if_pos (by omega), hs, show k - 1 = n.toNat by omega], τ, rfl, by unfold sp_sum; rw [if_pos (by omega)]; exact hI2⟩
    · skip
      exfalso; omega
  | succ c ih =>
    intro k kk w s hc h1 hkk hw hs
    refine V.iload (pc := 43) d_Mo_sum_43 rfl ?_
    refine V.iload_n (pc := 45) 1 d_Mo_sum_45 rfl rfl ?_
    refine V.icmp_gt (tgt := 81) (pc := 46) d_Mo_sum_46 (by decide) (fun c_46 => ?_) (fun c_46 => ?_)
    · skip
      exfalso; omega
    · skip
      have hb1 := pow_b2 hq (show k ≤ 7 by omega)
      have hb2 := pow_b2 hq (show k - 1 ≤ 7 by omega)
      have hb3 := prod_b2 (show n.toNat ≤ 7 by omega) hq (show k ≤ 7 by omega)
      have hb4 := sS_b (show n.toNat ≤ 7 by omega) hq (k - 1) (by omega)
      have hw2 : w * q = q ^ k := by rw [hw, ← Int.pow_succ, show (k - 1).succ = k by omega]
      refine V.lload (pc := 49) d_Mo_sum_49 rfl ?_
      refine V.iload_n (pc := 51) 2 d_Mo_sum_51 rfl rfl ?_
      refine V.i2l (pc := 52) d_Mo_sum_52 ?_
      refine V.lmul (pc := 53) d_Mo_sum_53 ⟨by rw [hw2]; omega, by rw [hw2]; omega⟩ ?_
      rw [hw2]
      refine V.lstore (pc := 54) d_Mo_sum_54 (Nat.le_of_ble_eq_true rfl) rfl ?_
      dsimp only [put]
      refine V.lload_n (pc := 56) 3 d_Mo_sum_56 rfl rfl ?_
      refine V.lload (pc := 57) d_Mo_sum_57 rfl ?_
      refine V.aload_n (pc := 59) 0 d_Mo_sum_59 rfl rfl ?_
      refine V.getf (pc := 60) 24 cl_Mo fl_Mo_65_Mo d_Mo_sum_60 (hM_o _) (Nat.le_of_ble_eq_true rfl) rfl ?_
      refine V.bipush (pc := 63) d_Mo_sum_63 ⟨by decide, by decide⟩ ?_
      refine V.iload_n (pc := 65) 1 d_Mo_sum_65 rfl rfl ?_
      refine V.imul (pc := 66) d_Mo_sum_66 ⟨by omega, by omega⟩ ?_
      refine V.iload (pc := 67) d_Mo_sum_67 rfl ?_
      refine V.iadd (pc := 69) d_Mo_sum_69 ⟨by omega, by omega⟩ ?_
      refine V.iald (pc := 70) d_Mo_sum_70 (ar_landCount _).1 (by omega) (by omega) ?_
      try simp (disch := omega) only [sset_n, sset_e]
      refine V.i2l (pc := 71) d_Mo_sum_71 ?_
      rw [show ((8 : Int) * n + kk).toNat = 8 * n.toNat + k by omega, htb _ (by omega)]
      refine V.lmul (pc := 72) d_Mo_sum_72 ⟨by omega, by omega⟩ ?_
      refine V.ladd (pc := 73) d_Mo_sum_73 ⟨by omega, by omega⟩ ?_
      refine V.lstore_n (pc := 74) 3 d_Mo_sum_74 rfl (Nat.le_of_ble_eq_true rfl) rfl ?_
      dsimp only [put]
      refine V.iinc (pc := 75) d_Mo_sum_75 rfl ⟨by omega, by omega⟩ (Nat.le_of_ble_eq_true rfl) rfl ?_
      dsimp only [put]
      refine V.goto (tgt := 43) (pc := 78) d_Mo_sum_78 (by decide) ?_
      refine ih (k + 1) _ _ _ (by omega) (by omega) (by omega) (by rw [show k + 1 - 1 = k by omega]) ?_
      rw [show k + 1 - 1 = k by omega]
      obtain ⟨m, rfl⟩ : ∃ m, k = m + 1 := ⟨k - 1, by omega⟩
      show _ = sS n.toNat q m + q ^ (m + 1) * landT n.toNat (m + 1)
      rw [hs]; rfl
set_option maxRecDepth 20000 in
theorem cs_Mo_sum (S : SS) (σ : SM) (hI : RI S σ) (n q : Int) (sz : Nat) : Ct M_Mo_sum 4 0 0 [vR 8, vI n, vI q] (hM σ) sz (QSL (sp_sum S n q) sz) := by
  refine Ct.of rfl (Nat.le_of_ble_eq_true rfl) ?_
  dsimp only [lsOf]
  refine V.iload_n (pc := 0) 1 d_Mo_sum_0 rfl rfl ?_
  refine V.i2l (pc := 1) d_Mo_sum_1 ?_
  refine V.lconst1 (pc := 2) d_Mo_sum_2 ?_
  refine V.ldc2 (pc := 3) (7) ck_Mo_100 rfl ⟨by decide, by decide⟩ d_Mo_sum_3 ?_
  refine V.cS3 (pc := 6) (kc2 := 0) (ks2 := 0) ml_Mo_102 (ct_Mo_in _ _ _ _ _) d_Mo_sum_6 (Nat.le_of_ble_eq_true rfl) (Nat.le_of_ble_eq_true rfl) (Nat.le_of_ble_eq_true rfl) (Nat.le_of_ble_eq_true rfl) ?_
  rintro _ _ _ ⟨rfl, rfl, rfl⟩
  dsimp only [Option.toList, List.cons_append, List.nil_append]
  refine V.ifB_eq (tgt := 26) (pc := 9) d_Mo_sum_9 (by decide) (fun c_9 => ?_) (fun c_9 => ?_)
  · skip
    refine V.ldc2 (pc := 26) (-1000001) ck_Mo_223 rfl ⟨by decide, by decide⟩ d_Mo_sum_26 ?_
    refine V.ret (pc := 29) (r := some (vL _)) d_Mo_sum_29 rfl rfl ?_
    exact ⟨rfl, by unfold sp_sum; rw [if_neg (by omega)], σ, rfl, by unfold sp_sum; rw [if_neg (by omega)]; exact hI⟩
  · skip
    refine V.iload_n (pc := 12) 2 d_Mo_sum_12 rfl rfl ?_
    refine V.i2l (pc := 13) d_Mo_sum_13 ?_
    refine V.ldc2 (pc := 14) (-9) ck_Mo_221 rfl ⟨by decide, by decide⟩ d_Mo_sum_14 ?_
    refine V.ldc2 (pc := 17) (9) ck_Mo_120 rfl ⟨by decide, by decide⟩ d_Mo_sum_17 ?_
    refine V.cS3 (pc := 20) (kc2 := 0) (ks2 := 0) ml_Mo_102 (ct_Mo_in _ _ _ _ _) d_Mo_sum_20 (Nat.le_of_ble_eq_true rfl) (Nat.le_of_ble_eq_true rfl) (Nat.le_of_ble_eq_true rfl) (Nat.le_of_ble_eq_true rfl) ?_
    rintro _ _ _ ⟨rfl, rfl, rfl⟩
    dsimp only [Option.toList, List.cons_append, List.nil_append]
    refine V.ifB_ne (tgt := 30) (pc := 23) d_Mo_sum_23 (by decide) (fun c_23 => ?_) (fun c_23 => ?_)
    · skip
      refine V.aload_n (pc := 30) 0 d_Mo_sum_30 rfl rfl ?_
      refine V.iload_n (pc := 31) 1 d_Mo_sum_31 rfl rfl ?_
      have en : (vI n : MV) = vI (n.toNat : Int) := by rw [show ((n.toNat : Nat) : Int) = n by omega]
      rw [en]
      refine V.cV1 (pc := 32) (kc2 := 0) (ks2 := 0) ml_Mo_216 (hM_o _) (ct_Mo_countLands σ n.toNat (by omega) hI.2.2.2.1 hI.2.2.2.2.1 _) d_Mo_sum_32 (Nat.le_of_ble_eq_true rfl) (Nat.le_of_ble_eq_true rfl) (Nat.le_of_ble_eq_true rfl) (Nat.le_of_ble_eq_true rfl) ?_
      rintro _ _ _ ⟨rfl, rfl, τ, rfl, hEL, hld, htb⟩
      dsimp only [Option.toList, List.cons_append, List.nil_append]
      rw [← en]
      have hI2 := hI.el hEL hld
      refine V.lconst0 (pc := 35) d_Mo_sum_35 ?_
      refine V.lstore_n (pc := 36) 3 d_Mo_sum_36 rfl (Nat.le_of_ble_eq_true rfl) rfl ?_
      dsimp only [put]
      refine V.lconst1 (pc := 37) d_Mo_sum_37 ?_
      refine V.lstore (pc := 38) d_Mo_sum_38 (Nat.le_of_ble_eq_true rfl) rfl ?_
      dsimp only [put]
      refine V.iconst (pc := 40) d_Mo_sum_40 ⟨by decide, by decide⟩ ?_
      refine V.istore (pc := 41) d_Mo_sum_41 (Nat.le_of_ble_eq_true rfl) rfl ?_
      dsimp only [put]
      exact lp_Mo_sum S n q (by omega) (by omega) τ hI2 htb _ n.toNat 1 1 1 0 (by omega) (by omega) rfl (by rw [show 1 - 1 = 0 from rfl, Int.pow_zero]) rfl
    · skip
      refine V.ldc2 (pc := 26) (-1000001) ck_Mo_223 rfl ⟨by decide, by decide⟩ d_Mo_sum_26 ?_
      refine V.ret (pc := 29) (r := some (vL _)) d_Mo_sum_29 rfl rfl ?_
      exact ⟨rfl, by unfold sp_sum; rw [if_neg (by omega)], σ, rfl, by unfold sp_sum; rw [if_neg (by omega)]; exact hI⟩
