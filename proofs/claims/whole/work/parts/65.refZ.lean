/-! THE REFERENCE: folds, nthFold, printed by wip/whole/gen/refZ.py -/
theorem RI.eg {S : SS} {σ τ : SM} (hI : RI S σ) (h : EG σ τ) : RI S τ := by
  obtain ⟨h1, h2, h3, h4, h5, h6, h7⟩ := hI
  have e : ∀ j, j ≠ 15 → j ≠ 16 → j ≠ 17 → j ≠ 33 → τ j = σ j := h
  refine ⟨?_, ?_, ?_, ?_, ?_, ?_, ?_⟩
  · rw [e 0 (by decide) (by decide) (by decide) (by decide), e 1 (by decide) (by decide) (by decide) (by decide), e 2 (by decide) (by decide) (by decide) (by decide)]; exact h1
  · rw [e 4 (by decide) (by decide) (by decide) (by decide), e 5 (by decide) (by decide) (by decide) (by decide), e 6 (by decide) (by decide) (by decide) (by decide), e 7 (by decide) (by decide) (by decide) (by decide), e 8 (by decide) (by decide) (by decide) (by decide), e 9 (by decide) (by decide) (by decide) (by decide)]; exact h2
  · rw [e 10 (by decide) (by decide) (by decide) (by decide), e 11 (by decide) (by decide) (by decide) (by decide), e 12 (by decide) (by decide) (by decide) (by decide)]; exact h3
  · rw [e 19 (by decide) (by decide) (by decide) (by decide), e 20 (by decide) (by decide) (by decide) (by decide)]; exact h4
  · rw [e 24 (by decide) (by decide) (by decide) (by decide), e 25 (by decide) (by decide) (by decide) (by decide)]; exact h5
  · rw [e 26 (by decide) (by decide) (by decide) (by decide)]; exact h6
  · rw [e 27 (by decide) (by decide) (by decide) (by decide)]; exact h7
def sp_folds (S : SS) (n : Int) : Int × SS := if 1 ≤ n ∧ n ≤ 8 then (foldT n.toNat, S) else (-1000001, S)
noncomputable def sp_nthFold (S : SS) (pl n i : Int) : Int × SS := if (0 ≤ pl ∧ pl ≤ 9) ∧ (1 ≤ n ∧ n ≤ 8) then (if 0 ≤ i ∧ i < (FLn n.toNat).length then (8, sTh S pl.toNat (some (8, n.toNat, dgI ((FLn n.toNat).getD i.toNat 0), fun _ => 0))) else (-1000000, sSt S 0)) else (-1000001, S)
set_option maxRecDepth 20000 in
theorem cs_Mo_folds (S : SS) (σ : SM) (hI : RI S σ) (n : Int) (sz : Nat) : Ct M_Mo_folds 2 0 0 [vR 8, vI n] (hM σ) sz (QS (sp_folds S n) sz) := by
  refine Ct.of rfl (Nat.le_of_ble_eq_true rfl) ?_
  dsimp only [lsOf]
  refine V.iload_n (pc := 0) 1 d_Mo_folds_0 rfl rfl ?_
  refine V.i2l (pc := 1) d_Mo_folds_1 ?_
  refine V.lconst1 (pc := 2) d_Mo_folds_2 ?_
  refine V.ldc2 (pc := 3) (8) ck_Mo_188 rfl ⟨by decide, by decide⟩ d_Mo_folds_3 ?_
  refine V.cS3 (pc := 6) (kc2 := 0) (ks2 := 0) ml_Mo_102 (ct_Mo_in _ _ _ _ _) d_Mo_folds_6 (Nat.le_of_ble_eq_true rfl) (Nat.le_of_ble_eq_true rfl) (Nat.le_of_ble_eq_true rfl) (Nat.le_of_ble_eq_true rfl) ?_
  rintro _ _ _ ⟨rfl, rfl, rfl⟩
  dsimp only [Option.toList, List.cons_append, List.nil_append]
  refine V.ifB_ne (tgt := 15) (pc := 9) d_Mo_folds_9 (by decide) (fun c_9 => ?_) (fun c_9 => ?_)
  · skip
    refine V.aload_n (pc := 15) 0 d_Mo_folds_15 rfl rfl ?_
    refine V.getf (pc := 16) 27 cl_Mo fl_Mo_74_Mo d_Mo_folds_16 (hM_o _) (Nat.le_of_ble_eq_true rfl) rfl ?_
    refine V.iload_n (pc := 19) 1 d_Mo_folds_19 rfl rfl ?_
    refine V.iald (pc := 20) d_Mo_folds_20 (ar_foldCount _).1 (by omega) (by omega) ?_
    try simp (disch := omega) only [sset_n, sset_e]
    refine V.if_ne (tgt := 36) (pc := 21) d_Mo_folds_21 (by decide) (fun c_21 => ?_) (fun c_21 => ?_)
    · skip
      refine V.aload_n (pc := 36) 0 d_Mo_folds_36 rfl rfl ?_
      refine V.getf (pc := 37) 27 cl_Mo fl_Mo_74_Mo d_Mo_folds_37 (hM_o _) (Nat.le_of_ble_eq_true rfl) rfl ?_
      refine V.iload_n (pc := 40) 1 d_Mo_folds_40 rfl rfl ?_
      refine V.iald (pc := 41) d_Mo_folds_41 (ar_foldCount _).1 (by omega) (by omega) ?_
      try simp (disch := omega) only [sset_n, sset_e]
      refine V.ret (pc := 42) (r := some (vI _)) d_Mo_folds_42 (Or.inl rfl) rfl ?_
      refine qs_of (S2 := S) ?_ hI
      unfold sp_folds; rw [if_pos (by omega)]
      rcases hI.2.2.2.2.2.2 n.toNat (by omega) (by omega) with h | h
      · exact absurd h c_21
      · rw [h]
    · skip
      refine V.aload_n (pc := 24) 0 d_Mo_folds_24 rfl rfl ?_
      refine V.getf (pc := 25) 27 cl_Mo fl_Mo_74_Mo d_Mo_folds_25 (hM_o _) (Nat.le_of_ble_eq_true rfl) rfl ?_
      refine V.iload_n (pc := 28) 1 d_Mo_folds_28 rfl rfl ?_
      refine V.aload_n (pc := 29) 0 d_Mo_folds_29 rfl rfl ?_
      refine V.iload_n (pc := 30) 1 d_Mo_folds_30 rfl rfl ?_
      refine V.iconst (pc := 31) d_Mo_folds_31 ⟨by decide, by decide⟩ ?_
      have en : (vI n : MV) = vI (n.toNat : Int) := by rw [show ((n.toNat : Nat) : Int) = n by omega]
      rw [en]
      refine V.cV2 (pc := 32) (kc2 := 0) (ks2 := 0) ml_Mo_228 (hM_o _) (ct_Mo_goThrough σ n.toNat (by omega) (-1) _) d_Mo_folds_32 (Nat.le_of_ble_eq_true rfl) (Nat.le_of_ble_eq_true rfl) (Nat.le_of_ble_eq_true rfl) (Nat.le_of_ble_eq_true rfl) ?_
      rintro r9 _ _ ⟨rfl, τ, rfl, hEG, hc⟩
      rw [← en]
      have hr9 : r9 = some (vI (foldT n.toNat)) := by
        rcases hc with ⟨i, h1, -⟩ | ⟨-, h2⟩
        · omega
        · rw [h2, FLn_len (by omega) (by omega)]; congr 2; omega
      subst hr9
      dsimp only [Option.toList, List.cons_append, List.nil_append]
      have hI2 := hI.eg hEG
      have hfb := foldT_b (show 1 ≤ n.toNat by omega) (show n.toNat ≤ 8 by omega)
      refine V.iast (pc := 35) d_Mo_folds_35 (ar_foldCount _).1 (by omega) (by omega) ?_
      rw [(ar_foldCount _).2]
      refine V.aload_n (pc := 36) 0 d_Mo_folds_36 rfl rfl ?_
      refine V.getf (pc := 37) 27 cl_Mo fl_Mo_74_Mo d_Mo_folds_37 (hM_o _) (Nat.le_of_ble_eq_true rfl) rfl ?_
      refine V.iload_n (pc := 40) 1 d_Mo_folds_40 rfl rfl ?_
      refine V.iald (pc := 41) d_Mo_folds_41 (ar_foldCount _).1 (by omega) (by omega) ?_
      try simp (disch := omega) only [sset_n, sset_e]
      refine V.ret (pc := 42) (r := some (vI _)) d_Mo_folds_42 (Or.inl rfl) rfl ?_
      refine qs_of (S2 := S) ?_ ?_
      · unfold sp_folds; rw [if_pos (by omega)]
        have e9 : sset τ 27 (upf (τ 27) n.toNat (foldT n.toNat)) 27 n.toNat = foldT n.toNat := by rw [sset_e, upf_e]
        first | rw [e9] | (rw [upf_e])
      · obtain ⟨g1, g2, g3, g4, g5, g6, g7⟩ := hI2
        refine ⟨g1, g2, g3, g4, g5, g6, fun m h1 h2 => ?_⟩
        rw [sset_e]
        by_cases e : m = n.toNat
        · rw [e, upf_e]; exact Or.inr rfl
        · rw [upf_n e]; exact g7 m h1 h2
  · skip
    refine V.ldc (pc := 12) (-1000001) ck_Mo_112 rfl ⟨by decide, by decide⟩ d_Mo_folds_12 ?_
    refine V.ret (pc := 14) (r := some (vI _)) d_Mo_folds_14 (Or.inl rfl) rfl ?_
    exact qs_of (by unfold sp_folds; rw [if_neg (by omega)]) hI
set_option maxRecDepth 20000 in
theorem lp_Mo_nthFold (S : SS) (σ : SM) (hI : RI S σ) (pl n i : Int) (hpl : 0 ≤ pl ∧ pl ≤ 9) (hn : 1 ≤ n ∧ n ≤ 8) (hi : 0 ≤ i) (P : Nat) (hP : (FLn n.toNat)[i.toNat]? = some P) (hpm : isPerm (dgI P) n.toNat) (hfd : fdK n.toNat P = true) (sz : Nat) : ∀ (c k : Nat) (kk : Int) (τ : SM), (k : Int) + c = n → kk = k → τ 5 10 = n → KN σ τ → (∀ x, x < k → τ 6 (400 + x) = (dg P x : Int)) → (∀ x, x < n.toNat → τ 33 x = (dg P x : Int)) →
    V M_Mo_nthFold 3 54 [some (vR 8), some (vI pl), some (vI n), some (vI i), some (vI kk)] [] (hM τ) sz 0 0 (QS (sp_nthFold S pl n i) sz) := by
  intro c
  induction c with
  | zero =>
    intro k kk τ hc hkk h5 hkn h6 hor
    refine V.iload (pc := 54) d_Mo_nthFold_54 rfl ?_
    refine V.iload_n (pc := 56) 2 d_Mo_nthFold_56 rfl rfl ?_
    refine V.icmp_ge (tgt := 84) (pc := 57) d_Mo_nthFold_57 (by decide) (fun c_57 => ?_) (fun c_57 => ?_)
    · skip
      refine V.aload_n (pc := 84) 0 d_Mo_nthFold_84 rfl rfl ?_
      refine V.iload_n (pc := 85) 1 d_Mo_nthFold_85 rfl rfl ?_
      refine V.bipush (pc := 86) d_Mo_nthFold_86 ⟨by decide, by decide⟩ ?_
      have epl : (vI pl : MV) = vI (pl.toNat : Int) := by rw [show ((pl.toNat : Nat) : Int) = pl by omega]
      rw [epl]
      refine V.cV2 (pc := 88) (kc2 := 0) (ks2 := 0) ml_Mo_157 (hM_o _) (ct_Mo_keepS τ pl.toNat (by omega) _ n.toNat rfl (by rw [h5]; omega) (by omega) (perm_cong (fun q hq => (h6 q (by omega)).symm) hpm) _) d_Mo_nthFold_88 (Nat.le_of_ble_eq_true rfl) (Nat.le_of_ble_eq_true rfl) (Nat.le_of_ble_eq_true rfl) (Nat.le_of_ble_eq_true rfl) ?_
      rintro r9 h9 s9 ⟨rfl, k9, hk9, hk8, rfl, τ2, rfl, hkp, hone⟩
      have hc9 : ∀ q, q < n.toNat → (fun q => τ 6 (400 + q)) q = dgI P q := fun q hq => h6 q (by omega)
      have e8 : k9 = 8 := hk8.mpr ⟨dgI (psK P n.toNat), pos_cong (fun q hq => (hc9 q hq).symm) (pos_K (by omega) hpm), (fd_iff (by omega) hpm (pos_K (by omega) hpm)).mp hfd⟩
      dsimp only [Option.toList, List.cons_append, List.nil_append]
      refine V.ret (pc := 91) (r := some (vI _)) d_Mo_nthFold_91 (Or.inl rfl) rfl ?_
      rw [e8] at hone ⊢
      refine qs_of (S2 := sTh S pl.toNat (some (8, n.toNat, dgI P, fun _ => 0))) ?_ (RI.put (hI.kn hkn) (by omega) hkp (R_one_strip (by omega) hc9 hone))
      unfold sp_nthFold
      rw [if_pos (by omega), if_pos ⟨by omega, by have := (List.getElem?_eq_some_iff.mp hP).1; omega⟩, List.getD_eq_getElem?_getD, hP]
      rfl
    · skip
      exfalso; omega
  | succ c ih =>
    intro k kk τ hc hkk h5 hkn h6 hor
    refine V.iload (pc := 54) d_Mo_nthFold_54 rfl ?_
    refine V.iload_n (pc := 56) 2 d_Mo_nthFold_56 rfl rfl ?_
    refine V.icmp_ge (tgt := 84) (pc := 57) d_Mo_nthFold_57 (by decide) (fun c_57 => ?_) (fun c_57 => ?_)
    · skip
      exfalso; omega
    · skip
      refine V.aload_n (pc := 60) 0 d_Mo_nthFold_60 rfl rfl ?_
      refine V.getf (pc := 61) 6 cl_Mo fl_Mo_28_Mo d_Mo_nthFold_61 (hM_o _) (Nat.le_of_ble_eq_true rfl) rfl ?_
      refine V.sipush (pc := 64) d_Mo_nthFold_64 ⟨by decide, by decide⟩ ?_
      refine V.iload (pc := 67) d_Mo_nthFold_67 rfl ?_
      refine V.iadd (pc := 69) d_Mo_nthFold_69 ⟨by omega, by omega⟩ ?_
      refine V.aload_n (pc := 70) 0 d_Mo_nthFold_70 rfl rfl ?_
      refine V.getf (pc := 71) 33 cl_Mo fl_Mo_92_Mo d_Mo_nthFold_71 (hM_o _) (Nat.le_of_ble_eq_true rfl) rfl ?_
      refine V.iload (pc := 74) d_Mo_nthFold_74 rfl ?_
      refine V.iald (pc := 76) d_Mo_nthFold_76 (ar_order _).1 (by omega) (by omega) ?_
      try simp (disch := omega) only [sset_n, sset_e]
      refine V.iast (pc := 77) d_Mo_nthFold_77 (ar_one _).1 (by omega) (by omega) ?_
      rw [(ar_one _).2]
      refine V.iinc (pc := 78) d_Mo_nthFold_78 rfl ⟨by omega, by omega⟩ (Nat.le_of_ble_eq_true rfl) rfl ?_
      dsimp only [put]
      refine V.goto (tgt := 54) (pc := 81) d_Mo_nthFold_81 (by decide) ?_
      refine ih (k + 1) _ _ (by omega) (by omega) ?_ (hkn.updj (by omega) (by omega) (fun x hx => upf_n (by omega))) (fun x hx => ?_) ?_
      · rw [sset_n (by decide)]; exact h5
      · rw [sset_e, show ((400 : Int) + kk).toNat = 400 + k by omega]
        by_cases e : x = k
        · rw [e, upf_e, show kk.toNat = k by omega, hor k (by omega)]
        · rw [upf_n (by omega)]; exact h6 x (by omega)
      · rw [sset_n (by decide)]; exact hor
set_option maxRecDepth 20000 in
theorem cs_Mo_nthFold (S : SS) (σ : SM) (hI : RI S σ) (pl n i : Int) (sz : Nat) : Ct M_Mo_nthFold 3 0 0 [vR 8, vI pl, vI n, vI i] (hM σ) sz (QS (sp_nthFold S pl n i) sz) := by
  refine Ct.of rfl (Nat.le_of_ble_eq_true rfl) ?_
  dsimp only [lsOf]
  refine V.iload_n (pc := 0) 1 d_Mo_nthFold_0 rfl rfl ?_
  refine V.cS1 (pc := 1) (kc2 := 0) (ks2 := 0) ml_Mo_152 (ct_Mo_isPlace _ _ _) d_Mo_nthFold_1 (Nat.le_of_ble_eq_true rfl) (Nat.le_of_ble_eq_true rfl) (Nat.le_of_ble_eq_true rfl) (Nat.le_of_ble_eq_true rfl) ?_
  rintro _ _ _ ⟨rfl, rfl, rfl⟩
  dsimp only [Option.toList, List.cons_append, List.nil_append]
  refine V.ifB_eq (tgt := 19) (pc := 4) d_Mo_nthFold_4 (by decide) (fun c_4 => ?_) (fun c_4 => ?_)
  · skip
    refine V.ldc (pc := 19) (-1000001) ck_Mo_112 rfl ⟨by decide, by decide⟩ d_Mo_nthFold_19 ?_
    refine V.ret (pc := 21) (r := some (vI _)) d_Mo_nthFold_21 (Or.inl rfl) rfl ?_
    exact qs_of (by unfold sp_nthFold; rw [if_neg (by omega)]) hI
  · skip
    refine V.iload_n (pc := 7) 2 d_Mo_nthFold_7 rfl rfl ?_
    refine V.i2l (pc := 8) d_Mo_nthFold_8 ?_
    refine V.lconst1 (pc := 9) d_Mo_nthFold_9 ?_
    refine V.ldc2 (pc := 10) (8) ck_Mo_188 rfl ⟨by decide, by decide⟩ d_Mo_nthFold_10 ?_
    refine V.cS3 (pc := 13) (kc2 := 0) (ks2 := 0) ml_Mo_102 (ct_Mo_in _ _ _ _ _) d_Mo_nthFold_13 (Nat.le_of_ble_eq_true rfl) (Nat.le_of_ble_eq_true rfl) (Nat.le_of_ble_eq_true rfl) (Nat.le_of_ble_eq_true rfl) ?_
    rintro _ _ _ ⟨rfl, rfl, rfl⟩
    dsimp only [Option.toList, List.cons_append, List.nil_append]
    refine V.ifB_ne (tgt := 22) (pc := 16) d_Mo_nthFold_16 (by decide) (fun c_16 => ?_) (fun c_16 => ?_)
    · skip
      refine V.iload_n (pc := 22) 3 d_Mo_nthFold_22 rfl rfl ?_
      refine V.if_lt (tgt := 36) (pc := 23) d_Mo_nthFold_23 (by decide) (fun c_23 => ?_) (fun c_23 => ?_)
      · skip
        refine V.aload_n (pc := 36) 0 d_Mo_nthFold_36 rfl rfl ?_
        refine V.ldc (pc := 37) (-1000000) ck_Mo_136 rfl ⟨by decide, by decide⟩ d_Mo_nthFold_37 ?_
        refine V.cV1 (pc := 39) (kc2 := 0) (ks2 := 0) ml_Mo_117 (hM_o _) (ct_Mo_well _ _ _) d_Mo_nthFold_39 (Nat.le_of_ble_eq_true rfl) (Nat.le_of_ble_eq_true rfl) (Nat.le_of_ble_eq_true rfl) (Nat.le_of_ble_eq_true rfl) ?_
        rintro _ _ _ ⟨rfl, rfl, rfl⟩
        dsimp only [Option.toList, List.cons_append, List.nil_append]
        refine V.ret (pc := 42) (r := some (vI _)) d_Mo_nthFold_42 (Or.inl rfl) rfl ?_
        refine qs_of (S2 := sSt S 0) ?_ (hI.st 0)
        unfold sp_nthFold; rw [if_pos (by omega), if_neg (by omega)]
      · skip
        refine V.aload_n (pc := 26) 0 d_Mo_nthFold_26 rfl rfl ?_
        refine V.iload_n (pc := 27) 2 d_Mo_nthFold_27 rfl rfl ?_
        refine V.iload_n (pc := 28) 3 d_Mo_nthFold_28 rfl rfl ?_
        have en : (vI n : MV) = vI (n.toNat : Int) := by rw [show ((n.toNat : Nat) : Int) = n by omega]
        rw [en]
        refine V.cV2 (pc := 29) (kc2 := 0) (ks2 := 0) ml_Mo_228 (hM_o _) (ct_Mo_goThrough σ n.toNat (by omega) i _) d_Mo_nthFold_29 (Nat.le_of_ble_eq_true rfl) (Nat.le_of_ble_eq_true rfl) (Nat.le_of_ble_eq_true rfl) (Nat.le_of_ble_eq_true rfl) ?_
        rintro r9 _ _ ⟨rfl, τ, rfl, hEG, hc⟩
        rw [← en]
        have hI2 := hI.eg hEG
        rcases hc with ⟨j, h1, ⟨P, hP, hpm, hfd, hor⟩, rfl⟩ | ⟨h2, rfl⟩
        · skip
          rw [show j = i.toNat by omega] at hP
          dsimp only [Option.toList, List.cons_append, List.nil_append]
          refine V.iload_n (pc := 32) 3 d_Mo_nthFold_32 rfl rfl ?_
          refine V.icmp_gt (tgt := 43) (pc := 33) d_Mo_nthFold_33 (by decide) (fun c_33 => ?_) (fun c_33 => ?_)
          · skip
            refine V.aload_n (pc := 43) 0 d_Mo_nthFold_43 rfl rfl ?_
            refine V.getf (pc := 44) 5 cl_Mo fl_Mo_25_Mo d_Mo_nthFold_44 (hM_o _) (Nat.le_of_ble_eq_true rfl) rfl ?_
            refine V.bipush (pc := 47) d_Mo_nthFold_47 ⟨by decide, by decide⟩ ?_
            refine V.iload_n (pc := 49) 2 d_Mo_nthFold_49 rfl rfl ?_
            refine V.iast (pc := 50) d_Mo_nthFold_50 (ar_many _).1 (by omega) (by omega) ?_
            rw [(ar_many _).2]
            refine V.iconst (pc := 51) d_Mo_nthFold_51 ⟨by decide, by decide⟩ ?_
            refine V.istore (pc := 52) d_Mo_nthFold_52 (Nat.le_of_ble_eq_true rfl) rfl ?_
            dsimp only [put]
            exact lp_Mo_nthFold S τ hI2 pl n i (by omega) (by omega) (by omega) P hP hpm hfd _ n.toNat 0 0 _ (by omega) rfl (by rw [sset_e]; exact upf_e) (KN.upd5 (KN.rf τ) n) (fun x hx => by omega) (by rw [sset_n (by decide)]; exact hor)
          · skip
            exfalso; omega
        · skip
          have hlt : (FLn n.toNat).length ≤ i.toNat := h2 i.toNat (by omega)
          dsimp only [Option.toList, List.cons_append, List.nil_append]
          refine V.iload_n (pc := 32) 3 d_Mo_nthFold_32 rfl rfl ?_
          refine V.icmp_gt (tgt := 43) (pc := 33) d_Mo_nthFold_33 (by decide) (fun c_33 => ?_) (fun c_33 => ?_)
          · skip
            exfalso; omega
          · skip
            refine V.aload_n (pc := 36) 0 d_Mo_nthFold_36 rfl rfl ?_
            refine V.ldc (pc := 37) (-1000000) ck_Mo_136 rfl ⟨by decide, by decide⟩ d_Mo_nthFold_37 ?_
            refine V.cV1 (pc := 39) (kc2 := 0) (ks2 := 0) ml_Mo_117 (hM_o _) (ct_Mo_well _ _ _) d_Mo_nthFold_39 (Nat.le_of_ble_eq_true rfl) (Nat.le_of_ble_eq_true rfl) (Nat.le_of_ble_eq_true rfl) (Nat.le_of_ble_eq_true rfl) ?_
            rintro _ _ _ ⟨rfl, rfl, rfl⟩
            dsimp only [Option.toList, List.cons_append, List.nil_append]
            refine V.ret (pc := 42) (r := some (vI _)) d_Mo_nthFold_42 (Or.inl rfl) rfl ?_
            refine qs_of (S2 := sSt S 0) ?_ (hI2.st 0)
            unfold sp_nthFold; rw [if_pos (by omega), if_neg (by omega)]
    · skip
      refine V.ldc (pc := 19) (-1000001) ck_Mo_112 rfl ⟨by decide, by decide⟩ d_Mo_nthFold_19 ?_
      refine V.ret (pc := 21) (r := some (vI _)) d_Mo_nthFold_21 (Or.inl rfl) rfl ?_
      exact qs_of (by unfold sp_nthFold; rw [if_neg (by omega)]) hI
