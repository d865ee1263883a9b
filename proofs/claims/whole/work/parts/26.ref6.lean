/-! THE REFERENCE: what was made comes to a place, printed by wip/whole/gen/ref6.py -/
/-- what keeps its things: all but the place 'to', the row that is made, and rows for counting -/
def KP (σ τ : SM) (to : Nat) : Prop := (∀ j, (j ≤ 3 ∨ j = 11 ∨ j = 12 ∨ 18 ≤ j) → τ j = σ j) ∧ τ 10 0 = 0 ∧ ∀ t, t < 10 → t ≠ to → τ 4 t = σ 4 t ∧ τ 5 t = σ 5 t ∧ ∀ j, 6 ≤ j → j ≤ 9 → ∀ p, p < 40 → τ j (40 * t + p) = σ j (40 * t + p)
/-- ahead of the copy -/
def KM (σ τ : SM) : Prop := (∀ j, (j ≤ 3 ∨ j = 11 ∨ j = 12 ∨ 18 ≤ j) → τ j = σ j) ∧ (∀ t, t < 10 → τ 4 t = σ 4 t ∧ τ 5 t = σ 5 t) ∧ ∀ j, 6 ≤ j → j ≤ 9 → ∀ i, i < 400 → τ j i = σ j i
def cpT (σ τ : SM) (t : Nat) : Prop := ∀ j, τ j = if j = 4 then upf (σ 4) t (σ 4 10) else if j = 5 then upf (σ 5) t (σ 5 10) else if 6 ≤ j ∧ j ≤ 9 then blk (σ j) t 40 else σ j
theorem KP_of {σ σ1 τ : SM} {to : Nat} (hto : to < 10) (h : KM σ σ1) (hc : cpT σ1 τ to) : KP σ (sset τ 10 (fun _ => 0)) to := by
  obtain ⟨h1, h2, h3⟩ := h
  refine ⟨fun j hj => ?_, by rw [sset_e], fun t ht hne => ?_⟩
  · rw [sset_n (by omega), hc j, if_neg (by omega), if_neg (by omega), if_neg (by omega)]; exact h1 j hj
  · have a4 := h2 t ht
    refine ⟨?_, ?_, fun j j6 j9 p hp => ?_⟩
    · rw [sset_n (by decide), hc 4]; simp only [if_true]; unfold upf; rw [if_neg hne]; exact a4.1
    · rw [sset_n (by decide), hc 5]; simp only [if_neg (show ¬ (5 : Nat) = 4 by decide), if_true]; unfold upf; rw [if_neg hne]; exact a4.2
    · rw [sset_n (by omega), hc j, if_neg (by omega), if_neg (by omega), if_pos ⟨j6, j9⟩]; unfold blk; rw [if_neg (by omega)]; exact h3 j j6 j9 _ (by omega)
theorem blk_at (f : Nat → Int) {t p : Nat} (hp : p < 40) : blk f t 40 (40 * t + p) = f (40 * 10 + p) := by
  unfold blk; rw [if_pos (by omega)]; congr 1; omega
theorem R_one_copy {T : TH} {σ τ : SM} {to : Nat} (h : R_one T 10 (σ 4) (σ 5) (σ 6) (σ 7) (σ 8) (σ 9)) (hc : cpT σ τ to) : R_one T to (τ 4) (τ 5) (τ 6) (τ 7) (τ 8) (τ 9) := by
  obtain ⟨k, n, a, b⟩ := T
  obtain ⟨hw, h1, h2, h3, h4, h5, h6⟩ := h
  have hn : n ≤ 20 := hw.2.1
  refine ⟨hw, ?_, ?_, fun hk p hp => ?_, fun hk p hp => ?_, fun hk p hp => ⟨?_, ?_⟩, fun hk1 hk2 p hp => ?_⟩
  · rw [hc 4]; simp only [if_true]; unfold upf; rw [if_pos rfl]; exact h1
  · rw [hc 5]; simp only [if_neg (show ¬ (5 : Nat) = 4 by decide), if_true]; unfold upf; rw [if_pos rfl]; exact h2
  · rw [hc 6]; simp only [if_neg (show ¬ (6 : Nat) = 4 by decide), if_neg (show ¬ (6 : Nat) = 5 by decide), if_pos (show (6 : Nat) ≤ 6 ∧ (6 : Nat) ≤ 9 by decide)]; rw [blk_at _ (by omega)]; exact h3 hk p hp
  · rw [hc 6]; simp only [if_neg (show ¬ (6 : Nat) = 4 by decide), if_neg (show ¬ (6 : Nat) = 5 by decide), if_pos (show (6 : Nat) ≤ 6 ∧ (6 : Nat) ≤ 9 by decide)]; rw [blk_at _ (by omega)]; exact h4 hk p hp
  · rw [hc 7]; simp only [if_neg (show ¬ (7 : Nat) = 4 by decide), if_neg (show ¬ (7 : Nat) = 5 by decide), if_pos (show (6 : Nat) ≤ 7 ∧ (7 : Nat) ≤ 9 by decide)]; rw [blk_at _ (by omega)]; exact (h5 hk p hp).1
  · rw [hc 9]; simp only [if_neg (show ¬ (9 : Nat) = 4 by decide), if_neg (show ¬ (9 : Nat) = 5 by decide), if_pos (show (6 : Nat) ≤ 9 ∧ (9 : Nat) ≤ 9 by decide)]; rw [blk_at _ (by omega)]; exact (h5 hk p hp).2
  · rw [hc 8]; simp only [if_neg (show ¬ (8 : Nat) = 4 by decide), if_neg (show ¬ (8 : Nat) = 5 by decide), if_pos (show (6 : Nat) ≤ 8 ∧ (8 : Nat) ≤ 9 by decide)]; rw [blk_at _ (by omega)]; exact h6 hk1 hk2 p hp
def QP (σ : SM) (to : Nat) (T : TH) (sz : Nat) : QT := fun r h s => s = sz ∧ r = some (vI T.1) ∧ ∃ τ, h = hM τ ∧ KP σ τ to ∧ R_one T to (τ 4) (τ 5) (τ 6) (τ 7) (τ 8) (τ 9)
set_option maxRecDepth 20000 in
theorem ct_Mo_keepR (σ : SM) (to : Nat) (hto : to < 10) (a : Nat → Int) (N : Nat) (ha : a = fun q => σ 6 (400 + q)) (hN0 : σ 5 10 = N) (hN : 1 ≤ N ∧ N ≤ 20) (hsg : ∀ q, q < 2 * N → a q = 1 ∨ a q = -1) (sz : Nat) : Ct M_Mo_keep 2 0 0 [vR 8, vI to, vI 1] (hM σ) sz (QP σ to (rowKind a N, N, a, fun _ => 0) sz) := by
  refine Ct.of rfl (Nat.le_of_ble_eq_true rfl) ?_
  dsimp only [lsOf]
  refine V.iload_n (pc := 0) 2 d_Mo_keep_0 rfl rfl ?_
  refine V.iconst (pc := 1) d_Mo_keep_1 ⟨by decide, by decide⟩ ?_
  refine V.icmp_ne (tgt := 19) (pc := 2) d_Mo_keep_2 (by decide) (fun c_2 => ?_) (fun c_2 => ?_)
  · skip
    exact absurd rfl c_2
  · skip
    refine V.aload_n (pc := 5) 0 d_Mo_keep_5 rfl rfl ?_
    refine V.getf (pc := 6) 4 cl_Mo fl_Mo_22_Mo d_Mo_keep_6 (hM_o _) (Nat.le_of_ble_eq_true rfl) rfl ?_
    refine V.bipush (pc := 9) d_Mo_keep_9 ⟨by decide, by decide⟩ ?_
    refine V.aload_n (pc := 11) 0 d_Mo_keep_11 rfl rfl ?_
    refine V.cV0 (pc := 12) (kc2 := 0) (ks2 := 0) ml_Mo_137 (hM_o _) (ct_Mo_rowKind σ a N ha hN0 hN hsg _) d_Mo_keep_12 (Nat.le_of_ble_eq_true rfl) (Nat.le_of_ble_eq_true rfl) (Nat.le_of_ble_eq_true rfl) (Nat.le_of_ble_eq_true rfl) ?_
    rintro _ _ _ ⟨rfl, fo, ft, rfl, hft1, rfl, hft2⟩
    dsimp only [Option.toList, List.cons_append, List.nil_append]
    refine V.iast (pc := 15) d_Mo_keep_15 (ar_kinds _).1 (by omega) (by omega) ?_
    rw [(ar_kinds _).2]
    refine V.goto (tgt := 141) (pc := 16) d_Mo_keep_16 (by decide) ?_
    refine V.aload_n (pc := 141) 0 d_Mo_keep_141 rfl rfl ?_
    refine V.iload_n (pc := 142) 1 d_Mo_keep_142 rfl rfl ?_
    refine V.bipush (pc := 143) d_Mo_keep_143 ⟨by decide, by decide⟩ ?_
    refine V.cV2 (pc := 145) (kc2 := 0) (ks2 := 0) ml_Mo_148 (hM_o _) (ct_Mo_copyThing _ to hto _) d_Mo_keep_145 (Nat.le_of_ble_eq_true rfl) (Nat.le_of_ble_eq_true rfl) (Nat.le_of_ble_eq_true rfl) (Nat.le_of_ble_eq_true rfl) ?_
    rintro _ _ _ ⟨rfl, rfl, τ, rfl, hτ⟩
    have hc : cpT _ τ to := hτ
    dsimp only [Option.toList, List.cons_append, List.nil_append]
    refine V.aload_n (pc := 148) 0 d_Mo_keep_148 rfl rfl ?_
    refine V.aload_n (pc := 149) 0 d_Mo_keep_149 rfl rfl ?_
    refine V.getf (pc := 150) 4 cl_Mo fl_Mo_22_Mo d_Mo_keep_150 (hM_o _) (Nat.le_of_ble_eq_true rfl) rfl ?_
    refine V.iload_n (pc := 153) 1 d_Mo_keep_153 rfl rfl ?_
    refine V.iald (pc := 154) d_Mo_keep_154 (ar_kinds _).1 (by omega) (by omega) ?_
    try simp (disch := omega) only [sset_n, sset_e]
    have hk : τ 4 ((to : Nat) : Int).toNat = rowKind a N := by
      rw [hc 4]; simp only [if_true, Int.toNat_natCast]; unfold upf; rw [if_pos rfl]; simp (disch := omega) only [sset_n, sset_e]; rfl
    rw [hk]
    refine V.cV1 (pc := 155) (kc2 := 0) (ks2 := 0) ml_Mo_117 (hM_o _) (ct_Mo_well _ _ _) d_Mo_keep_155 (Nat.le_of_ble_eq_true rfl) (Nat.le_of_ble_eq_true rfl) (Nat.le_of_ble_eq_true rfl) (Nat.le_of_ble_eq_true rfl) ?_
    rintro _ _ _ ⟨rfl, rfl, rfl⟩
    dsimp only [Option.toList, List.cons_append, List.nil_append]
    refine V.ret (pc := 158) (r := some (vI _)) d_Mo_keep_158 (Or.inl rfl) rfl ?_
    refine ⟨rfl, rfl, _, rfl, KP_of hto ?_ hc, show R_one _ to (τ 4) (τ 5) (τ 6) (τ 7) (τ 8) (τ 9) from R_one_copy ?_ hc⟩
    · refine ⟨fun j hj => ?_, fun t ht => ⟨?_, ?_⟩, fun j j6 j9 i hi => ?_⟩
      · simp (disch := omega) only [sset_n]
      · simp (disch := omega) only [sset_n, sset_e]; unfold upf; rw [if_neg (by omega)]
      · simp (disch := omega) only [sset_n]
      · by_cases j8 : j = 8
        · subst j8; simp (disch := omega) only [sset_n, sset_e]; exact hft1 i hi
        · simp (disch := omega) only [sset_n]
    · have hr := rowKind_rng a N
      refine ⟨⟨hN.1, hN.2, Or.inl ⟨hr.1, hr.2.1, hsg, rfl⟩⟩, ?_, ?_, fun _ p hp => ?_, fun h7 => by omega, fun h5 => by omega, fun h2 _ p hp => ?_⟩
      · simp (disch := omega) only [sset_n, sset_e]; unfold upf; rw [if_pos (show (10 : Nat) = Int.toNat 10 from rfl)]
      · simp (disch := omega) only [sset_n, sset_e]; exact hN0
      · simp (disch := omega) only [sset_n, sset_e]; rw [ha]
      · simp (disch := omega) only [sset_n, sset_e]; exact hft2 (hr.2.2.mp h2) p hp
set_option maxRecDepth 20000 in
theorem ct_Mo_keepL (σ : SM) (to : Nat) (hto : to < 10) (a b : Nat → Int) (N : Nat) (ha : a = fun q => σ 6 (400 + q)) (hb : b = fun q => σ 7 (400 + q)) (hN0 : σ 5 10 = N) (hN : 1 ≤ N ∧ N ≤ 20) (hsg : ∀ q, q < 2 * N → a q = 1 ∨ a q = -1) (hsh : ∀ q, q < 2 * N → b q = 1 ∨ b q = -1) (har0 : arch a N) (hbr0 : arch b N) (sz : Nat) : Ct M_Mo_keep 2 0 0 [vR 8, vI to, vI 5] (hM σ) sz (QP σ to (if nlp a b N = 1 then 6 else 5, N, a, b) sz) := by
  subst ha; subst hb
  have har := har0
  have hbr := hbr0
  refine Ct.of rfl (Nat.le_of_ble_eq_true rfl) ?_
  dsimp only [lsOf]
  refine V.iload_n (pc := 0) 2 d_Mo_keep_0 rfl rfl ?_
  refine V.iconst (pc := 1) d_Mo_keep_1 ⟨by decide, by decide⟩ ?_
  refine V.icmp_ne (tgt := 19) (pc := 2) d_Mo_keep_2 (by decide) (fun c_2 => ?_) (fun c_2 => ?_)
  · skip
    refine V.iload_n (pc := 19) 2 d_Mo_keep_19 rfl rfl ?_
    refine V.iconst (pc := 20) d_Mo_keep_20 ⟨by decide, by decide⟩ ?_
    refine V.icmp_ne (tgt := 106) (pc := 21) d_Mo_keep_21 (by decide) (fun c_21 => ?_) (fun c_21 => ?_)
    · skip
      exact absurd rfl c_21
    · skip
      refine V.aload_n (pc := 24) 0 d_Mo_keep_24 rfl rfl ?_
      refine V.aload_n (pc := 25) 0 d_Mo_keep_25 rfl rfl ?_
      refine V.getf (pc := 26) 6 cl_Mo fl_Mo_28_Mo d_Mo_keep_26 (hM_o _) (Nat.le_of_ble_eq_true rfl) rfl ?_
      refine V.aload_n (pc := 29) 0 d_Mo_keep_29 rfl rfl ?_
      refine V.getf (pc := 30) 8 cl_Mo fl_Mo_34_Mo d_Mo_keep_30 (hM_o _) (Nat.le_of_ble_eq_true rfl) rfl ?_
      refine V.sipush (pc := 33) d_Mo_keep_33 ⟨by decide, by decide⟩ ?_
      refine V.aload_n (pc := 36) 0 d_Mo_keep_36 rfl rfl ?_
      refine V.getf (pc := 37) 5 cl_Mo fl_Mo_25_Mo d_Mo_keep_37 (hM_o _) (Nat.le_of_ble_eq_true rfl) rfl ?_
      refine V.bipush (pc := 40) d_Mo_keep_40 ⟨by decide, by decide⟩ ?_
      refine V.iald (pc := 42) d_Mo_keep_42 (ar_many _).1 (by omega) (by omega) ?_
      try simp (disch := omega) only [sset_n, sset_e]
      rw [show (10 : Int).toNat = 10 from rfl, hN0]
      refine V.cV4 (pc := 43) (kc2 := 0) (ks2 := 0) ml_Mo_122 (hM_o _) (ct_Mo_joins ar_one ar_over (by decide) (by decide) (by decide) _ 400 N (by omega) (by omega) (by omega) (by omega) _) d_Mo_keep_43 (Nat.le_of_ble_eq_true rfl) (Nat.le_of_ble_eq_true rfl) (Nat.le_of_ble_eq_true rfl) (Nat.le_of_ble_eq_true rfl) ?_
      rintro _ _ _ ⟨rfl, fo, ft, rfl, hft1, rfl, hft2⟩
      try simp (disch := omega) only [sset_n, sset_e] at hft1 hft2 ⊢
      rw [if_pos har]
      dsimp only [Option.toList, List.cons_append, List.nil_append]
      refine V.if_eq (tgt := 78) (pc := 46) d_Mo_keep_46 (by decide) (fun c_46 => ?_) (fun c_46 => ?_)
      · skip
        exact absurd c_46 (by decide)
      · skip
        refine V.aload_n (pc := 49) 0 d_Mo_keep_49 rfl rfl ?_
        refine V.aload_n (pc := 50) 0 d_Mo_keep_50 rfl rfl ?_
        refine V.getf (pc := 51) 7 cl_Mo fl_Mo_31_Mo d_Mo_keep_51 (hM_o _) (Nat.le_of_ble_eq_true rfl) rfl ?_
        refine V.aload_n (pc := 54) 0 d_Mo_keep_54 rfl rfl ?_
        refine V.getf (pc := 55) 9 cl_Mo fl_Mo_37_Mo d_Mo_keep_55 (hM_o _) (Nat.le_of_ble_eq_true rfl) rfl ?_
        refine V.sipush (pc := 58) d_Mo_keep_58 ⟨by decide, by decide⟩ ?_
        refine V.aload_n (pc := 61) 0 d_Mo_keep_61 rfl rfl ?_
        refine V.getf (pc := 62) 5 cl_Mo fl_Mo_25_Mo d_Mo_keep_62 (hM_o _) (Nat.le_of_ble_eq_true rfl) rfl ?_
        refine V.bipush (pc := 65) d_Mo_keep_65 ⟨by decide, by decide⟩ ?_
        refine V.iald (pc := 67) d_Mo_keep_67 (ar_many _).1 (by omega) (by omega) ?_
        try simp (disch := omega) only [sset_n, sset_e]
        rw [show (10 : Int).toNat = 10 from rfl, hN0]
        refine V.cV4 (pc := 68) (kc2 := 0) (ks2 := 0) ml_Mo_122 (hM_o _) (ct_Mo_joins ar_two ar_under (by decide) (by decide) (by decide) _ 400 N (by omega) (by omega) (by omega) (by omega) _) d_Mo_keep_68 (Nat.le_of_ble_eq_true rfl) (Nat.le_of_ble_eq_true rfl) (Nat.le_of_ble_eq_true rfl) (Nat.le_of_ble_eq_true rfl) ?_
        rintro _ _ _ ⟨rfl, fo2, ft2, rfl, hgt1, rfl, hgt2⟩
        try simp (disch := omega) only [sset_n, sset_e] at hgt1 hgt2 ⊢
        rw [if_pos hbr]
        dsimp only [Option.toList, List.cons_append, List.nil_append]
        refine V.if_eq (tgt := 78) (pc := 71) d_Mo_keep_71 (by decide) (fun c_71 => ?_) (fun c_71 => ?_)
        · skip
          exact absurd c_71 (by decide)
        · skip
          refine V.iconst (pc := 74) d_Mo_keep_74 ⟨by decide, by decide⟩ ?_
          refine V.goto (tgt := 79) (pc := 75) d_Mo_keep_75 (by decide) ?_
          refine V.istore_n (pc := 79) 3 d_Mo_keep_79 rfl (Nat.le_of_ble_eq_true rfl) rfl ?_
          dsimp only [put]
          refine V.aload_n (pc := 80) 0 d_Mo_keep_80 rfl rfl ?_
          refine V.getf (pc := 81) 4 cl_Mo fl_Mo_22_Mo d_Mo_keep_81 (hM_o _) (Nat.le_of_ble_eq_true rfl) rfl ?_
          refine V.bipush (pc := 84) d_Mo_keep_84 ⟨by decide, by decide⟩ ?_
          refine V.aload_n (pc := 86) 0 d_Mo_keep_86 rfl rfl ?_
          refine V.bipush (pc := 87) d_Mo_keep_87 ⟨by decide, by decide⟩ ?_
          refine V.cV1 (pc := 89) (kc2 := 0) (ks2 := 0) ml_Mo_141 (hM_o _) (ct_Mo_landLoops _ 10 N 10 rfl (by omega) (by simp (disch := omega) only [sset_n, sset_e]; exact hN0) (by omega) (pt (fun q => σ 6 (400 + q)) N) (pt (fun q => σ 7 (400 + q)) N) (fun q hq => by simp (disch := omega) only [sset_n, sset_e]; exact hft2 har q hq) (fun q hq => by simp (disch := omega) only [sset_n, sset_e]; exact hgt2 hbr q hq) (PR_pt har) (PR_pt hbr) _) d_Mo_keep_89 (Nat.le_of_ble_eq_true rfl) (Nat.le_of_ble_eq_true rfl) (Nat.le_of_ble_eq_true rfl) (Nat.le_of_ble_eq_true rfl) ?_
          rintro _ _ _ ⟨rfl, fl, rfl, rfl, hfl⟩
          dsimp only [Option.toList, List.cons_append, List.nil_append]
          have hnl : (lpS (pt (fun q => σ 6 (400 + q)) N) (pt (fun q => σ 7 (400 + q)) N) (2 * N) (2 * N)).2 = nlp (fun q => σ 6 (400 + q)) (fun q => σ 7 (400 + q)) N := rfl
          rw [hnl]
          refine V.iconst (pc := 92) d_Mo_keep_92 ⟨by decide, by decide⟩ ?_
          refine V.icmp_ne (tgt := 101) (pc := 93) d_Mo_keep_93 (by decide) (fun c_93 => ?_) (fun c_93 => ?_)
          · skip
            refine V.iconst (pc := 101) d_Mo_keep_101 ⟨by decide, by decide⟩ ?_
            refine V.iast (pc := 102) d_Mo_keep_102 (ar_kinds _).1 (by omega) (by omega) ?_
            rw [(ar_kinds _).2]
            refine V.goto (tgt := 141) (pc := 103) d_Mo_keep_103 (by decide) ?_
            refine V.aload_n (pc := 141) 0 d_Mo_keep_141 rfl rfl ?_
            refine V.iload_n (pc := 142) 1 d_Mo_keep_142 rfl rfl ?_
            refine V.bipush (pc := 143) d_Mo_keep_143 ⟨by decide, by decide⟩ ?_
            refine V.cV2 (pc := 145) (kc2 := 0) (ks2 := 0) ml_Mo_148 (hM_o _) (ct_Mo_copyThing _ to hto _) d_Mo_keep_145 (Nat.le_of_ble_eq_true rfl) (Nat.le_of_ble_eq_true rfl) (Nat.le_of_ble_eq_true rfl) (Nat.le_of_ble_eq_true rfl) ?_
            rintro _ _ _ ⟨rfl, rfl, τ, rfl, hτ⟩
            have hc : cpT _ τ to := hτ
            dsimp only [Option.toList, List.cons_append, List.nil_append]
            refine V.aload_n (pc := 148) 0 d_Mo_keep_148 rfl rfl ?_
            refine V.aload_n (pc := 149) 0 d_Mo_keep_149 rfl rfl ?_
            refine V.getf (pc := 150) 4 cl_Mo fl_Mo_22_Mo d_Mo_keep_150 (hM_o _) (Nat.le_of_ble_eq_true rfl) rfl ?_
            refine V.iload_n (pc := 153) 1 d_Mo_keep_153 rfl rfl ?_
            refine V.iald (pc := 154) d_Mo_keep_154 (ar_kinds _).1 (by omega) (by omega) ?_
            try simp (disch := omega) only [sset_n, sset_e]
            have hk : τ 4 ((to : Nat) : Int).toNat = (if nlp (fun q => σ 6 (400 + q)) (fun q => σ 7 (400 + q)) N = 1 then 6 else 5) := by
              rw [hc 4]; simp only [if_true, Int.toNat_natCast]; unfold upf; rw [if_pos rfl]; simp (disch := omega) only [sset_n, sset_e]; rw [if_pos (show (10 : Nat) = Int.toNat 10 from rfl)]; first | rw [if_pos (by omega)] | rw [if_neg (by omega)]
            rw [hk]
            refine V.cV1 (pc := 155) (kc2 := 0) (ks2 := 0) ml_Mo_117 (hM_o _) (ct_Mo_well _ _ _) d_Mo_keep_155 (Nat.le_of_ble_eq_true rfl) (Nat.le_of_ble_eq_true rfl) (Nat.le_of_ble_eq_true rfl) (Nat.le_of_ble_eq_true rfl) ?_
            rintro _ _ _ ⟨rfl, rfl, rfl⟩
            dsimp only [Option.toList, List.cons_append, List.nil_append]
            refine V.ret (pc := 158) (r := some (vI _)) d_Mo_keep_158 (Or.inl rfl) rfl ?_
            refine ⟨rfl, rfl, _, rfl, KP_of hto ?_ hc, show R_one _ to (τ 4) (τ 5) (τ 6) (τ 7) (τ 8) (τ 9) from R_one_copy ?_ hc⟩
            · refine ⟨fun j hj => ?_, fun t ht => ⟨?_, ?_⟩, fun j j6 j9 i hi => ?_⟩
              · simp (disch := omega) only [sset_n]
              · simp (disch := omega) only [sset_n, sset_e]; unfold upf; rw [if_neg (by omega)]
              · simp (disch := omega) only [sset_n]
              · by_cases j9 : j = 9
                · subst j9; simp (disch := omega) only [sset_n, sset_e]; exact hgt1 i (Or.inl hi)
                · by_cases j8 : j = 8
                  · subst j8; simp (disch := omega) only [sset_n, sset_e]; exact hft1 i (Or.inl hi)
                  · simp (disch := omega) only [sset_n]
            · have h56 : (if nlp (fun q => σ 6 (400 + q)) (fun q => σ 7 (400 + q)) N = 1 then (6 : Int) else 5) = 5 ∨ (if nlp (fun q => σ 6 (400 + q)) (fun q => σ 7 (400 + q)) N = 1 then (6 : Int) else 5) = 6 := by split <;> simp
              refine ⟨⟨hN.1, hN.2, Or.inr (Or.inl ⟨h56, hsg, hsh, har, hbr, by split <;> simp_all⟩)⟩, ?_, ?_, fun _ p hp => ?_, fun h7 => by omega, fun _ p hp => ⟨?_, ?_⟩, fun _ _ p hp => ?_⟩
              · simp (disch := omega) only [sset_n, sset_e]; unfold upf; rw [if_pos (show (10 : Nat) = Int.toNat 10 from rfl)]; first | rw [if_pos (by omega)] | rw [if_neg (by omega)]
              · simp (disch := omega) only [sset_n, sset_e]; exact hN0
              · simp (disch := omega) only [sset_n, sset_e]
              · simp (disch := omega) only [sset_n, sset_e]
              · simp (disch := omega) only [sset_n, sset_e]; exact hgt2 hbr p hp
              · simp (disch := omega) only [sset_n, sset_e]; exact hft2 har p hp
          · skip
            refine V.bipush (pc := 96) d_Mo_keep_96 ⟨by decide, by decide⟩ ?_
            refine V.goto (tgt := 102) (pc := 98) d_Mo_keep_98 (by decide) ?_
            refine V.iast (pc := 102) d_Mo_keep_102 (ar_kinds _).1 (by omega) (by omega) ?_
            rw [(ar_kinds _).2]
            refine V.goto (tgt := 141) (pc := 103) d_Mo_keep_103 (by decide) ?_
            refine V.aload_n (pc := 141) 0 d_Mo_keep_141 rfl rfl ?_
            refine V.iload_n (pc := 142) 1 d_Mo_keep_142 rfl rfl ?_
            refine V.bipush (pc := 143) d_Mo_keep_143 ⟨by decide, by decide⟩ ?_
            refine V.cV2 (pc := 145) (kc2 := 0) (ks2 := 0) ml_Mo_148 (hM_o _) (ct_Mo_copyThing _ to hto _) d_Mo_keep_145 (Nat.le_of_ble_eq_true rfl) (Nat.le_of_ble_eq_true rfl) (Nat.le_of_ble_eq_true rfl) (Nat.le_of_ble_eq_true rfl) ?_
            rintro _ _ _ ⟨rfl, rfl, τ, rfl, hτ⟩
            have hc : cpT _ τ to := hτ
            dsimp only [Option.toList, List.cons_append, List.nil_append]
            refine V.aload_n (pc := 148) 0 d_Mo_keep_148 rfl rfl ?_
            refine V.aload_n (pc := 149) 0 d_Mo_keep_149 rfl rfl ?_
            refine V.getf (pc := 150) 4 cl_Mo fl_Mo_22_Mo d_Mo_keep_150 (hM_o _) (Nat.le_of_ble_eq_true rfl) rfl ?_
            refine V.iload_n (pc := 153) 1 d_Mo_keep_153 rfl rfl ?_
            refine V.iald (pc := 154) d_Mo_keep_154 (ar_kinds _).1 (by omega) (by omega) ?_
            try simp (disch := omega) only [sset_n, sset_e]
            have hk : τ 4 ((to : Nat) : Int).toNat = (if nlp (fun q => σ 6 (400 + q)) (fun q => σ 7 (400 + q)) N = 1 then 6 else 5) := by
              rw [hc 4]; simp only [if_true, Int.toNat_natCast]; unfold upf; rw [if_pos rfl]; simp (disch := omega) only [sset_n, sset_e]; rw [if_pos (show (10 : Nat) = Int.toNat 10 from rfl)]; first | rw [if_pos (by omega)] | rw [if_neg (by omega)]
            rw [hk]
            refine V.cV1 (pc := 155) (kc2 := 0) (ks2 := 0) ml_Mo_117 (hM_o _) (ct_Mo_well _ _ _) d_Mo_keep_155 (Nat.le_of_ble_eq_true rfl) (Nat.le_of_ble_eq_true rfl) (Nat.le_of_ble_eq_true rfl) (Nat.le_of_ble_eq_true rfl) ?_
            rintro _ _ _ ⟨rfl, rfl, rfl⟩
            dsimp only [Option.toList, List.cons_append, List.nil_append]
            refine V.ret (pc := 158) (r := some (vI _)) d_Mo_keep_158 (Or.inl rfl) rfl ?_
            refine ⟨rfl, rfl, _, rfl, KP_of hto ?_ hc, show R_one _ to (τ 4) (τ 5) (τ 6) (τ 7) (τ 8) (τ 9) from R_one_copy ?_ hc⟩
            · refine ⟨fun j hj => ?_, fun t ht => ⟨?_, ?_⟩, fun j j6 j9 i hi => ?_⟩
              · simp (disch := omega) only [sset_n]
              · simp (disch := omega) only [sset_n, sset_e]; unfold upf; rw [if_neg (by omega)]
              · simp (disch := omega) only [sset_n]
              · by_cases j9 : j = 9
                · subst j9; simp (disch := omega) only [sset_n, sset_e]; exact hgt1 i (Or.inl hi)
                · by_cases j8 : j = 8
                  · subst j8; simp (disch := omega) only [sset_n, sset_e]; exact hft1 i (Or.inl hi)
                  · simp (disch := omega) only [sset_n]
            · have h56 : (if nlp (fun q => σ 6 (400 + q)) (fun q => σ 7 (400 + q)) N = 1 then (6 : Int) else 5) = 5 ∨ (if nlp (fun q => σ 6 (400 + q)) (fun q => σ 7 (400 + q)) N = 1 then (6 : Int) else 5) = 6 := by split <;> simp
              refine ⟨⟨hN.1, hN.2, Or.inr (Or.inl ⟨h56, hsg, hsh, har, hbr, by split <;> simp_all⟩)⟩, ?_, ?_, fun _ p hp => ?_, fun h7 => by omega, fun _ p hp => ⟨?_, ?_⟩, fun _ _ p hp => ?_⟩
              · simp (disch := omega) only [sset_n, sset_e]; unfold upf; rw [if_pos (show (10 : Nat) = Int.toNat 10 from rfl)]; first | rw [if_pos (by omega)] | rw [if_neg (by omega)]
              · simp (disch := omega) only [sset_n, sset_e]; exact hN0
              · simp (disch := omega) only [sset_n, sset_e]
              · simp (disch := omega) only [sset_n, sset_e]
              · simp (disch := omega) only [sset_n, sset_e]; exact hgt2 hbr p hp
              · simp (disch := omega) only [sset_n, sset_e]; exact hft2 har p hp
  · skip
    exact absurd c_2 (by decide)
/-- a strip's KIND: 8 if it folds -/
def isStripK (a : Nat → Int) (N : Nat) (k : Int) : Prop := (k = 7 ∨ k = 8) ∧ (k = 8 ↔ ∃ ps, isPos a ps N ∧ noClash ps N)
set_option maxRecDepth 20000 in
theorem ct_Mo_keepS (σ : SM) (to : Nat) (hto : to < 10) (a : Nat → Int) (N : Nat) (ha : a = fun q => σ 6 (400 + q)) (hN0 : σ 5 10 = N) (hN : 1 ≤ N ∧ N ≤ 20) (hpm : isPerm a N) (sz : Nat) : Ct M_Mo_keep 2 0 0 [vR 8, vI to, vI 7] (hM σ) sz (fun r h s => s = sz ∧ ∃ k, (k = 7 ∨ k = 8) ∧ (k = 8 ↔ ∃ ps, isPos a ps N ∧ noClash ps N) ∧ r = some (vI k) ∧ ∃ τ, h = hM τ ∧ KP σ τ to ∧ R_one (k, N, a, fun _ => 0) to (τ 4) (τ 5) (τ 6) (τ 7) (τ 8) (τ 9)) := by
  refine Ct.of rfl (Nat.le_of_ble_eq_true rfl) ?_
  dsimp only [lsOf]
  refine V.iload_n (pc := 0) 2 d_Mo_keep_0 rfl rfl ?_
  refine V.iconst (pc := 1) d_Mo_keep_1 ⟨by decide, by decide⟩ ?_
  refine V.icmp_ne (tgt := 19) (pc := 2) d_Mo_keep_2 (by decide) (fun c_2 => ?_) (fun c_2 => ?_)
  · skip
    refine V.iload_n (pc := 19) 2 d_Mo_keep_19 rfl rfl ?_
    refine V.iconst (pc := 20) d_Mo_keep_20 ⟨by decide, by decide⟩ ?_
    refine V.icmp_ne (tgt := 106) (pc := 21) d_Mo_keep_21 (by decide) (fun c_21 => ?_) (fun c_21 => ?_)
    · skip
      refine V.aload_n (pc := 106) 0 d_Mo_keep_106 rfl rfl ?_
      refine V.getf (pc := 107) 4 cl_Mo fl_Mo_22_Mo d_Mo_keep_107 (hM_o _) (Nat.le_of_ble_eq_true rfl) rfl ?_
      refine V.bipush (pc := 110) d_Mo_keep_110 ⟨by decide, by decide⟩ ?_
      refine V.aload_n (pc := 112) 0 d_Mo_keep_112 rfl rfl ?_
      refine V.aload_n (pc := 113) 0 d_Mo_keep_113 rfl rfl ?_
      refine V.getf (pc := 114) 6 cl_Mo fl_Mo_28_Mo d_Mo_keep_114 (hM_o _) (Nat.le_of_ble_eq_true rfl) rfl ?_
      refine V.sipush (pc := 117) d_Mo_keep_117 ⟨by decide, by decide⟩ ?_
      refine V.aload_n (pc := 120) 0 d_Mo_keep_120 rfl rfl ?_
      refine V.getf (pc := 121) 5 cl_Mo fl_Mo_25_Mo d_Mo_keep_121 (hM_o _) (Nat.le_of_ble_eq_true rfl) rfl ?_
      refine V.bipush (pc := 124) d_Mo_keep_124 ⟨by decide, by decide⟩ ?_
      refine V.iald (pc := 126) d_Mo_keep_126 (ar_many _).1 (by omega) (by omega) ?_
      try simp (disch := omega) only [sset_n, sset_e]
      rw [show (10 : Int).toNat = 10 from rfl, hN0]
      refine V.cV3 (pc := 127) (kc2 := 0) (ks2 := 0) ml_Mo_144 (hM_o _) (ct_Mo_isFolding ar_one (by decide) σ a 400 N ha (by omega) (by omega) (by omega) hpm _) d_Mo_keep_127 (Nat.le_of_ble_eq_true rfl) (Nat.le_of_ble_eq_true rfl) (Nat.le_of_ble_eq_true rfl) (Nat.le_of_ble_eq_true rfl) ?_
      rintro _ _ _ ⟨rfl, ps, x, y, rfl, hps, hfc, hrr⟩
      obtain ⟨k9, hkk, hk78⟩ : ∃ k9 : Int, ((noClash ps N → k9 = 8) ∧ (¬ noClash ps N → k9 = 7)) ∧ ((k9 = 7 ∨ k9 = 8) ∧ (k9 = 8 ↔ noClash ps N)) := by
        by_cases q : noClash ps N
        · exact ⟨8, ⟨fun _ => rfl, fun z => absurd q z⟩, Or.inr rfl, fun _ => q, fun _ => rfl⟩
        · exact ⟨7, ⟨fun z => absurd z q, fun _ => rfl⟩, Or.inl rfl, fun z => by omega, fun z => absurd z q⟩
      rcases hrr with hrr | hrr
      · skip
        obtain ⟨rfl, hrr2⟩ := id hrr
        dsimp only [Option.toList, List.cons_append, List.nil_append]
        refine V.if_eq (tgt := 138) (pc := 130) d_Mo_keep_130 (by decide) (fun c => absurd c (by decide)) (fun _ => ?_)
        have hk9 : k9 = 8 := hkk.1 hrr.2
        refine V.bipush (pc := 133) d_Mo_keep_133 ⟨by decide, by decide⟩ ?_
        refine V.goto (tgt := 140) (pc := 135) d_Mo_keep_135 (by decide) ?_
        refine V.iast (pc := 140) d_Mo_keep_140 (ar_kinds _).1 (by omega) (by omega) ?_
        rw [(ar_kinds _).2]
        refine V.aload_n (pc := 141) 0 d_Mo_keep_141 rfl rfl ?_
        refine V.iload_n (pc := 142) 1 d_Mo_keep_142 rfl rfl ?_
        refine V.bipush (pc := 143) d_Mo_keep_143 ⟨by decide, by decide⟩ ?_
        refine V.cV2 (pc := 145) (kc2 := 0) (ks2 := 0) ml_Mo_148 (hM_o _) (ct_Mo_copyThing _ to hto _) d_Mo_keep_145 (Nat.le_of_ble_eq_true rfl) (Nat.le_of_ble_eq_true rfl) (Nat.le_of_ble_eq_true rfl) (Nat.le_of_ble_eq_true rfl) ?_
        rintro _ _ _ ⟨rfl, rfl, τ, rfl, hτ⟩
        have hc : cpT _ τ to := hτ
        dsimp only [Option.toList, List.cons_append, List.nil_append]
        refine V.aload_n (pc := 148) 0 d_Mo_keep_148 rfl rfl ?_
        refine V.aload_n (pc := 149) 0 d_Mo_keep_149 rfl rfl ?_
        refine V.getf (pc := 150) 4 cl_Mo fl_Mo_22_Mo d_Mo_keep_150 (hM_o _) (Nat.le_of_ble_eq_true rfl) rfl ?_
        refine V.iload_n (pc := 153) 1 d_Mo_keep_153 rfl rfl ?_
        refine V.iald (pc := 154) d_Mo_keep_154 (ar_kinds _).1 (by omega) (by omega) ?_
        try simp (disch := omega) only [sset_n, sset_e]
        have hk : τ 4 ((to : Nat) : Int).toNat = k9 := by
          rw [hc 4]; simp only [if_true, Int.toNat_natCast]; unfold upf; rw [if_pos rfl]; simp (disch := omega) only [sset_n, sset_e]; exact hk9.symm
        rw [hk]
        refine V.cV1 (pc := 155) (kc2 := 0) (ks2 := 0) ml_Mo_117 (hM_o _) (ct_Mo_well _ _ _) d_Mo_keep_155 (Nat.le_of_ble_eq_true rfl) (Nat.le_of_ble_eq_true rfl) (Nat.le_of_ble_eq_true rfl) (Nat.le_of_ble_eq_true rfl) ?_
        rintro _ _ _ ⟨rfl, rfl, rfl⟩
        dsimp only [Option.toList, List.cons_append, List.nil_append]
        refine V.ret (pc := 158) (r := some (vI _)) d_Mo_keep_158 (Or.inl rfl) rfl ?_
        refine ⟨rfl, k9, hk78.1, ?_, rfl, _, rfl, KP_of hto ?_ hc, show R_one _ to (τ 4) (τ 5) (τ 6) (τ 7) (τ 8) (τ 9) from R_one_copy ?_ hc⟩
        · rw [hk78.2]; exact ⟨fun z => ⟨ps, hps, z⟩, fun ⟨qs, hq1, hq2⟩ i j hcl => hq2 i j ((clash_cong (pos_one hpm hps hq1)).mp hcl)⟩
        · refine ⟨fun j hj => ?_, fun t ht => ⟨?_, ?_⟩, fun j j6 j9 i hi => ?_⟩
          · simp (disch := omega) only [sset_n]
          · simp (disch := omega) only [sset_n, sset_e]; unfold upf; rw [if_neg (by omega)]
          · simp (disch := omega) only [sset_n]
          · simp (disch := omega) only [sset_n]
        · refine ⟨⟨hN.1, hN.2, Or.inr (Or.inr ⟨hk78.1, hpm, ?_⟩)⟩, ?_, ?_, fun h6 => by have := hk78.1; omega, fun _ p hp => ?_, fun h5 => by have := hk78.1; omega, fun h2 h6 => by have := hk78.1; omega⟩
          · rw [hk78.2]; exact ⟨fun z => ⟨ps, hps, z⟩, fun ⟨qs, hq1, hq2⟩ i j hcl => hq2 i j ((clash_cong (pos_one hpm hps hq1)).mp hcl)⟩
          · simp (disch := omega) only [sset_n, sset_e]; unfold upf; rw [if_pos (show (10 : Nat) = Int.toNat 10 from rfl)]; exact hk9.symm
          · simp (disch := omega) only [sset_n, sset_e]; exact hN0
          · simp (disch := omega) only [sset_n, sset_e]; rw [ha]
      · skip
        obtain ⟨rfl, hrr2⟩ := id hrr
        dsimp only [Option.toList, List.cons_append, List.nil_append]
        refine V.if_eq (tgt := 138) (pc := 130) d_Mo_keep_130 (by decide) (fun _ => ?_) (fun c => absurd rfl c)
        have hk9 : k9 = 7 := hkk.2 hrr.2
        refine V.bipush (pc := 138) d_Mo_keep_138 ⟨by decide, by decide⟩ ?_
        refine V.iast (pc := 140) d_Mo_keep_140 (ar_kinds _).1 (by omega) (by omega) ?_
        rw [(ar_kinds _).2]
        refine V.aload_n (pc := 141) 0 d_Mo_keep_141 rfl rfl ?_
        refine V.iload_n (pc := 142) 1 d_Mo_keep_142 rfl rfl ?_
        refine V.bipush (pc := 143) d_Mo_keep_143 ⟨by decide, by decide⟩ ?_
        refine V.cV2 (pc := 145) (kc2 := 0) (ks2 := 0) ml_Mo_148 (hM_o _) (ct_Mo_copyThing _ to hto _) d_Mo_keep_145 (Nat.le_of_ble_eq_true rfl) (Nat.le_of_ble_eq_true rfl) (Nat.le_of_ble_eq_true rfl) (Nat.le_of_ble_eq_true rfl) ?_
        rintro _ _ _ ⟨rfl, rfl, τ, rfl, hτ⟩
        have hc : cpT _ τ to := hτ
        dsimp only [Option.toList, List.cons_append, List.nil_append]
        refine V.aload_n (pc := 148) 0 d_Mo_keep_148 rfl rfl ?_
        refine V.aload_n (pc := 149) 0 d_Mo_keep_149 rfl rfl ?_
        refine V.getf (pc := 150) 4 cl_Mo fl_Mo_22_Mo d_Mo_keep_150 (hM_o _) (Nat.le_of_ble_eq_true rfl) rfl ?_
        refine V.iload_n (pc := 153) 1 d_Mo_keep_153 rfl rfl ?_
        refine V.iald (pc := 154) d_Mo_keep_154 (ar_kinds _).1 (by omega) (by omega) ?_
        try simp (disch := omega) only [sset_n, sset_e]
        have hk : τ 4 ((to : Nat) : Int).toNat = k9 := by
          rw [hc 4]; simp only [if_true, Int.toNat_natCast]; unfold upf; rw [if_pos rfl]; simp (disch := omega) only [sset_n, sset_e]; exact hk9.symm
        rw [hk]
        refine V.cV1 (pc := 155) (kc2 := 0) (ks2 := 0) ml_Mo_117 (hM_o _) (ct_Mo_well _ _ _) d_Mo_keep_155 (Nat.le_of_ble_eq_true rfl) (Nat.le_of_ble_eq_true rfl) (Nat.le_of_ble_eq_true rfl) (Nat.le_of_ble_eq_true rfl) ?_
        rintro _ _ _ ⟨rfl, rfl, rfl⟩
        dsimp only [Option.toList, List.cons_append, List.nil_append]
        refine V.ret (pc := 158) (r := some (vI _)) d_Mo_keep_158 (Or.inl rfl) rfl ?_
        refine ⟨rfl, k9, hk78.1, ?_, rfl, _, rfl, KP_of hto ?_ hc, show R_one _ to (τ 4) (τ 5) (τ 6) (τ 7) (τ 8) (τ 9) from R_one_copy ?_ hc⟩
        · rw [hk78.2]; exact ⟨fun z => ⟨ps, hps, z⟩, fun ⟨qs, hq1, hq2⟩ i j hcl => hq2 i j ((clash_cong (pos_one hpm hps hq1)).mp hcl)⟩
        · refine ⟨fun j hj => ?_, fun t ht => ⟨?_, ?_⟩, fun j j6 j9 i hi => ?_⟩
          · simp (disch := omega) only [sset_n]
          · simp (disch := omega) only [sset_n, sset_e]; unfold upf; rw [if_neg (by omega)]
          · simp (disch := omega) only [sset_n]
          · simp (disch := omega) only [sset_n]
        · refine ⟨⟨hN.1, hN.2, Or.inr (Or.inr ⟨hk78.1, hpm, ?_⟩)⟩, ?_, ?_, fun h6 => by have := hk78.1; omega, fun _ p hp => ?_, fun h5 => by have := hk78.1; omega, fun h2 h6 => by have := hk78.1; omega⟩
          · rw [hk78.2]; exact ⟨fun z => ⟨ps, hps, z⟩, fun ⟨qs, hq1, hq2⟩ i j hcl => hq2 i j ((clash_cong (pos_one hpm hps hq1)).mp hcl)⟩
          · simp (disch := omega) only [sset_n, sset_e]; unfold upf; rw [if_pos (show (10 : Nat) = Int.toNat 10 from rfl)]; exact hk9.symm
          · simp (disch := omega) only [sset_n, sset_e]; exact hN0
          · simp (disch := omega) only [sset_n, sset_e]; rw [ha]
    · skip
      exact absurd c_21 (by decide)
  · skip
    exact absurd c_2 (by decide)
