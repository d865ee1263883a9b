/-! THE REFERENCE: clash, printed by wip/whole/gen/refT.py -/
def sp_clash (S : SS) (p w : Int) (x : Int × SS) : Prop := if (0 ≤ p ∧ p ≤ 9) ∧ (0 ≤ w ∧ w ≤ 1) then (match S.2.1 p.toNat with
  | none => x = (-1000011, sSt S 1)
  | some (kd, n, a, _) => if isOf kd 7 then (∃ ps u v, isPos a ps n ∧ firstClash ps n u v ∧ x = (if w = 0 then u else v, sSt S 0)) else x = (-1000013, sSt S 3)) else x = (-1000001, S)
theorem wf_strip {kd : Int} {n : Nat} {a b : Nat → Int} (hw : wfT (kd, n, a, b)) (h : isOf kd 7) : isPerm a n := by
  obtain ⟨-, -, h3⟩ := hw
  rcases h3 with h3 | h3 | h3
  · have := h3.1; have := h3.2.1; omega
  · have := h3.1; omega
  · exact h3.2.1
set_option maxRecDepth 20000 in
theorem cs_Mo_clash (S : SS) (σ : SM) (hI : RI S σ) (p w : Int) (sz : Nat) : Ct M_Mo_clash 2 0 0 [vR 8, vI p, vI w] (hM σ) sz (QX (sp_clash S p w) sz) := by
  refine Ct.of rfl (Nat.le_of_ble_eq_true rfl) ?_
  dsimp only [lsOf]
  refine V.iload_n (pc := 0) 1 d_Mo_clash_0 rfl rfl ?_
  refine V.cS1 (pc := 1) (kc2 := 0) (ks2 := 0) ml_Mo_152 (ct_Mo_isPlace _ _ _) d_Mo_clash_1 (Nat.le_of_ble_eq_true rfl) (Nat.le_of_ble_eq_true rfl) (Nat.le_of_ble_eq_true rfl) (Nat.le_of_ble_eq_true rfl) ?_
  rintro _ _ _ ⟨rfl, rfl, rfl⟩
  dsimp only [Option.toList, List.cons_append, List.nil_append]
  refine V.ifB_eq (tgt := 17) (pc := 4) d_Mo_clash_4 (by decide) (fun c_4 => ?_) (fun c_4 => ?_)
  · skip
    refine V.ldc (pc := 17) (-1000001) ck_Mo_112 rfl ⟨by decide, by decide⟩ d_Mo_clash_17 ?_
    refine V.ret (pc := 19) (r := some (vI _)) d_Mo_clash_19 (Or.inl rfl) rfl ?_
    refine qx_of (S2 := S) ?_ hI
    unfold sp_clash; rw [if_neg (by omega)]
  · skip
    refine V.iload_n (pc := 7) 2 d_Mo_clash_7 rfl rfl ?_
    refine V.i2l (pc := 8) d_Mo_clash_8 ?_
    refine V.lconst0 (pc := 9) d_Mo_clash_9 ?_
    refine V.lconst1 (pc := 10) d_Mo_clash_10 ?_
    refine V.cS3 (pc := 11) (kc2 := 0) (ks2 := 0) ml_Mo_102 (ct_Mo_in _ _ _ _ _) d_Mo_clash_11 (Nat.le_of_ble_eq_true rfl) (Nat.le_of_ble_eq_true rfl) (Nat.le_of_ble_eq_true rfl) (Nat.le_of_ble_eq_true rfl) ?_
    rintro _ _ _ ⟨rfl, rfl, rfl⟩
    dsimp only [Option.toList, List.cons_append, List.nil_append]
    refine V.ifB_ne (tgt := 20) (pc := 14) d_Mo_clash_14 (by decide) (fun c_14 => ?_) (fun c_14 => ?_)
    · skip
      rcases th_cases hI.2.1 (show p.toNat < 10 by omega) with ⟨hS, hk⟩ | ⟨kd, n, a, b, hS, hone⟩
      rotate_left
      by_cases hof : isOf kd 7
      · skip
        obtain ⟨hw, hk, hn, h3, h4, h5, h6⟩ := id hone
        have hwk := wf_kind hw
        refine V.aload_n (pc := 20) 0 d_Mo_clash_20 rfl rfl ?_
        refine V.iload_n (pc := 21) 1 d_Mo_clash_21 rfl rfl ?_
        refine V.bipush (pc := 22) d_Mo_clash_22 ⟨by decide, by decide⟩ ?_
        refine V.cV2 (pc := 24) (kc2 := 0) (ks2 := 0) ml_Mo_165 (hM_o _) (refY (by omega) (by omega) (by rw [hk]; exact hof) _) d_Mo_clash_24 (Nat.le_of_ble_eq_true rfl) (Nat.le_of_ble_eq_true rfl) (Nat.le_of_ble_eq_true rfl) (Nat.le_of_ble_eq_true rfl) ?_
        rintro _ _ _ ⟨rfl, rfl, rfl⟩
        dsimp only [Option.toList, List.cons_append, List.nil_append]
        refine V.istore_n (pc := 27) 3 d_Mo_clash_27 rfl (Nat.le_of_ble_eq_true rfl) rfl ?_
        dsimp only [put]
        refine V.iload_n (pc := 28) 3 d_Mo_clash_28 rfl rfl ?_
        refine V.if_eq (tgt := 34) (pc := 29) d_Mo_clash_29 (by decide) (fun c_29 => ?_) (fun c_29 => ?_)
        · skip
          refine V.aload_n (pc := 34) 0 d_Mo_clash_34 rfl rfl ?_
          refine V.aload_n (pc := 35) 0 d_Mo_clash_35 rfl rfl ?_
          refine V.getf (pc := 36) 6 cl_Mo fl_Mo_28_Mo d_Mo_clash_36 (hM_o _) (Nat.le_of_ble_eq_true rfl) rfl ?_
          refine V.bipush (pc := 39) d_Mo_clash_39 ⟨by decide, by decide⟩ ?_
          refine V.iload_n (pc := 41) 1 d_Mo_clash_41 rfl rfl ?_
          refine V.imul (pc := 42) d_Mo_clash_42 ⟨by omega, by omega⟩ ?_
          refine V.aload_n (pc := 43) 0 d_Mo_clash_43 rfl rfl ?_
          refine V.getf (pc := 44) 5 cl_Mo fl_Mo_25_Mo d_Mo_clash_44 (hM_o _) (Nat.le_of_ble_eq_true rfl) rfl ?_
          refine V.iload_n (pc := 47) 1 d_Mo_clash_47 rfl rfl ?_
          refine V.iald (pc := 48) d_Mo_clash_48 (ar_many _).1 (by omega) (by omega) ?_
          try simp (disch := omega) only [sset_n, sset_e]
          have e40 : (vI (40 * p) : MV) = vI ((40 * p.toNat : Nat) : Int) := by rw [show ((40 * p.toNat : Nat) : Int) = 40 * p by omega]
          rw [hn, e40]
          have hpm := wf_strip hw hof
          have hpm2 : isPerm (fun q => σ 6 (40 * p.toNat + q)) n := perm_cong (fun q hq => (h4 (by omega) q hq).symm) hpm
          refine V.cV3 (pc := 49) (kc2 := 0) (ks2 := 0) ml_Mo_144 (hM_o _) (ct_Mo_isFolding ar_one (by decide) σ _ (40 * p.toNat) n rfl (by omega) (by omega) (by decide) hpm2 _) d_Mo_clash_49 (Nat.le_of_ble_eq_true rfl) (Nat.le_of_ble_eq_true rfl) (Nat.le_of_ble_eq_true rfl) (Nat.le_of_ble_eq_true rfl) ?_
          rintro r9 _ _ ⟨rfl, ps, u, v, rfl, hps, hfc, hr9⟩
          obtain ⟨z9, rfl⟩ : ∃ z, r9 = some (vI z) := by rcases hr9 with g | g <;> exact ⟨_, g.1⟩
          dsimp only [Option.toList, List.cons_append, List.nil_append]
          have hI2 := hI.kn (((KN.rf σ).updx (k := 15) (by omega) ps).updx (k := 16) (by omega) (fun _ => u) |>.updx (k := 17) (by omega) (fun _ => v))
          refine V.istore (pc := 52) d_Mo_clash_52 (Nat.le_of_ble_eq_true rfl) rfl ?_
          dsimp only [put]
          refine V.aload_n (pc := 54) 0 d_Mo_clash_54 rfl rfl ?_
          refine V.iload_n (pc := 55) 2 d_Mo_clash_55 rfl rfl ?_
          refine V.if_ne (tgt := 66) (pc := 56) d_Mo_clash_56 (by decide) (fun c_56 => ?_) (fun c_56 => ?_)
          · skip
            refine V.aload_n (pc := 66) 0 d_Mo_clash_66 rfl rfl ?_
            refine V.getf (pc := 67) 17 cl_Mo fl_Mo_133_Mo d_Mo_clash_67 (hM_o _) (Nat.le_of_ble_eq_true rfl) rfl ?_
            try simp (disch := omega) only [sset_n, sset_e]
            refine V.cV1 (pc := 70) (kc2 := 0) (ks2 := 0) ml_Mo_117 (hM_o _) (ct_Mo_well _ _ _) d_Mo_clash_70 (Nat.le_of_ble_eq_true rfl) (Nat.le_of_ble_eq_true rfl) (Nat.le_of_ble_eq_true rfl) (Nat.le_of_ble_eq_true rfl) ?_
            rintro _ _ _ ⟨rfl, rfl, rfl⟩
            dsimp only [Option.toList, List.cons_append, List.nil_append]
            refine V.ret (pc := 73) (r := some (vI _)) d_Mo_clash_73 (Or.inl rfl) rfl ?_
            refine qx_of (S2 := sSt S 0) ?_ (hI2.st 0)
            unfold sp_clash; rw [if_pos (by omega)]; simp only [hS]; rw [if_pos hof]
            exact ⟨ps, u, v, pos_cong (fun q hq => h4 (by omega) q hq) hps, hfc, by rw [if_neg (by omega)]⟩
          · skip
            refine V.aload_n (pc := 59) 0 d_Mo_clash_59 rfl rfl ?_
            refine V.getf (pc := 60) 16 cl_Mo fl_Mo_130_Mo d_Mo_clash_60 (hM_o _) (Nat.le_of_ble_eq_true rfl) rfl ?_
            try simp (disch := omega) only [sset_n, sset_e]
            refine V.goto (tgt := 70) (pc := 63) d_Mo_clash_63 (by decide) ?_
            refine V.cV1 (pc := 70) (kc2 := 0) (ks2 := 0) ml_Mo_117 (hM_o _) (ct_Mo_well _ _ _) d_Mo_clash_70 (Nat.le_of_ble_eq_true rfl) (Nat.le_of_ble_eq_true rfl) (Nat.le_of_ble_eq_true rfl) (Nat.le_of_ble_eq_true rfl) ?_
            rintro _ _ _ ⟨rfl, rfl, rfl⟩
            dsimp only [Option.toList, List.cons_append, List.nil_append]
            refine V.ret (pc := 73) (r := some (vI _)) d_Mo_clash_73 (Or.inl rfl) rfl ?_
            refine qx_of (S2 := sSt S 0) ?_ (hI2.st 0)
            unfold sp_clash; rw [if_pos (by omega)]; simp only [hS]; rw [if_pos hof]
            exact ⟨ps, u, v, pos_cong (fun q hq => h4 (by omega) q hq) hps, hfc, by rw [if_pos (by omega)]⟩
        · skip
          exact absurd rfl c_29
      · skip
        obtain ⟨hw, hk, hn, h3, h4, h5, h6⟩ := id hone
        have hwk := wf_kind hw
        refine V.aload_n (pc := 20) 0 d_Mo_clash_20 rfl rfl ?_
        refine V.iload_n (pc := 21) 1 d_Mo_clash_21 rfl rfl ?_
        refine V.bipush (pc := 22) d_Mo_clash_22 ⟨by decide, by decide⟩ ?_
        refine V.cV2 (pc := 24) (kc2 := 0) (ks2 := 0) ml_Mo_165 (hM_o _) (refK (by omega) (by omega) (by rw [hk]; exact hof) _) d_Mo_clash_24 (Nat.le_of_ble_eq_true rfl) (Nat.le_of_ble_eq_true rfl) (Nat.le_of_ble_eq_true rfl) (Nat.le_of_ble_eq_true rfl) ?_
        rintro _ _ _ ⟨rfl, rfl, rfl⟩
        dsimp only [Option.toList, List.cons_append, List.nil_append]
        refine V.istore_n (pc := 27) 3 d_Mo_clash_27 rfl (Nat.le_of_ble_eq_true rfl) rfl ?_
        dsimp only [put]
        refine V.iload_n (pc := 28) 3 d_Mo_clash_28 rfl rfl ?_
        refine V.if_eq (tgt := 34) (pc := 29) d_Mo_clash_29 (by decide) (fun c_29 => ?_) (fun c_29 => ?_)
        · skip
          exact absurd c_29 (by decide)
        · skip
          refine V.iload_n (pc := 32) 3 d_Mo_clash_32 rfl rfl ?_
          refine V.ret (pc := 33) (r := some (vI _)) d_Mo_clash_33 (Or.inl rfl) rfl ?_
          first
            | (refine qx_of (S2 := sSt S 1) ?_ (hI.st 1); unfold sp_clash; rw [if_pos (by omega)]; simp only [hS]; done)
            | (refine qx_of (S2 := sSt S 3) ?_ (hI.st 3); unfold sp_clash; rw [if_pos (by omega)]; simp only [hS]; rw [if_neg hof]; trivial)
      · skip
        refine V.aload_n (pc := 20) 0 d_Mo_clash_20 rfl rfl ?_
        refine V.iload_n (pc := 21) 1 d_Mo_clash_21 rfl rfl ?_
        refine V.bipush (pc := 22) d_Mo_clash_22 ⟨by decide, by decide⟩ ?_
        refine V.cV2 (pc := 24) (kc2 := 0) (ks2 := 0) ml_Mo_165 (hM_o _) (refN (by omega) hk _) d_Mo_clash_24 (Nat.le_of_ble_eq_true rfl) (Nat.le_of_ble_eq_true rfl) (Nat.le_of_ble_eq_true rfl) (Nat.le_of_ble_eq_true rfl) ?_
        rintro _ _ _ ⟨rfl, rfl, rfl⟩
        dsimp only [Option.toList, List.cons_append, List.nil_append]
        refine V.istore_n (pc := 27) 3 d_Mo_clash_27 rfl (Nat.le_of_ble_eq_true rfl) rfl ?_
        dsimp only [put]
        refine V.iload_n (pc := 28) 3 d_Mo_clash_28 rfl rfl ?_
        refine V.if_eq (tgt := 34) (pc := 29) d_Mo_clash_29 (by decide) (fun c_29 => ?_) (fun c_29 => ?_)
        · skip
          exact absurd c_29 (by decide)
        · skip
          refine V.iload_n (pc := 32) 3 d_Mo_clash_32 rfl rfl ?_
          refine V.ret (pc := 33) (r := some (vI _)) d_Mo_clash_33 (Or.inl rfl) rfl ?_
          first
            | (refine qx_of (S2 := sSt S 1) ?_ (hI.st 1); unfold sp_clash; rw [if_pos (by omega)]; simp only [hS]; done)
            | (refine qx_of (S2 := sSt S 3) ?_ (hI.st 3); unfold sp_clash; rw [if_pos (by omega)]; simp only [hS]; rw [if_neg hof]; trivial)
    · skip
      refine V.ldc (pc := 17) (-1000001) ck_Mo_112 rfl ⟨by decide, by decide⟩ d_Mo_clash_17 ?_
      refine V.ret (pc := 19) (r := some (vI _)) d_Mo_clash_19 (Or.inl rfl) rfl ?_
      refine qx_of (S2 := S) ?_ hI
      unfold sp_clash; rw [if_neg (by omega)]
