/-! THE REFERENCE: turn and mirror, printed by wip/whole/gen/refB.py -/
def sp_turn (S : SS) (pl p : Int) : Int × SS := if (0 ≤ pl ∧ pl ≤ 9) ∧ (0 ≤ p ∧ p ≤ 9) then (match S.2.1 p.toNat with
  | none => (-1000011, sSt S 1)
  | some (kd, n, a, _) => if isOf kd 2 then (rowKind (tu a n) n, sTh S pl.toNat (some (rowKind (tu a n) n, n, tu a n, fun _ => 0))) else (-1000013, sSt S 3)) else (-1000001, S)
def sp_mirror (S : SS) (pl p : Int) : Int × SS := if (0 ≤ pl ∧ pl ≤ 9) ∧ (0 ≤ p ∧ p ≤ 9) then (match S.2.1 p.toNat with
  | none => (-1000011, sSt S 1)
  | some (kd, n, a, b) => if isOf kd 5 then (landK (mi a n) (mi b n) n, sTh S pl.toNat (some (landK (mi a n) (mi b n) n, n, mi a n, mi b n))) else if isOf kd 2 then (rowKind (mi a n) n, sTh S pl.toNat (some (rowKind (mi a n) n, n, mi a n, fun _ => 0))) else (-1000013, sSt S 3)) else (-1000001, S)
theorem tuf_cong {j j2 : Nat → Int} {n q : Nat} (hn : 1 ≤ n) (h : ∀ q, q < 2 * n → j q = j2 q) (hq : q < 2 * n) : tuf j n q = tuf j2 n q := by
  unfold tuf
  rw [h (sq n q) (by unfold sq; split <;> omega)]
theorem wf_land {kd : Int} {n : Nat} {a b : Nat → Int} (hw : wfT (kd, n, a, b)) (h : isOf kd 5) : (∀ p, p < 2 * n → a p = 1 ∨ a p = -1) ∧ (∀ p, p < 2 * n → b p = 1 ∨ b p = -1) ∧ arch a n ∧ arch b n := by
  obtain ⟨-, -, h3⟩ := hw
  rcases h3 with h3 | h3 | h3
  · have := h3.1; have := h3.2.1; omega
  · exact ⟨h3.2.1, h3.2.2.1, h3.2.2.2.1, h3.2.2.2.2.1⟩
  · have := h3.1; omega
set_option maxRecDepth 20000 in
theorem cs_Mo_turn (S : SS) (σ : SM) (hI : RI S σ) (pl p : Int) (sz : Nat) : Ct M_Mo_turn 3 0 0 [vR 8, vI pl, vI p] (hM σ) sz (QS (sp_turn S pl p) sz) := by
  refine Ct.of rfl (Nat.le_of_ble_eq_true rfl) ?_
  dsimp only [lsOf]
  refine V.iload_n (pc := 0) 1 d_Mo_turn_0 rfl rfl ?_
  refine V.cS1 (pc := 1) (kc2 := 0) (ks2 := 0) ml_Mo_152 (ct_Mo_isPlace _ _ _) d_Mo_turn_1 (Nat.le_of_ble_eq_true rfl) (Nat.le_of_ble_eq_true rfl) (Nat.le_of_ble_eq_true rfl) (Nat.le_of_ble_eq_true rfl) ?_
  rintro _ _ _ ⟨rfl, rfl, rfl⟩
  dsimp only [Option.toList, List.cons_append, List.nil_append]
  refine V.ifB_eq (tgt := 14) (pc := 4) d_Mo_turn_4 (by decide) (fun c_4 => ?_) (fun c_4 => ?_)
  · skip
    refine V.ldc (pc := 14) (-1000001) ck_Mo_112 rfl ⟨by decide, by decide⟩ d_Mo_turn_14 ?_
    refine V.ret (pc := 16) (r := some (vI _)) d_Mo_turn_16 (Or.inl rfl) rfl ?_
    exact qs_of (by unfold sp_turn; rw [if_neg (by omega)]) hI
  · skip
    refine V.iload_n (pc := 7) 2 d_Mo_turn_7 rfl rfl ?_
    refine V.cS1 (pc := 8) (kc2 := 0) (ks2 := 0) ml_Mo_152 (ct_Mo_isPlace _ _ _) d_Mo_turn_8 (Nat.le_of_ble_eq_true rfl) (Nat.le_of_ble_eq_true rfl) (Nat.le_of_ble_eq_true rfl) (Nat.le_of_ble_eq_true rfl) ?_
    rintro _ _ _ ⟨rfl, rfl, rfl⟩
    dsimp only [Option.toList, List.cons_append, List.nil_append]
    refine V.ifB_ne (tgt := 17) (pc := 11) d_Mo_turn_11 (by decide) (fun c_11 => ?_) (fun c_11 => ?_)
    · skip
      rcases th_cases hI.2.1 (show p.toNat < 10 by omega) with ⟨hS, hk⟩ | ⟨kd, n, a, b, hS, hone⟩
      rotate_left
      by_cases hof : isOf kd 2
      · skip
        obtain ⟨hw, hk, hn, h3, h4, h5, h6⟩ := id hone
        have hwk := wf_kind hw
        refine V.aload_n (pc := 17) 0 d_Mo_turn_17 rfl rfl ?_
        refine V.iload_n (pc := 18) 2 d_Mo_turn_18 rfl rfl ?_
        refine V.iconst (pc := 19) d_Mo_turn_19 ⟨by decide, by decide⟩ ?_
        refine V.cV2 (pc := 20) (kc2 := 0) (ks2 := 0) ml_Mo_165 (hM_o _) (refY (by omega) (by omega) (by rw [hk]; exact hof) _) d_Mo_turn_20 (Nat.le_of_ble_eq_true rfl) (Nat.le_of_ble_eq_true rfl) (Nat.le_of_ble_eq_true rfl) (Nat.le_of_ble_eq_true rfl) ?_
        rintro _ _ _ ⟨rfl, rfl, rfl⟩
        dsimp only [Option.toList, List.cons_append, List.nil_append]
        refine V.istore_n (pc := 23) 3 d_Mo_turn_23 rfl (Nat.le_of_ble_eq_true rfl) rfl ?_
        dsimp only [put]
        refine V.iload_n (pc := 24) 3 d_Mo_turn_24 rfl rfl ?_
        refine V.if_eq (tgt := 30) (pc := 25) d_Mo_turn_25 (by decide) (fun c_25 => ?_) (fun c_25 => ?_)
        · skip
          refine V.aload_n (pc := 30) 0 d_Mo_turn_30 rfl rfl ?_
          refine V.getf (pc := 31) 5 cl_Mo fl_Mo_25_Mo d_Mo_turn_31 (hM_o _) (Nat.le_of_ble_eq_true rfl) rfl ?_
          refine V.bipush (pc := 34) d_Mo_turn_34 ⟨by decide, by decide⟩ ?_
          refine V.aload_n (pc := 36) 0 d_Mo_turn_36 rfl rfl ?_
          refine V.getf (pc := 37) 5 cl_Mo fl_Mo_25_Mo d_Mo_turn_37 (hM_o _) (Nat.le_of_ble_eq_true rfl) rfl ?_
          refine V.iload_n (pc := 40) 2 d_Mo_turn_40 rfl rfl ?_
          refine V.iald (pc := 41) d_Mo_turn_41 (ar_many _).1 (by omega) (by omega) ?_
          try simp (disch := omega) only [sset_n, sset_e]
          rw [hn]
          refine V.iast (pc := 42) d_Mo_turn_42 (ar_many _).1 (by omega) (by omega) ?_
          rw [(ar_many _).2]
          refine V.aload_n (pc := 43) 0 d_Mo_turn_43 rfl rfl ?_
          refine V.aload_n (pc := 44) 0 d_Mo_turn_44 rfl rfl ?_
          refine V.getf (pc := 45) 6 cl_Mo fl_Mo_28_Mo d_Mo_turn_45 (hM_o _) (Nat.le_of_ble_eq_true rfl) rfl ?_
          refine V.sipush (pc := 48) d_Mo_turn_48 ⟨by decide, by decide⟩ ?_
          refine V.aload_n (pc := 51) 0 d_Mo_turn_51 rfl rfl ?_
          refine V.getf (pc := 52) 8 cl_Mo fl_Mo_34_Mo d_Mo_turn_52 (hM_o _) (Nat.le_of_ble_eq_true rfl) rfl ?_
          refine V.bipush (pc := 55) d_Mo_turn_55 ⟨by decide, by decide⟩ ?_
          refine V.iload_n (pc := 57) 2 d_Mo_turn_57 rfl rfl ?_
          refine V.imul (pc := 58) d_Mo_turn_58 ⟨by omega, by omega⟩ ?_
          refine V.aload_n (pc := 59) 0 d_Mo_turn_59 rfl rfl ?_
          refine V.getf (pc := 60) 5 cl_Mo fl_Mo_25_Mo d_Mo_turn_60 (hM_o _) (Nat.le_of_ble_eq_true rfl) rfl ?_
          refine V.iload_n (pc := 63) 2 d_Mo_turn_63 rfl rfl ?_
          refine V.iald (pc := 64) d_Mo_turn_64 (ar_many _).1 (by omega) (by omega) ?_
          try simp (disch := omega) only [sset_n, sset_e]
          rw [upf_n (by omega), hn]
          have e400 : (vI 400 : MV) = vI ((400 : Nat) : Int) := rfl
          have e40 : (vI (40 * p) : MV) = vI ((40 * p.toNat : Nat) : Int) := by rw [show ((40 * p.toNat : Nat) : Int) = 40 * p by omega]
          rw [e400, e40]
          have hwa := wf_arch hw hof
          have hpr : ∀ q, q < 2 * n → 0 ≤ σ 8 (40 * p.toNat + q) ∧ σ 8 (40 * p.toNat + q) < 2 * n := fun q hq => by
            obtain ⟨r, k1, k2, -⟩ := pt_pair hwa.2.1 hq
            rw [h6 (by omega) (by omega) q hq, k1]; omega
          refine V.cV5 (pc := 65) (kc2 := 0) (ks2 := 0) ml_Mo_181 (hM_o _) (ct_Mo_turnTo ar_one ar_over (sset σ 5 (upf (σ 5) 10 (n : Int))) 400 (40 * p.toNat) n (by omega) (by omega) (by omega) (by omega) (by omega) (by decide) (fun q hq => hpr q hq) _) d_Mo_turn_65 (Nat.le_of_ble_eq_true rfl) (Nat.le_of_ble_eq_true rfl) (Nat.le_of_ble_eq_true rfl) (Nat.le_of_ble_eq_true rfl) ?_
          rintro _ _ _ ⟨rfl, rfl, g, rfl, hg, hf⟩
          dsimp only [Option.toList, List.cons_append, List.nil_append]
          refine V.aload_n (pc := 68) 0 d_Mo_turn_68 rfl rfl ?_
          refine V.iload_n (pc := 69) 1 d_Mo_turn_69 rfl rfl ?_
          refine V.iconst (pc := 70) d_Mo_turn_70 ⟨by decide, by decide⟩ ?_
          have epl : (vI pl : MV) = vI (pl.toNat : Int) := by rw [show ((pl.toNat : Nat) : Int) = pl by omega]
          rw [epl]
          have hkn : KN σ (sset (sset σ 5 (upf (σ 5) 10 (n : Int))) 6 g) := (KN.upd5 (KN.rf σ) _).updj (by omega) (by omega) (fun i hi => hf i (Or.inl hi))
          have hc9 : ∀ q, q < 2 * n → (fun q => (sset (sset σ 5 (upf (σ 5) 10 (n : Int))) 6 g) 6 (400 + q)) q = tu a n q := fun q hq => (hg q hq).trans ((tuf_cong (by omega) (fun r hr => h6 (by omega) (by omega) r hr) hq).trans (tuf_tu hwa.2.1 (by omega) hwa.1 q hq))
          have hsg := tu_sg hwa.1
          refine V.cV2 (pc := 71) (kc2 := 0) (ks2 := 0) ml_Mo_157 (hM_o _) (ct_Mo_keepR (sset (sset σ 5 (upf (σ 5) 10 (n : Int))) 6 g) pl.toNat (by omega) _ n rfl (show upf (σ 5) 10 (n : Int) 10 = n from upf_e) (by omega) (fun q hq => by have := hc9 q hq; dsimp only at this ⊢; rw [this]; exact hsg q hq) _) d_Mo_turn_71 (Nat.le_of_ble_eq_true rfl) (Nat.le_of_ble_eq_true rfl) (Nat.le_of_ble_eq_true rfl) (Nat.le_of_ble_eq_true rfl) ?_
          rintro r9 h9 s9 ⟨rfl, rfl, τ2, rfl, hkp, hone2⟩
          rw [rowKind_cong hc9]
          dsimp only [Option.toList, List.cons_append, List.nil_append]
          refine V.ret (pc := 74) (r := some (vI _)) d_Mo_turn_74 (Or.inl rfl) rfl ?_
          exact qs_of (by unfold sp_turn; rw [if_pos (by omega)]; simp only [hS]; rw [if_pos hof]) (RI.put (hI.kn hkn) (by omega) hkp (R_one_row hc9 hone2))
        · skip
          exact absurd rfl c_25
      · skip
        obtain ⟨hw, hk, hn, h3, h4, h5, h6⟩ := id hone
        have hwk := wf_kind hw
        refine V.aload_n (pc := 17) 0 d_Mo_turn_17 rfl rfl ?_
        refine V.iload_n (pc := 18) 2 d_Mo_turn_18 rfl rfl ?_
        refine V.iconst (pc := 19) d_Mo_turn_19 ⟨by decide, by decide⟩ ?_
        refine V.cV2 (pc := 20) (kc2 := 0) (ks2 := 0) ml_Mo_165 (hM_o _) (refK (by omega) (by omega) (by rw [hk]; exact hof) _) d_Mo_turn_20 (Nat.le_of_ble_eq_true rfl) (Nat.le_of_ble_eq_true rfl) (Nat.le_of_ble_eq_true rfl) (Nat.le_of_ble_eq_true rfl) ?_
        rintro _ _ _ ⟨rfl, rfl, rfl⟩
        dsimp only [Option.toList, List.cons_append, List.nil_append]
        refine V.istore_n (pc := 23) 3 d_Mo_turn_23 rfl (Nat.le_of_ble_eq_true rfl) rfl ?_
        dsimp only [put]
        refine V.iload_n (pc := 24) 3 d_Mo_turn_24 rfl rfl ?_
        refine V.if_eq (tgt := 30) (pc := 25) d_Mo_turn_25 (by decide) (fun c_25 => ?_) (fun c_25 => ?_)
        · skip
          exact absurd c_25 (by decide)
        · skip
          refine V.iload_n (pc := 28) 3 d_Mo_turn_28 rfl rfl ?_
          refine V.ret (pc := 29) (r := some (vI _)) d_Mo_turn_29 (Or.inl rfl) rfl ?_
          first
            | (refine qs_of (S2 := sSt S 1) ?_ (hI.st 1); unfold sp_turn; rw [if_pos (by omega)]; simp only [hS]; done)
            | (refine qs_of (S2 := sSt S 3) ?_ (hI.st 3); unfold sp_turn; rw [if_pos (by omega)]; simp only [hS]; rw [if_neg hof]; done)
      · skip
        refine V.aload_n (pc := 17) 0 d_Mo_turn_17 rfl rfl ?_
        refine V.iload_n (pc := 18) 2 d_Mo_turn_18 rfl rfl ?_
        refine V.iconst (pc := 19) d_Mo_turn_19 ⟨by decide, by decide⟩ ?_
        refine V.cV2 (pc := 20) (kc2 := 0) (ks2 := 0) ml_Mo_165 (hM_o _) (refN (by omega) hk _) d_Mo_turn_20 (Nat.le_of_ble_eq_true rfl) (Nat.le_of_ble_eq_true rfl) (Nat.le_of_ble_eq_true rfl) (Nat.le_of_ble_eq_true rfl) ?_
        rintro _ _ _ ⟨rfl, rfl, rfl⟩
        dsimp only [Option.toList, List.cons_append, List.nil_append]
        refine V.istore_n (pc := 23) 3 d_Mo_turn_23 rfl (Nat.le_of_ble_eq_true rfl) rfl ?_
        dsimp only [put]
        refine V.iload_n (pc := 24) 3 d_Mo_turn_24 rfl rfl ?_
        refine V.if_eq (tgt := 30) (pc := 25) d_Mo_turn_25 (by decide) (fun c_25 => ?_) (fun c_25 => ?_)
        · skip
          exact absurd c_25 (by decide)
        · skip
          refine V.iload_n (pc := 28) 3 d_Mo_turn_28 rfl rfl ?_
          refine V.ret (pc := 29) (r := some (vI _)) d_Mo_turn_29 (Or.inl rfl) rfl ?_
          first
            | (refine qs_of (S2 := sSt S 1) ?_ (hI.st 1); unfold sp_turn; rw [if_pos (by omega)]; simp only [hS]; done)
            | (refine qs_of (S2 := sSt S 3) ?_ (hI.st 3); unfold sp_turn; rw [if_pos (by omega)]; simp only [hS]; rw [if_neg hof]; done)
    · skip
      refine V.ldc (pc := 14) (-1000001) ck_Mo_112 rfl ⟨by decide, by decide⟩ d_Mo_turn_14 ?_
      refine V.ret (pc := 16) (r := some (vI _)) d_Mo_turn_16 (Or.inl rfl) rfl ?_
      exact qs_of (by unfold sp_turn; rw [if_neg (by omega)]) hI
set_option maxRecDepth 20000 in
theorem cs_Mo_mirror (S : SS) (σ : SM) (hI : RI S σ) (pl p : Int) (sz : Nat) : Ct M_Mo_mirror 3 0 0 [vR 8, vI pl, vI p] (hM σ) sz (QS (sp_mirror S pl p) sz) := by
  refine Ct.of rfl (Nat.le_of_ble_eq_true rfl) ?_
  dsimp only [lsOf]
  refine V.iload_n (pc := 0) 1 d_Mo_mirror_0 rfl rfl ?_
  refine V.cS1 (pc := 1) (kc2 := 0) (ks2 := 0) ml_Mo_152 (ct_Mo_isPlace _ _ _) d_Mo_mirror_1 (Nat.le_of_ble_eq_true rfl) (Nat.le_of_ble_eq_true rfl) (Nat.le_of_ble_eq_true rfl) (Nat.le_of_ble_eq_true rfl) ?_
  rintro _ _ _ ⟨rfl, rfl, rfl⟩
  dsimp only [Option.toList, List.cons_append, List.nil_append]
  refine V.ifB_eq (tgt := 14) (pc := 4) d_Mo_mirror_4 (by decide) (fun c_4 => ?_) (fun c_4 => ?_)
  · skip
    refine V.ldc (pc := 14) (-1000001) ck_Mo_112 rfl ⟨by decide, by decide⟩ d_Mo_mirror_14 ?_
    refine V.ret (pc := 16) (r := some (vI _)) d_Mo_mirror_16 (Or.inl rfl) rfl ?_
    exact qs_of (by unfold sp_mirror; rw [if_neg (by omega)]) hI
  · skip
    refine V.iload_n (pc := 7) 2 d_Mo_mirror_7 rfl rfl ?_
    refine V.cS1 (pc := 8) (kc2 := 0) (ks2 := 0) ml_Mo_152 (ct_Mo_isPlace _ _ _) d_Mo_mirror_8 (Nat.le_of_ble_eq_true rfl) (Nat.le_of_ble_eq_true rfl) (Nat.le_of_ble_eq_true rfl) (Nat.le_of_ble_eq_true rfl) ?_
    rintro _ _ _ ⟨rfl, rfl, rfl⟩
    dsimp only [Option.toList, List.cons_append, List.nil_append]
    refine V.ifB_ne (tgt := 17) (pc := 11) d_Mo_mirror_11 (by decide) (fun c_11 => ?_) (fun c_11 => ?_)
    · skip
      rcases th_cases hI.2.1 (show p.toNat < 10 by omega) with ⟨hS, hk⟩ | ⟨kd, n, a, b, hS, hone⟩
      rotate_left
      rcases Classical.em (isOf kd 5) with h05 | h05
      rotate_left
      rcases Classical.em (isOf kd 2) with hof | hof
      · skip
        obtain ⟨hw, hk, hn, h3, h4, h5, h6⟩ := id hone
        have hwk := wf_kind hw
        have hwa := wf_arch hw hof
        refine V.aload_n (pc := 17) 0 d_Mo_mirror_17 rfl rfl ?_
        refine V.getf (pc := 18) 4 cl_Mo fl_Mo_22_Mo d_Mo_mirror_18 (hM_o _) (Nat.le_of_ble_eq_true rfl) rfl ?_
        refine V.iload_n (pc := 21) 2 d_Mo_mirror_21 rfl rfl ?_
        refine V.iald (pc := 22) d_Mo_mirror_22 (ar_kinds _).1 (by omega) (by omega) ?_
        try simp (disch := omega) only [sset_n, sset_e]
        refine V.if_ne (tgt := 32) (pc := 23) d_Mo_mirror_23 (by decide) (fun c_23 => ?_) (fun c_23 => ?_)
        · skip
          refine V.aload_n (pc := 32) 0 d_Mo_mirror_32 rfl rfl ?_
          refine V.getf (pc := 33) 4 cl_Mo fl_Mo_22_Mo d_Mo_mirror_33 (hM_o _) (Nat.le_of_ble_eq_true rfl) rfl ?_
          refine V.iload_n (pc := 36) 2 d_Mo_mirror_36 rfl rfl ?_
          refine V.iald (pc := 37) d_Mo_mirror_37 (ar_kinds _).1 (by omega) (by omega) ?_
          try simp (disch := omega) only [sset_n, sset_e]
          refine V.iconst (pc := 38) d_Mo_mirror_38 ⟨by decide, by decide⟩ ?_
          refine V.cS2 (pc := 39) (kc2 := 0) (ks2 := 0) ml_Mo_161 (ct_Mo_isOf _ _ _ _) d_Mo_mirror_39 (Nat.le_of_ble_eq_true rfl) (Nat.le_of_ble_eq_true rfl) (Nat.le_of_ble_eq_true rfl) (Nat.le_of_ble_eq_true rfl) ?_
          rintro _ _ _ ⟨rfl, rfl, rfl⟩
          dsimp only [Option.toList, List.cons_append, List.nil_append]
          rw [hk]
          first | rw [if_pos h05] | rw [if_neg h05]
          refine V.istore_n (pc := 42) 3 d_Mo_mirror_42 rfl (Nat.le_of_ble_eq_true rfl) rfl ?_
          dsimp only [put]
          refine V.iload_n (pc := 43) 3 d_Mo_mirror_43 rfl rfl ?_
          refine V.if_ne (tgt := 66) (pc := 44) d_Mo_mirror_44 (by decide) (fun c_44 => ?_) (fun c_44 => ?_)
          · skip
            exact absurd rfl c_44
          · skip
            refine V.aload_n (pc := 47) 0 d_Mo_mirror_47 rfl rfl ?_
            refine V.getf (pc := 48) 4 cl_Mo fl_Mo_22_Mo d_Mo_mirror_48 (hM_o _) (Nat.le_of_ble_eq_true rfl) rfl ?_
            refine V.iload_n (pc := 51) 2 d_Mo_mirror_51 rfl rfl ?_
            refine V.iald (pc := 52) d_Mo_mirror_52 (ar_kinds _).1 (by omega) (by omega) ?_
            try simp (disch := omega) only [sset_n, sset_e]
            refine V.iconst (pc := 53) d_Mo_mirror_53 ⟨by decide, by decide⟩ ?_
            refine V.cS2 (pc := 54) (kc2 := 0) (ks2 := 0) ml_Mo_161 (ct_Mo_isOf _ _ _ _) d_Mo_mirror_54 (Nat.le_of_ble_eq_true rfl) (Nat.le_of_ble_eq_true rfl) (Nat.le_of_ble_eq_true rfl) (Nat.le_of_ble_eq_true rfl) ?_
            rintro _ _ _ ⟨rfl, rfl, rfl⟩
            dsimp only [Option.toList, List.cons_append, List.nil_append]
            refine V.ifB_ne (tgt := 66) (pc := 57) d_Mo_mirror_57 (by decide) (fun c_57 => ?_) (fun c_57 => ?_)
            · skip
              refine V.aload_n (pc := 66) 0 d_Mo_mirror_66 rfl rfl ?_
              refine V.getf (pc := 67) 5 cl_Mo fl_Mo_25_Mo d_Mo_mirror_67 (hM_o _) (Nat.le_of_ble_eq_true rfl) rfl ?_
              refine V.bipush (pc := 70) d_Mo_mirror_70 ⟨by decide, by decide⟩ ?_
              refine V.aload_n (pc := 72) 0 d_Mo_mirror_72 rfl rfl ?_
              refine V.getf (pc := 73) 5 cl_Mo fl_Mo_25_Mo d_Mo_mirror_73 (hM_o _) (Nat.le_of_ble_eq_true rfl) rfl ?_
              refine V.iload_n (pc := 76) 2 d_Mo_mirror_76 rfl rfl ?_
              refine V.iald (pc := 77) d_Mo_mirror_77 (ar_many _).1 (by omega) (by omega) ?_
              try simp (disch := omega) only [sset_n, sset_e]
              rw [hn]
              refine V.iast (pc := 78) d_Mo_mirror_78 (ar_many _).1 (by omega) (by omega) ?_
              rw [(ar_many _).2]
              refine V.aload_n (pc := 79) 0 d_Mo_mirror_79 rfl rfl ?_
              refine V.aload_n (pc := 80) 0 d_Mo_mirror_80 rfl rfl ?_
              refine V.getf (pc := 81) 6 cl_Mo fl_Mo_28_Mo d_Mo_mirror_81 (hM_o _) (Nat.le_of_ble_eq_true rfl) rfl ?_
              refine V.sipush (pc := 84) d_Mo_mirror_84 ⟨by decide, by decide⟩ ?_
              refine V.aload_n (pc := 87) 0 d_Mo_mirror_87 rfl rfl ?_
              refine V.getf (pc := 88) 6 cl_Mo fl_Mo_28_Mo d_Mo_mirror_88 (hM_o _) (Nat.le_of_ble_eq_true rfl) rfl ?_
              refine V.bipush (pc := 91) d_Mo_mirror_91 ⟨by decide, by decide⟩ ?_
              refine V.iload_n (pc := 93) 2 d_Mo_mirror_93 rfl rfl ?_
              refine V.imul (pc := 94) d_Mo_mirror_94 ⟨by omega, by omega⟩ ?_
              refine V.aload_n (pc := 95) 0 d_Mo_mirror_95 rfl rfl ?_
              refine V.getf (pc := 96) 5 cl_Mo fl_Mo_25_Mo d_Mo_mirror_96 (hM_o _) (Nat.le_of_ble_eq_true rfl) rfl ?_
              refine V.iload_n (pc := 99) 2 d_Mo_mirror_99 rfl rfl ?_
              refine V.iald (pc := 100) d_Mo_mirror_100 (ar_many _).1 (by omega) (by omega) ?_
              try simp (disch := omega) only [sset_n, sset_e]
              rw [upf_n (by omega), hn]
              have e400 : (vI 400 : MV) = vI ((400 : Nat) : Int) := rfl
              have e40 : (vI (40 * p) : MV) = vI ((40 * p.toNat : Nat) : Int) := by rw [show ((40 * p.toNat : Nat) : Int) = 40 * p by omega]
              rw [e400, e40]
              have hpr : ∀ q, q < 2 * n → σ 6 (40 * p.toNat + q) = 1 ∨ σ 6 (40 * p.toNat + q) = -1 := fun q hq => by rw [h3 (by omega) q hq]; exact hwa.1 q hq
              refine V.cV5 (pc := 101) (kc2 := 0) (ks2 := 0) ml_Mo_185 (hM_o _) (ct_Mo_mirrorTo ar_one ar_one (sset σ 5 (upf (σ 5) 10 (n : Int))) 400 (40 * p.toNat) n (by omega) (by omega) (by omega) (by omega) (by omega) (fun _ => Or.inl (by omega)) (fun q hq => hpr q hq) _) d_Mo_mirror_101 (Nat.le_of_ble_eq_true rfl) (Nat.le_of_ble_eq_true rfl) (Nat.le_of_ble_eq_true rfl) (Nat.le_of_ble_eq_true rfl) ?_
              rintro _ _ _ ⟨rfl, rfl, g, rfl, hg, hf⟩
              dsimp only [Option.toList, List.cons_append, List.nil_append]
              refine V.iload_n (pc := 104) 3 d_Mo_mirror_104 rfl rfl ?_
              refine V.if_eq (tgt := 133) (pc := 105) d_Mo_mirror_105 (by decide) (fun c_105 => ?_) (fun c_105 => ?_)
              · skip
                refine V.aload_n (pc := 133) 0 d_Mo_mirror_133 rfl rfl ?_
                refine V.iload_n (pc := 134) 1 d_Mo_mirror_134 rfl rfl ?_
                refine V.iload_n (pc := 135) 3 d_Mo_mirror_135 rfl rfl ?_
                refine V.if_eq (tgt := 143) (pc := 136) d_Mo_mirror_136 (by decide) (fun c_136 => ?_) (fun c_136 => ?_)
                · skip
                  have hkn : KN σ (sset (sset σ 5 (upf (σ 5) 10 (n : Int))) 6 g) := (KN.upd5 (KN.rf σ) _).updj (by omega) (by omega) (fun i hi => hf i (Or.inl hi))
                  have hc9 : ∀ q, q < 2 * n → (fun q => (sset (sset σ 5 (upf (σ 5) 10 (n : Int))) 6 g) 6 (400 + q)) q = mi a n q := fun q hq => (hg q hq).trans (by unfold mi; exact congrArg (fun z => - z) (h3 (by omega) _ (by omega)))
                  have hsg := mi_sg hwa.1
                  refine V.iconst (pc := 143) d_Mo_mirror_143 ⟨by decide, by decide⟩ ?_
                  have epl : (vI pl : MV) = vI (pl.toNat : Int) := by rw [show ((pl.toNat : Nat) : Int) = pl by omega]
                  rw [epl]
                  refine V.cV2 (pc := 144) (kc2 := 0) (ks2 := 0) ml_Mo_157 (hM_o _) (ct_Mo_keepR (sset (sset σ 5 (upf (σ 5) 10 (n : Int))) 6 g) pl.toNat (by omega) _ n rfl (show upf (σ 5) 10 (n : Int) 10 = n from upf_e) (by omega) (fun q hq => by have := hc9 q hq; dsimp only at this ⊢; rw [this]; exact hsg q hq) _) d_Mo_mirror_144 (Nat.le_of_ble_eq_true rfl) (Nat.le_of_ble_eq_true rfl) (Nat.le_of_ble_eq_true rfl) (Nat.le_of_ble_eq_true rfl) ?_
                  rintro r9 h9 s9 ⟨rfl, rfl, τ2, rfl, hkp, hone2⟩
                  rw [rowKind_cong hc9]
                  dsimp only [Option.toList, List.cons_append, List.nil_append]
                  refine V.ret (pc := 147) (r := some (vI _)) d_Mo_mirror_147 (Or.inl rfl) rfl ?_
                  exact qs_of (by unfold sp_mirror; rw [if_pos (by omega)]; simp only [hS]; rw [if_neg h05, if_pos hof]) (RI.put (hI.kn hkn) (by omega) hkp (R_one_row hc9 hone2))
                · skip
                  exact absurd rfl c_136
              · skip
                exact absurd rfl c_105
            · skip
              exfalso; omega
        · skip
          exfalso; omega
      · skip
        obtain ⟨hw, hk, hn, h3, h4, h5, h6⟩ := id hone
        have hwk := wf_kind hw
        refine V.aload_n (pc := 17) 0 d_Mo_mirror_17 rfl rfl ?_
        refine V.getf (pc := 18) 4 cl_Mo fl_Mo_22_Mo d_Mo_mirror_18 (hM_o _) (Nat.le_of_ble_eq_true rfl) rfl ?_
        refine V.iload_n (pc := 21) 2 d_Mo_mirror_21 rfl rfl ?_
        refine V.iald (pc := 22) d_Mo_mirror_22 (ar_kinds _).1 (by omega) (by omega) ?_
        try simp (disch := omega) only [sset_n, sset_e]
        refine V.if_ne (tgt := 32) (pc := 23) d_Mo_mirror_23 (by decide) (fun c_23 => ?_) (fun c_23 => ?_)
        · skip
          refine V.aload_n (pc := 32) 0 d_Mo_mirror_32 rfl rfl ?_
          refine V.getf (pc := 33) 4 cl_Mo fl_Mo_22_Mo d_Mo_mirror_33 (hM_o _) (Nat.le_of_ble_eq_true rfl) rfl ?_
          refine V.iload_n (pc := 36) 2 d_Mo_mirror_36 rfl rfl ?_
          refine V.iald (pc := 37) d_Mo_mirror_37 (ar_kinds _).1 (by omega) (by omega) ?_
          try simp (disch := omega) only [sset_n, sset_e]
          refine V.iconst (pc := 38) d_Mo_mirror_38 ⟨by decide, by decide⟩ ?_
          refine V.cS2 (pc := 39) (kc2 := 0) (ks2 := 0) ml_Mo_161 (ct_Mo_isOf _ _ _ _) d_Mo_mirror_39 (Nat.le_of_ble_eq_true rfl) (Nat.le_of_ble_eq_true rfl) (Nat.le_of_ble_eq_true rfl) (Nat.le_of_ble_eq_true rfl) ?_
          rintro _ _ _ ⟨rfl, rfl, rfl⟩
          dsimp only [Option.toList, List.cons_append, List.nil_append]
          rw [hk]
          first | rw [if_pos h05] | rw [if_neg h05]
          refine V.istore_n (pc := 42) 3 d_Mo_mirror_42 rfl (Nat.le_of_ble_eq_true rfl) rfl ?_
          dsimp only [put]
          refine V.iload_n (pc := 43) 3 d_Mo_mirror_43 rfl rfl ?_
          refine V.if_ne (tgt := 66) (pc := 44) d_Mo_mirror_44 (by decide) (fun c_44 => ?_) (fun c_44 => ?_)
          · skip
            exact absurd rfl c_44
          · skip
            refine V.aload_n (pc := 47) 0 d_Mo_mirror_47 rfl rfl ?_
            refine V.getf (pc := 48) 4 cl_Mo fl_Mo_22_Mo d_Mo_mirror_48 (hM_o _) (Nat.le_of_ble_eq_true rfl) rfl ?_
            refine V.iload_n (pc := 51) 2 d_Mo_mirror_51 rfl rfl ?_
            refine V.iald (pc := 52) d_Mo_mirror_52 (ar_kinds _).1 (by omega) (by omega) ?_
            try simp (disch := omega) only [sset_n, sset_e]
            refine V.iconst (pc := 53) d_Mo_mirror_53 ⟨by decide, by decide⟩ ?_
            refine V.cS2 (pc := 54) (kc2 := 0) (ks2 := 0) ml_Mo_161 (ct_Mo_isOf _ _ _ _) d_Mo_mirror_54 (Nat.le_of_ble_eq_true rfl) (Nat.le_of_ble_eq_true rfl) (Nat.le_of_ble_eq_true rfl) (Nat.le_of_ble_eq_true rfl) ?_
            rintro _ _ _ ⟨rfl, rfl, rfl⟩
            dsimp only [Option.toList, List.cons_append, List.nil_append]
            refine V.ifB_ne (tgt := 66) (pc := 57) d_Mo_mirror_57 (by decide) (fun c_57 => ?_) (fun c_57 => ?_)
            · skip
              exfalso; omega
            · skip
              refine V.aload_n (pc := 60) 0 d_Mo_mirror_60 rfl rfl ?_
              refine V.iconst (pc := 61) d_Mo_mirror_61 ⟨by decide, by decide⟩ ?_
              refine V.cV1 (pc := 62) (kc2 := 0) (ks2 := 0) ml_Mo_113 (hM_o _) (ct_Mo_finds _ (by omega) _ _) d_Mo_mirror_62 (Nat.le_of_ble_eq_true rfl) (Nat.le_of_ble_eq_true rfl) (Nat.le_of_ble_eq_true rfl) (Nat.le_of_ble_eq_true rfl) ?_
              rintro _ _ _ ⟨rfl, rfl, rfl⟩
              dsimp only [Option.toList, List.cons_append, List.nil_append]
              first | rw [fi1] | rw [fi2] | rw [fi3] | rw [fi4] | rw [fi5]
              refine V.ret (pc := 65) (r := some (vI _)) d_Mo_mirror_65 (Or.inl rfl) rfl ?_
              refine qs_of (S2 := sSt S 3) ?_ (hI.st 3)
              unfold sp_mirror; rw [if_pos (by omega)]; simp only [hS]; rw [if_neg h05, if_neg hof]
        · skip
          exfalso; omega
      · skip
        refine V.aload_n (pc := 17) 0 d_Mo_mirror_17 rfl rfl ?_
        refine V.getf (pc := 18) 4 cl_Mo fl_Mo_22_Mo d_Mo_mirror_18 (hM_o _) (Nat.le_of_ble_eq_true rfl) rfl ?_
        refine V.iload_n (pc := 21) 2 d_Mo_mirror_21 rfl rfl ?_
        refine V.iald (pc := 22) d_Mo_mirror_22 (ar_kinds _).1 (by omega) (by omega) ?_
        try simp (disch := omega) only [sset_n, sset_e]
        refine V.if_ne (tgt := 32) (pc := 23) d_Mo_mirror_23 (by decide) (fun c_23 => ?_) (fun c_23 => ?_)
        · skip
          exfalso; omega
        · skip
          refine V.aload_n (pc := 26) 0 d_Mo_mirror_26 rfl rfl ?_
          refine V.iconst (pc := 27) d_Mo_mirror_27 ⟨by decide, by decide⟩ ?_
          refine V.cV1 (pc := 28) (kc2 := 0) (ks2 := 0) ml_Mo_113 (hM_o _) (ct_Mo_finds _ (by omega) _ _) d_Mo_mirror_28 (Nat.le_of_ble_eq_true rfl) (Nat.le_of_ble_eq_true rfl) (Nat.le_of_ble_eq_true rfl) (Nat.le_of_ble_eq_true rfl) ?_
          rintro _ _ _ ⟨rfl, rfl, rfl⟩
          dsimp only [Option.toList, List.cons_append, List.nil_append]
          first | rw [fi1] | rw [fi2] | rw [fi3] | rw [fi4] | rw [fi5]
          refine V.ret (pc := 31) (r := some (vI _)) d_Mo_mirror_31 (Or.inl rfl) rfl ?_
          refine qs_of (S2 := sSt S 1) ?_ (hI.st 1)
          unfold sp_mirror; rw [if_pos (by omega)]; simp only [hS]
      · skip
        obtain ⟨hw, hk, hn, h3, h4, h5, h6⟩ := id hone
        have hwk := wf_kind hw
        have hwa := wf_land hw h05
        refine V.aload_n (pc := 17) 0 d_Mo_mirror_17 rfl rfl ?_
        refine V.getf (pc := 18) 4 cl_Mo fl_Mo_22_Mo d_Mo_mirror_18 (hM_o _) (Nat.le_of_ble_eq_true rfl) rfl ?_
        refine V.iload_n (pc := 21) 2 d_Mo_mirror_21 rfl rfl ?_
        refine V.iald (pc := 22) d_Mo_mirror_22 (ar_kinds _).1 (by omega) (by omega) ?_
        try simp (disch := omega) only [sset_n, sset_e]
        refine V.if_ne (tgt := 32) (pc := 23) d_Mo_mirror_23 (by decide) (fun c_23 => ?_) (fun c_23 => ?_)
        · skip
          refine V.aload_n (pc := 32) 0 d_Mo_mirror_32 rfl rfl ?_
          refine V.getf (pc := 33) 4 cl_Mo fl_Mo_22_Mo d_Mo_mirror_33 (hM_o _) (Nat.le_of_ble_eq_true rfl) rfl ?_
          refine V.iload_n (pc := 36) 2 d_Mo_mirror_36 rfl rfl ?_
          refine V.iald (pc := 37) d_Mo_mirror_37 (ar_kinds _).1 (by omega) (by omega) ?_
          try simp (disch := omega) only [sset_n, sset_e]
          refine V.iconst (pc := 38) d_Mo_mirror_38 ⟨by decide, by decide⟩ ?_
          refine V.cS2 (pc := 39) (kc2 := 0) (ks2 := 0) ml_Mo_161 (ct_Mo_isOf _ _ _ _) d_Mo_mirror_39 (Nat.le_of_ble_eq_true rfl) (Nat.le_of_ble_eq_true rfl) (Nat.le_of_ble_eq_true rfl) (Nat.le_of_ble_eq_true rfl) ?_
          rintro _ _ _ ⟨rfl, rfl, rfl⟩
          dsimp only [Option.toList, List.cons_append, List.nil_append]
          rw [hk]
          first | rw [if_pos h05] | rw [if_neg h05]
          refine V.istore_n (pc := 42) 3 d_Mo_mirror_42 rfl (Nat.le_of_ble_eq_true rfl) rfl ?_
          dsimp only [put]
          refine V.iload_n (pc := 43) 3 d_Mo_mirror_43 rfl rfl ?_
          refine V.if_ne (tgt := 66) (pc := 44) d_Mo_mirror_44 (by decide) (fun c_44 => ?_) (fun c_44 => ?_)
          · skip
            refine V.aload_n (pc := 66) 0 d_Mo_mirror_66 rfl rfl ?_
            refine V.getf (pc := 67) 5 cl_Mo fl_Mo_25_Mo d_Mo_mirror_67 (hM_o _) (Nat.le_of_ble_eq_true rfl) rfl ?_
            refine V.bipush (pc := 70) d_Mo_mirror_70 ⟨by decide, by decide⟩ ?_
            refine V.aload_n (pc := 72) 0 d_Mo_mirror_72 rfl rfl ?_
            refine V.getf (pc := 73) 5 cl_Mo fl_Mo_25_Mo d_Mo_mirror_73 (hM_o _) (Nat.le_of_ble_eq_true rfl) rfl ?_
            refine V.iload_n (pc := 76) 2 d_Mo_mirror_76 rfl rfl ?_
            refine V.iald (pc := 77) d_Mo_mirror_77 (ar_many _).1 (by omega) (by omega) ?_
            try simp (disch := omega) only [sset_n, sset_e]
            rw [hn]
            refine V.iast (pc := 78) d_Mo_mirror_78 (ar_many _).1 (by omega) (by omega) ?_
            rw [(ar_many _).2]
            refine V.aload_n (pc := 79) 0 d_Mo_mirror_79 rfl rfl ?_
            refine V.aload_n (pc := 80) 0 d_Mo_mirror_80 rfl rfl ?_
            refine V.getf (pc := 81) 6 cl_Mo fl_Mo_28_Mo d_Mo_mirror_81 (hM_o _) (Nat.le_of_ble_eq_true rfl) rfl ?_
            refine V.sipush (pc := 84) d_Mo_mirror_84 ⟨by decide, by decide⟩ ?_
            refine V.aload_n (pc := 87) 0 d_Mo_mirror_87 rfl rfl ?_
            refine V.getf (pc := 88) 6 cl_Mo fl_Mo_28_Mo d_Mo_mirror_88 (hM_o _) (Nat.le_of_ble_eq_true rfl) rfl ?_
            refine V.bipush (pc := 91) d_Mo_mirror_91 ⟨by decide, by decide⟩ ?_
            refine V.iload_n (pc := 93) 2 d_Mo_mirror_93 rfl rfl ?_
            refine V.imul (pc := 94) d_Mo_mirror_94 ⟨by omega, by omega⟩ ?_
            refine V.aload_n (pc := 95) 0 d_Mo_mirror_95 rfl rfl ?_
            refine V.getf (pc := 96) 5 cl_Mo fl_Mo_25_Mo d_Mo_mirror_96 (hM_o _) (Nat.le_of_ble_eq_true rfl) rfl ?_
            refine V.iload_n (pc := 99) 2 d_Mo_mirror_99 rfl rfl ?_
            refine V.iald (pc := 100) d_Mo_mirror_100 (ar_many _).1 (by omega) (by omega) ?_
            try simp (disch := omega) only [sset_n, sset_e]
            rw [upf_n (by omega), hn]
            have e400 : (vI 400 : MV) = vI ((400 : Nat) : Int) := rfl
            have e40 : (vI (40 * p) : MV) = vI ((40 * p.toNat : Nat) : Int) := by rw [show ((40 * p.toNat : Nat) : Int) = 40 * p by omega]
            rw [e400, e40]
            have hpr : ∀ q, q < 2 * n → σ 6 (40 * p.toNat + q) = 1 ∨ σ 6 (40 * p.toNat + q) = -1 := fun q hq => by rw [h3 (by omega) q hq]; exact hwa.1 q hq
            refine V.cV5 (pc := 101) (kc2 := 0) (ks2 := 0) ml_Mo_185 (hM_o _) (ct_Mo_mirrorTo ar_one ar_one (sset σ 5 (upf (σ 5) 10 (n : Int))) 400 (40 * p.toNat) n (by omega) (by omega) (by omega) (by omega) (by omega) (fun _ => Or.inl (by omega)) (fun q hq => hpr q hq) _) d_Mo_mirror_101 (Nat.le_of_ble_eq_true rfl) (Nat.le_of_ble_eq_true rfl) (Nat.le_of_ble_eq_true rfl) (Nat.le_of_ble_eq_true rfl) ?_
            rintro _ _ _ ⟨rfl, rfl, g, rfl, hg, hf⟩
            dsimp only [Option.toList, List.cons_append, List.nil_append]
            refine V.iload_n (pc := 104) 3 d_Mo_mirror_104 rfl rfl ?_
            refine V.if_eq (tgt := 133) (pc := 105) d_Mo_mirror_105 (by decide) (fun c_105 => ?_) (fun c_105 => ?_)
            · skip
              exact absurd c_105 (by decide)
            · skip
              refine V.aload_n (pc := 108) 0 d_Mo_mirror_108 rfl rfl ?_
              refine V.aload_n (pc := 109) 0 d_Mo_mirror_109 rfl rfl ?_
              refine V.getf (pc := 110) 7 cl_Mo fl_Mo_31_Mo d_Mo_mirror_110 (hM_o _) (Nat.le_of_ble_eq_true rfl) rfl ?_
              refine V.sipush (pc := 113) d_Mo_mirror_113 ⟨by decide, by decide⟩ ?_
              refine V.aload_n (pc := 116) 0 d_Mo_mirror_116 rfl rfl ?_
              refine V.getf (pc := 117) 7 cl_Mo fl_Mo_31_Mo d_Mo_mirror_117 (hM_o _) (Nat.le_of_ble_eq_true rfl) rfl ?_
              refine V.bipush (pc := 120) d_Mo_mirror_120 ⟨by decide, by decide⟩ ?_
              refine V.iload_n (pc := 122) 2 d_Mo_mirror_122 rfl rfl ?_
              refine V.imul (pc := 123) d_Mo_mirror_123 ⟨by omega, by omega⟩ ?_
              refine V.aload_n (pc := 124) 0 d_Mo_mirror_124 rfl rfl ?_
              refine V.getf (pc := 125) 5 cl_Mo fl_Mo_25_Mo d_Mo_mirror_125 (hM_o _) (Nat.le_of_ble_eq_true rfl) rfl ?_
              refine V.iload_n (pc := 128) 2 d_Mo_mirror_128 rfl rfl ?_
              refine V.iald (pc := 129) d_Mo_mirror_129 (ar_many _).1 (by omega) (by omega) ?_
              try simp (disch := omega) only [sset_n, sset_e]
              rw [upf_n (by omega), hn]
              have e400 : (vI 400 : MV) = vI ((400 : Nat) : Int) := rfl
              have e40 : (vI (40 * p) : MV) = vI ((40 * p.toNat : Nat) : Int) := by rw [show ((40 * p.toNat : Nat) : Int) = 40 * p by omega]
              rw [e400, e40]
              have hpr2 : ∀ q, q < 2 * n → σ 7 (40 * p.toNat + q) = 1 ∨ σ 7 (40 * p.toNat + q) = -1 := fun q hq => by rw [(h5 (by omega) q hq).1]; exact hwa.2.1 q hq
              refine V.cV5 (pc := 130) (kc2 := 0) (ks2 := 0) ml_Mo_185 (hM_o _) (ct_Mo_mirrorTo ar_two ar_two (sset (sset σ 5 (upf (σ 5) 10 (n : Int))) 6 g) 400 (40 * p.toNat) n (by omega) (by omega) (by omega) (by omega) (by omega) (fun _ => Or.inl (by omega)) (fun q hq => hpr2 q hq) _) d_Mo_mirror_130 (Nat.le_of_ble_eq_true rfl) (Nat.le_of_ble_eq_true rfl) (Nat.le_of_ble_eq_true rfl) (Nat.le_of_ble_eq_true rfl) ?_
              rintro _ _ _ ⟨rfl, rfl, g2, rfl, hg2, hf2⟩
              dsimp only [Option.toList, List.cons_append, List.nil_append]
              refine V.aload_n (pc := 133) 0 d_Mo_mirror_133 rfl rfl ?_
              refine V.iload_n (pc := 134) 1 d_Mo_mirror_134 rfl rfl ?_
              refine V.iload_n (pc := 135) 3 d_Mo_mirror_135 rfl rfl ?_
              refine V.if_eq (tgt := 143) (pc := 136) d_Mo_mirror_136 (by decide) (fun c_136 => ?_) (fun c_136 => ?_)
              · skip
                exact absurd c_136 (by decide)
              · skip
                have hc9 : ∀ q, q < 2 * n → (fun q => ((sset (sset (sset σ 5 (upf (σ 5) 10 (n : Int))) 6 g) 7 g2)) 6 (400 + q)) q = mi a n q := fun q hq => (hg q hq).trans (by unfold mi; exact congrArg (fun z => - z) (h3 (by omega) _ (by omega)))
                have hsg := mi_sg hwa.1
                have hd9 : ∀ q, q < 2 * n → (fun q => ((sset (sset (sset σ 5 (upf (σ 5) 10 (n : Int))) 6 g) 7 g2)) 7 (400 + q)) q = mi b n q := fun q hq => (hg2 q hq).trans (by unfold mi; exact congrArg (fun z => - z) (h5 (by omega) _ (by omega)).1)
                have hsg2 := mi_sg hwa.2.1
                have har := arch_mi hwa.1 hwa.2.2.1
                have hbr := arch_mi hwa.2.1 hwa.2.2.2
                have hkn : KN σ (sset (sset (sset σ 5 (upf (σ 5) 10 (n : Int))) 6 g) 7 g2) := ((KN.upd5 (KN.rf σ) _).updj (by omega) (by omega) (fun i hi => hf i (Or.inl hi))).updj (by omega) (by omega) (fun i hi => hf2 i (Or.inl hi))
                refine V.iconst (pc := 139) d_Mo_mirror_139 ⟨by decide, by decide⟩ ?_
                refine V.goto (tgt := 144) (pc := 140) d_Mo_mirror_140 (by decide) ?_
                have epl : (vI pl : MV) = vI (pl.toNat : Int) := by rw [show ((pl.toNat : Nat) : Int) = pl by omega]
                rw [epl]
                refine V.cV2 (pc := 144) (kc2 := 0) (ks2 := 0) ml_Mo_157 (hM_o _) (ct_Mo_keepL (sset (sset (sset σ 5 (upf (σ 5) 10 (n : Int))) 6 g) 7 g2) pl.toNat (by omega) _ _ n rfl rfl (show upf (σ 5) 10 (n : Int) 10 = n from upf_e) (by omega) (fun q hq => by have := hc9 q hq; dsimp only at this ⊢; rw [this]; exact hsg q hq) (fun q hq => by have := hd9 q hq; dsimp only at this ⊢; rw [this]; exact hsg2 q hq) ((arch_cong (fun q hq => by have := hc9 q hq; dsimp only at this ⊢; rw [this])).mpr har) ((arch_cong (fun q hq => by have := hd9 q hq; dsimp only at this ⊢; rw [this])).mpr hbr) _) d_Mo_mirror_144 (Nat.le_of_ble_eq_true rfl) (Nat.le_of_ble_eq_true rfl) (Nat.le_of_ble_eq_true rfl) (Nat.le_of_ble_eq_true rfl) ?_
                rintro r9 h9 s9 ⟨rfl, rfl, τ2, rfl, hkp, hone2⟩
                rw [nlp_cong hc9 hd9] at hone2 ⊢
                dsimp only [Option.toList, List.cons_append, List.nil_append]
                refine V.ret (pc := 147) (r := some (vI _)) d_Mo_mirror_147 (Or.inl rfl) rfl ?_
                have h56 : landK (mi a n) (mi b n) n = 5 ∨ landK (mi a n) (mi b n) n = 6 := by unfold landK; split <;> simp
                refine qs_of (S2 := sTh S pl.toNat (some (landK (mi a n) (mi b n) n, n, mi a n, mi b n))) ?_ (RI.put (hI.kn hkn) (by omega) hkp (R_one_land h56 hc9 hd9 hone2))
                unfold sp_mirror; rw [if_pos (by omega)]; simp only [hS]; rw [if_pos h05]; rfl
          · skip
            exact absurd c_44 (by decide)
        · skip
          exfalso; omega
    · skip
      refine V.ldc (pc := 14) (-1000001) ck_Mo_112 rfl ⟨by decide, by decide⟩ d_Mo_mirror_14 ?_
      refine V.ret (pc := 16) (r := some (vI _)) d_Mo_mirror_16 (Or.inl rfl) rfl ?_
      exact qs_of (by unfold sp_mirror; rw [if_neg (by omega)]) hI
