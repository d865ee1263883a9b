/-! THE REFERENCE: rank, printed by wip/whole/gen/refR.py -/
def sp_rank (S : SS) (p : Int) : Int × SS := if 0 ≤ p ∧ p ≤ 9 then (match S.2.1 p.toNat with
  | none => (-1000011, sSt S 1)
  | some (kd, n, a, _) => if isOf kd 2 then (if 12 < n then (-1000003, S) else (rk a n (2 * n), sSt S 0)) else (-1000013, sSt S 3)) else (-1000001, S)
set_option maxRecDepth 20000 in
theorem cs_Mo_rank (S : SS) (σ : SM) (hI : RI S σ) (p : Int) (sz : Nat) : Ct M_Mo_rank 2 0 0 [vR 8, vI p] (hM σ) sz (QS (sp_rank S p) sz) := by
  refine Ct.of rfl (Nat.le_of_ble_eq_true rfl) ?_
  dsimp only [lsOf]
  refine V.iload_n (pc := 0) 1 d_Mo_rank_0 rfl rfl ?_
  refine V.cS1 (pc := 1) (kc2 := 0) (ks2 := 0) ml_Mo_152 (ct_Mo_isPlace _ _ _) d_Mo_rank_1 (Nat.le_of_ble_eq_true rfl) (Nat.le_of_ble_eq_true rfl) (Nat.le_of_ble_eq_true rfl) (Nat.le_of_ble_eq_true rfl) ?_
  rintro _ _ _ ⟨rfl, rfl, rfl⟩
  dsimp only [Option.toList, List.cons_append, List.nil_append]
  refine V.ifB_ne (tgt := 10) (pc := 4) d_Mo_rank_4 (by decide) (fun c_4 => ?_) (fun c_4 => ?_)
  · skip
    rcases th_cases hI.2.1 (show p.toNat < 10 by omega) with ⟨hS, hk⟩ | ⟨kd, n, a, b, hS, hone⟩
    rotate_left
    by_cases hof : isOf kd 2
    · skip
      obtain ⟨hw, hk, hn, h3, h4, h5, h6⟩ := id hone
      have hwk := wf_kind hw
      refine V.aload_n (pc := 10) 0 d_Mo_rank_10 rfl rfl ?_
      refine V.iload_n (pc := 11) 1 d_Mo_rank_11 rfl rfl ?_
      refine V.iconst (pc := 12) d_Mo_rank_12 ⟨by decide, by decide⟩ ?_
      refine V.cV2 (pc := 13) (kc2 := 0) (ks2 := 0) ml_Mo_165 (hM_o _) (refY (by omega) (by omega) (by rw [hk]; exact hof) _) d_Mo_rank_13 (Nat.le_of_ble_eq_true rfl) (Nat.le_of_ble_eq_true rfl) (Nat.le_of_ble_eq_true rfl) (Nat.le_of_ble_eq_true rfl) ?_
      rintro _ _ _ ⟨rfl, rfl, rfl⟩
      dsimp only [Option.toList, List.cons_append, List.nil_append]
      refine V.istore_n (pc := 16) 2 d_Mo_rank_16 rfl (Nat.le_of_ble_eq_true rfl) rfl ?_
      dsimp only [put]
      refine V.iload_n (pc := 17) 2 d_Mo_rank_17 rfl rfl ?_
      refine V.if_eq (tgt := 23) (pc := 18) d_Mo_rank_18 (by decide) (fun c_18 => ?_) (fun c_18 => ?_)
      · skip
        refine V.aload_n (pc := 23) 0 d_Mo_rank_23 rfl rfl ?_
        refine V.getf (pc := 24) 5 cl_Mo fl_Mo_25_Mo d_Mo_rank_24 (hM_o _) (Nat.le_of_ble_eq_true rfl) rfl ?_
        refine V.iload_n (pc := 27) 1 d_Mo_rank_27 rfl rfl ?_
        refine V.iald (pc := 28) d_Mo_rank_28 (ar_many _).1 (by omega) (by omega) ?_
        try simp (disch := omega) only [sset_n, sset_e]
        rw [hn]
        refine V.bipush (pc := 29) d_Mo_rank_29 ⟨by decide, by decide⟩ ?_
        refine V.icmp_le (tgt := 39) (pc := 31) d_Mo_rank_31 (by decide) (fun c_31 => ?_) (fun c_31 => ?_)
        · skip
          refine V.aload_n (pc := 39) 0 d_Mo_rank_39 rfl rfl ?_
          refine V.aload_n (pc := 40) 0 d_Mo_rank_40 rfl rfl ?_
          refine V.aload_n (pc := 41) 0 d_Mo_rank_41 rfl rfl ?_
          refine V.getf (pc := 42) 6 cl_Mo fl_Mo_28_Mo d_Mo_rank_42 (hM_o _) (Nat.le_of_ble_eq_true rfl) rfl ?_
          refine V.bipush (pc := 45) d_Mo_rank_45 ⟨by decide, by decide⟩ ?_
          refine V.iload_n (pc := 47) 1 d_Mo_rank_47 rfl rfl ?_
          refine V.imul (pc := 48) d_Mo_rank_48 ⟨by omega, by omega⟩ ?_
          refine V.aload_n (pc := 49) 0 d_Mo_rank_49 rfl rfl ?_
          refine V.getf (pc := 50) 5 cl_Mo fl_Mo_25_Mo d_Mo_rank_50 (hM_o _) (Nat.le_of_ble_eq_true rfl) rfl ?_
          refine V.iload_n (pc := 53) 1 d_Mo_rank_53 rfl rfl ?_
          refine V.iald (pc := 54) d_Mo_rank_54 (ar_many _).1 (by omega) (by omega) ?_
          try simp (disch := omega) only [sset_n, sset_e]
          have e40 : (vI (40 * p) : MV) = vI ((40 * p.toNat : Nat) : Int) := by rw [show ((40 * p.toNat : Nat) : Int) = 40 * p by omega]
          rw [hn, e40]
          have hwa := wf_arch hw hof
          have har := arch_iff.mp hwa.2.1
          refine V.cV3 (pc := 55) (kc2 := 0) (ks2 := 0) ml_Mo_207 (hM_o _) (ct_Mo_rankOf ar_one (by decide) (by decide) (by decide) σ (40 * p.toNat) n (by omega) (by omega) a (fun q hq => h3 (by omega) q hq) har.1 hI.2.2.2.1 _) d_Mo_rank_55 (Nat.le_of_ble_eq_true rfl) (Nat.le_of_ble_eq_true rfl) (Nat.le_of_ble_eq_true rfl) (Nat.le_of_ble_eq_true rfl) ?_
          rintro _ _ _ ⟨rfl, rfl, t2, rfl, h0⟩
          dsimp only [Option.toList, List.cons_append, List.nil_append]
          refine V.cV1 (pc := 58) (kc2 := 0) (ks2 := 0) ml_Mo_117 (hM_o _) (ct_Mo_well _ _ _) d_Mo_rank_58 (Nat.le_of_ble_eq_true rfl) (Nat.le_of_ble_eq_true rfl) (Nat.le_of_ble_eq_true rfl) (Nat.le_of_ble_eq_true rfl) ?_
          rintro _ _ _ ⟨rfl, rfl, rfl⟩
          dsimp only [Option.toList, List.cons_append, List.nil_append]
          refine V.ret (pc := 61) (r := some (vI _)) d_Mo_rank_61 (Or.inl rfl) rfl ?_
          refine qs_of (S2 := sSt S 0) ?_ ((hI.en h0).st 0)
          unfold sp_rank; rw [if_pos (by omega)]; simp only [hS]; rw [if_pos hof, if_neg (by omega)]
        · skip
          refine V.ldc (pc := 34) (-1000003) ck_Mo_206 rfl ⟨by decide, by decide⟩ d_Mo_rank_34 ?_
          refine V.goto (tgt := 61) (pc := 36) d_Mo_rank_36 (by decide) ?_
          refine V.ret (pc := 61) (r := some (vI _)) d_Mo_rank_61 (Or.inl rfl) rfl ?_
          refine qs_of (S2 := S) ?_ hI
          unfold sp_rank; rw [if_pos (by omega)]; simp only [hS]; rw [if_pos hof, if_pos (by omega)]
      · skip
        exact absurd rfl c_18
    · skip
      obtain ⟨hw, hk, hn, h3, h4, h5, h6⟩ := id hone
      have hwk := wf_kind hw
      refine V.aload_n (pc := 10) 0 d_Mo_rank_10 rfl rfl ?_
      refine V.iload_n (pc := 11) 1 d_Mo_rank_11 rfl rfl ?_
      refine V.iconst (pc := 12) d_Mo_rank_12 ⟨by decide, by decide⟩ ?_
      refine V.cV2 (pc := 13) (kc2 := 0) (ks2 := 0) ml_Mo_165 (hM_o _) (refK (by omega) (by omega) (by rw [hk]; exact hof) _) d_Mo_rank_13 (Nat.le_of_ble_eq_true rfl) (Nat.le_of_ble_eq_true rfl) (Nat.le_of_ble_eq_true rfl) (Nat.le_of_ble_eq_true rfl) ?_
      rintro _ _ _ ⟨rfl, rfl, rfl⟩
      dsimp only [Option.toList, List.cons_append, List.nil_append]
      refine V.istore_n (pc := 16) 2 d_Mo_rank_16 rfl (Nat.le_of_ble_eq_true rfl) rfl ?_
      dsimp only [put]
      refine V.iload_n (pc := 17) 2 d_Mo_rank_17 rfl rfl ?_
      refine V.if_eq (tgt := 23) (pc := 18) d_Mo_rank_18 (by decide) (fun c_18 => ?_) (fun c_18 => ?_)
      · skip
        exact absurd c_18 (by decide)
      · skip
        refine V.iload_n (pc := 21) 2 d_Mo_rank_21 rfl rfl ?_
        refine V.ret (pc := 22) (r := some (vI _)) d_Mo_rank_22 (Or.inl rfl) rfl ?_
        first
          | (refine qs_of (S2 := sSt S 1) ?_ (hI.st 1); unfold sp_rank; rw [if_pos (by omega)]; simp only [hS]; done)
          | (refine qs_of (S2 := sSt S 3) ?_ (hI.st 3); unfold sp_rank; rw [if_pos (by omega)]; simp only [hS]; rw [if_neg hof]; done)
    · skip
      refine V.aload_n (pc := 10) 0 d_Mo_rank_10 rfl rfl ?_
      refine V.iload_n (pc := 11) 1 d_Mo_rank_11 rfl rfl ?_
      refine V.iconst (pc := 12) d_Mo_rank_12 ⟨by decide, by decide⟩ ?_
      refine V.cV2 (pc := 13) (kc2 := 0) (ks2 := 0) ml_Mo_165 (hM_o _) (refN (by omega) hk _) d_Mo_rank_13 (Nat.le_of_ble_eq_true rfl) (Nat.le_of_ble_eq_true rfl) (Nat.le_of_ble_eq_true rfl) (Nat.le_of_ble_eq_true rfl) ?_
      rintro _ _ _ ⟨rfl, rfl, rfl⟩
      dsimp only [Option.toList, List.cons_append, List.nil_append]
      refine V.istore_n (pc := 16) 2 d_Mo_rank_16 rfl (Nat.le_of_ble_eq_true rfl) rfl ?_
      dsimp only [put]
      refine V.iload_n (pc := 17) 2 d_Mo_rank_17 rfl rfl ?_
      refine V.if_eq (tgt := 23) (pc := 18) d_Mo_rank_18 (by decide) (fun c_18 => ?_) (fun c_18 => ?_)
      · skip
        exact absurd c_18 (by decide)
      · skip
        refine V.iload_n (pc := 21) 2 d_Mo_rank_21 rfl rfl ?_
        refine V.ret (pc := 22) (r := some (vI _)) d_Mo_rank_22 (Or.inl rfl) rfl ?_
        first
          | (refine qs_of (S2 := sSt S 1) ?_ (hI.st 1); unfold sp_rank; rw [if_pos (by omega)]; simp only [hS]; done)
          | (refine qs_of (S2 := sSt S 3) ?_ (hI.st 3); unfold sp_rank; rw [if_pos (by omega)]; simp only [hS]; rw [if_neg hof]; done)
  · skip
    refine V.ldc (pc := 7) (-1000001) ck_Mo_112 rfl ⟨by decide, by decide⟩ d_Mo_rank_7 ?_
    refine V.ret (pc := 9) (r := some (vI _)) d_Mo_rank_9 (Or.inl rfl) rfl ?_
    exact qs_of (by unfold sp_rank; rw [if_neg (by omega)]) hI
