/-! THE CLASS: calls that make things, printed by wip/whole/gen/cls14.py -/
set_option maxRecDepth 20000 in
theorem cs_RR_nth (S : SS) (h : MH) (hI : CI S h) (pl n i : Int) (sz : Nat) (hsz : 37 ≤ sz) : Ct M_RR_nth 7 2 43 [vR 0, vI pl, vI n, vI i] h sz (QCI (sp_nth S pl n i) sz) := by
  refine Ct.of rfl (Nat.le_of_ble_eq_true rfl) ?_
  dsimp only [lsOf]
  obtain ⟨gs, gt, tr, en, fs, fp, hB, hcc⟩ := id hI
  obtain ⟨b0, b1, b2, b3, b4, b5, b6, b7⟩ := id hB
  refine V.fresh (fun hfr => ?_)
  refine V.iload_n (pc := 0) 1 d_RR_nth_0 rfl rfl ?_
  refine V.cS1 (pc := 1) (kc2 := 2) (ks2 := 43) ml_RR_80 (cc_RR_isPlace _ _ _) d_RR_nth_1 (Nat.le_of_ble_eq_true rfl) (Nat.le_of_ble_eq_true rfl) (Nat.le_of_ble_eq_true rfl) (Nat.le_of_ble_eq_true rfl) ?_
  rintro _ h9 s9 ⟨rfl, hq2, hq3⟩
  rw [hq2, hq3]
  clear hq2 hq3 h9 s9
  dsimp only [Option.toList, List.cons_append, List.nil_append]
  refine V.ifB_eq (tgt := 18) (pc := 4) d_RR_nth_4 (by decide) (fun c_4 => ?_) (fun c_4 => ?_)
  · skip
    refine V.ldc (pc := 18) (-1000001) ck_RR_50 rfl ⟨by decide, by decide⟩ d_RR_nth_18 ?_
    refine V.ret (pc := 20) (r := some (vI _)) d_RR_nth_20 (Or.inl rfl) rfl ?_
    exact qc_of (Nat.le_refl _) (by unfold sp_nth; rw [if_neg (by omega)]) hI
  · skip
    refine V.iload_n (pc := 7) 2 d_RR_nth_7 rfl rfl ?_
    refine V.iconst (pc := 8) d_RR_nth_8 ⟨by decide, by decide⟩ ?_
    refine V.icmp_lt (tgt := 18) (pc := 9) d_RR_nth_9 (by decide) (fun c_9 => ?_) (fun c_9 => ?_)
    · skip
      refine V.ldc (pc := 18) (-1000001) ck_RR_50 rfl ⟨by decide, by decide⟩ d_RR_nth_18 ?_
      refine V.ret (pc := 20) (r := some (vI _)) d_RR_nth_20 (Or.inl rfl) rfl ?_
      exact qc_of (Nat.le_refl _) (by unfold sp_nth; rw [if_neg (by omega)]) hI
    · skip
      refine V.iload_n (pc := 12) 2 d_RR_nth_12 rfl rfl ?_
      refine V.bipush (pc := 13) d_RR_nth_13 ⟨by decide, by decide⟩ ?_
      refine V.icmp_le (tgt := 21) (pc := 15) d_RR_nth_15 (by decide) (fun c_15 => ?_) (fun c_15 => ?_)
      · skip
        refine V.iload_n (pc := 21) 3 d_RR_nth_21 rfl rfl ?_
        refine V.if_lt (tgt := 35) (pc := 22) d_RR_nth_22 (by decide) (fun c_22 => ?_) (fun c_22 => ?_)
        · skip
          refine V.aload_n (pc := 35) 0 d_RR_nth_35 rfl rfl ?_
          refine V.ldc (pc := 36) (-1000000) ck_RR_117 rfl ⟨by decide, by decide⟩ d_RR_nth_36 ?_
          refine V.cV1 (pc := 38) (kc2 := 2) (ks2 := 43) ml_RR_58 b0 (cc_RR_settled _ _ _ b0 _) d_RR_nth_38 (Nat.le_of_ble_eq_true rfl) (Nat.le_of_ble_eq_true rfl) (Nat.le_of_ble_eq_true rfl) (Nat.le_of_ble_eq_true rfl) ?_
          rintro _ h9 s9 ⟨rfl, hq2, hq3⟩
          rw [hq2, hq3]
          clear hq2 hq3 h9 s9
          dsimp only [Option.toList, List.cons_append, List.nil_append]
          refine V.ret (pc := 41) (r := some (vI _)) d_RR_nth_41 (Or.inl rfl) rfl ?_
          refine qc_of (S2 := sSt S 0) (Nat.le_refl _) ?_ (hI.st 0)
          unfold sp_nth; rw [if_pos (by omega), if_neg (by omega)]
        · skip
          refine V.iload_n (pc := 25) 3 d_RR_nth_25 rfl rfl ?_
          refine V.aload_n (pc := 26) 0 d_RR_nth_26 rfl rfl ?_
          refine V.iload_n (pc := 27) 2 d_RR_nth_27 rfl rfl ?_
          refine V.iload_n (pc := 28) 2 d_RR_nth_28 rfl rfl ?_
          refine V.cV2 (pc := 29) (kc2 := 2) (ks2 := 43) ml_RR_113 b0 (cc_RR_endingsOf _ _ (by omega) _ _ _ b0 b5 hcc.2.1 _) d_RR_nth_29 (Nat.le_of_ble_eq_true rfl) (Nat.le_of_ble_eq_true rfl) (Nat.le_of_ble_eq_true rfl) (Nat.le_of_ble_eq_true rfl) ?_
          rintro _ h9 s9 ⟨rfl, hq2, hq3⟩
          rw [hq2, hq3]
          clear hq2 hq3 h9 s9
          dsimp only [Option.toList, List.cons_append, List.nil_append]
          have ee : En (n + n).toNat (n - n).toNat = En (2 * n.toNat) 0 := by rw [show (n + n).toNat = 2 * n.toNat by omega, show (n - n).toNat = 0 by omega]
          rw [ee]
          refine V.icmp_lt (tgt := 42) (pc := 32) d_RR_nth_32 (by decide) (fun c_32 => ?_) (fun c_32 => ?_)
          · skip
            have hi9 : 0 ≤ i ∧ i < En (2 * n.toNat) 0 := ⟨by omega, by omega⟩
            have en9 : (vI n : MV) = vI (n.toNat : Int) := by rw [show ((n.toNat : Nat) : Int) = n by omega]
            refine V.aload_n (pc := 42) 0 d_RR_nth_42 rfl rfl ?_
            refine V.iload_n (pc := 43) 1 d_RR_nth_43 rfl rfl ?_
            refine V.iload_n (pc := 44) 2 d_RR_nth_44 rfl rfl ?_
            refine V.aload_n (pc := 45) 0 d_RR_nth_45 rfl rfl ?_
            refine V.iload_n (pc := 46) 2 d_RR_nth_46 rfl rfl ?_
            refine V.iload_n (pc := 47) 3 d_RR_nth_47 rfl rfl ?_
            rw [en9]
            refine V.cV2 (pc := 48) (kc2 := 2) (ks2 := 43) ml_RR_118 b0 (cc_RR_plusOfRank n.toNat (by omega) i hi9 _ _ _ b0 b5 hcc.2.1 _) d_RR_nth_48 (Nat.le_of_ble_eq_true rfl) (Nat.le_of_ble_eq_true rfl) (Nat.le_of_ble_eq_true rfl) (Nat.le_of_ble_eq_true rfl) ?_
            rintro _ h9 s9 ⟨rfl, hq2, hq3⟩
            rw [hq2, hq3]
            clear hq2 hq3 h9 s9
            dsimp only [Option.toList, List.cons_append, List.nil_append]
            refine V.cS2 (pc := 51) (kc2 := 0) (ks2 := 0) ml_RR_122 (cc_RR_archesOf n.toNat (tls n.toNat i) (by omega) (tls_arch hi9) _ _) d_RR_nth_51 (Nat.le_of_ble_eq_true rfl) (Nat.le_of_ble_eq_true rfl) (Nat.le_of_ble_eq_true rfl) (Nat.le_of_ble_eq_true rfl) ?_
            rintro r9 h9 s9 hq9
            obtain ⟨a9, rfl, hs9, hgr, hT⟩ := arT_made (by omega) (fun p _ => tls_sg n.toNat i p) hsz hfr (tls_arch hi9) hq9
            dsimp only [Option.toList, List.cons_append, List.nil_append]
            have hI2 := hI.grow hgr
            obtain ⟨gs2, gt2, tr2, en2, fs2, fp2, ⟨c0, -⟩, -⟩ := id hI2
            refine V.cV2 (pc := 54) (kc2 := 0) (ks2 := 0) ml_RR_87 c0 (cc_RR_shelve S _ hI2 _ (by omega) a9 _ _ _ _ hT _) d_RR_nth_54 (Nat.le_of_ble_eq_true rfl) (Nat.le_of_ble_eq_true rfl) (Nat.le_of_ble_eq_true rfl) (Nat.le_of_ble_eq_true rfl) ?_
            rintro _ h8 s8 ⟨hq1, rfl, hCI⟩
            dsimp only [Option.toList, List.cons_append, List.nil_append]
            refine V.ret (pc := 57) (r := some (vI _)) d_RR_nth_57 (Or.inl rfl) rfl ?_
            refine qc_of (S2 := sTh S pl.toNat (some (rowKind (tls n.toNat i) n.toNat, n.toNat, tls n.toNat i, fun _ => 0))) (by omega) ?_ hCI
            unfold sp_nth; rw [if_pos (by omega), if_pos hi9]
          · skip
            refine V.aload_n (pc := 35) 0 d_RR_nth_35 rfl rfl ?_
            refine V.ldc (pc := 36) (-1000000) ck_RR_117 rfl ⟨by decide, by decide⟩ d_RR_nth_36 ?_
            refine V.cV1 (pc := 38) (kc2 := 2) (ks2 := 43) ml_RR_58 b0 (cc_RR_settled _ _ _ b0 _) d_RR_nth_38 (Nat.le_of_ble_eq_true rfl) (Nat.le_of_ble_eq_true rfl) (Nat.le_of_ble_eq_true rfl) (Nat.le_of_ble_eq_true rfl) ?_
            rintro _ h9 s9 ⟨rfl, hq2, hq3⟩
            rw [hq2, hq3]
            clear hq2 hq3 h9 s9
            dsimp only [Option.toList, List.cons_append, List.nil_append]
            refine V.ret (pc := 41) (r := some (vI _)) d_RR_nth_41 (Or.inl rfl) rfl ?_
            refine qc_of (S2 := sSt S 0) (Nat.le_refl _) ?_ (hI.st 0)
            unfold sp_nth; rw [if_pos (by omega), if_neg (by omega)]
      · skip
        refine V.ldc (pc := 18) (-1000001) ck_RR_50 rfl ⟨by decide, by decide⟩ d_RR_nth_18 ?_
        refine V.ret (pc := 20) (r := some (vI _)) d_RR_nth_20 (Or.inl rfl) rfl ?_
        exact qc_of (Nat.le_refl _) (by unfold sp_nth; rw [if_neg (by omega)]) hI
theorem tu_pls {a : Nat → Int} {n c : Nat} (h : arch a n) (hn : 1 ≤ n) (hc : pt a n 0 = (c : Int)) (hc0 : 0 < c) : pls (tu a n) (2 * n) = pls a (2 * n) / 2 ^ 1 ||| 2 ^ (c - 1) := by
  obtain ⟨c2, g1, g2, g3, g4, g5, g6, -, -⟩ := arch_0 h hn
  have ec : c2 = c := by omega
  subst ec
  have hlt : pls a (2 * n) / 2 ^ 1 < 2 ^ (2 * n) := Nat.lt_of_le_of_lt (Nat.div_le_self _ _) (pls_lt a (2 * n))
  have hpw : 2 ^ (c2 - 1) < 2 ^ (2 * n) := Nat.pow_lt_pow_right (by decide) (by omega)
  refine bits_eq (pls_lt _ _) (Nat.or_lt_two_pow hlt hpw) (fun q hq => ?_)
  rw [pls_bit, Nat.testBit_or, Nat.testBit_two_pow, Nat.testBit_div_two_pow]
  simp only [Bool.or_eq_true, decide_eq_true_eq, pls_bit]
  unfold tu
  by_cases e : q + 1 = 2 * n
  · rw [if_pos e]
    constructor
    · rintro ⟨-, h2⟩; omega
    · rintro (h2 | h2) <;> omega
  · rw [if_neg e]
    by_cases e2 : ((q + 1 : Nat) : Int) = pt a n 0
    · rw [if_pos e2]
      exact ⟨fun _ => Or.inr (by omega), fun _ => ⟨hq, by omega⟩⟩
    · rw [if_neg e2]
      constructor
      · rintro ⟨h1, h2⟩; exact Or.inl ⟨by omega, h2⟩
      · rintro (h1 | h1)
        · exact ⟨hq, h1.2⟩
        · exfalso; omega
set_option maxRecDepth 20000 in
theorem cs_RR_turn (S : SS) (h : MH) (hI : CI S h) (pl p : Int) (sz : Nat) (hsz : 37 ≤ sz) : Ct M_RR_turn 7 2 43 [vR 0, vI pl, vI p] h sz (QCI (sp_turn S pl p) sz) := by
  refine Ct.of rfl (Nat.le_of_ble_eq_true rfl) ?_
  dsimp only [lsOf]
  obtain ⟨gs, gt, tr, en, fs, fp, hB, hcc⟩ := id hI
  obtain ⟨b0, b1, b2, b3, b4, b5, b6, b7⟩ := id hB
  refine V.fresh (fun hfr => ?_)
  refine V.iload_n (pc := 0) 1 d_RR_turn_0 rfl rfl ?_
  refine V.cS1 (pc := 1) (kc2 := 2) (ks2 := 43) ml_RR_80 (cc_RR_isPlace _ _ _) d_RR_turn_1 (Nat.le_of_ble_eq_true rfl) (Nat.le_of_ble_eq_true rfl) (Nat.le_of_ble_eq_true rfl) (Nat.le_of_ble_eq_true rfl) ?_
  rintro _ h9 s9 ⟨rfl, hq2, hq3⟩
  rw [hq2, hq3]
  clear hq2 hq3 h9 s9
  dsimp only [Option.toList, List.cons_append, List.nil_append]
  refine V.ifB_eq (tgt := 14) (pc := 4) d_RR_turn_4 (by decide) (fun c_4 => ?_) (fun c_4 => ?_)
  · skip
    refine V.ldc (pc := 14) (-1000001) ck_RR_50 rfl ⟨by decide, by decide⟩ d_RR_turn_14 ?_
    refine V.ret (pc := 16) (r := some (vI _)) d_RR_turn_16 (Or.inl rfl) rfl ?_
    exact qc_of (Nat.le_refl _) (by unfold sp_turn; rw [if_neg (by omega)]) hI
  · skip
    refine V.iload_n (pc := 7) 2 d_RR_turn_7 rfl rfl ?_
    refine V.cS1 (pc := 8) (kc2 := 2) (ks2 := 43) ml_RR_80 (cc_RR_isPlace _ _ _) d_RR_turn_8 (Nat.le_of_ble_eq_true rfl) (Nat.le_of_ble_eq_true rfl) (Nat.le_of_ble_eq_true rfl) (Nat.le_of_ble_eq_true rfl) ?_
    rintro _ h9 s9 ⟨rfl, hq2, hq3⟩
    rw [hq2, hq3]
    clear hq2 hq3 h9 s9
    dsimp only [Option.toList, List.cons_append, List.nil_append]
    refine V.ifB_ne (tgt := 17) (pc := 11) d_RR_turn_11 (by decide) (fun c_11 => ?_) (fun c_11 => ?_)
    · skip
      rcases cth_cases (hcc.2.2.2.2 p.toNat (by omega)) with ⟨hS, hgt⟩ | ⟨kd, n, s, sb, a, hS, hgt, hth⟩
      rotate_left
      have hwk := wf_kind hth.1
      by_cases hof : isOf kd 2
      · skip
        obtain ⟨hk24, ha37, c, f, hc37, hob, hca, hpf⟩ := hth.ar hof
        have hC := cl_rci hk24
        obtain ⟨c1, g1, g2, g3, -⟩ := arch_0 (wf_arch hth.1 hof).2.1 (show 1 ≤ n by omega)
        have hf0 := hpf 0 (by omega)
        have hp40 := pls_40 s (show 2 * n ≤ 40 by omega)
        have hpw := two40 (show c1 - 1 ≤ 40 by omega)
        have hdv := Nat.div_le_self (pls s (2 * n)) (2 ^ 1)
        have htu := tu_pls (wf_arch hth.1 hof).2.1 (show 1 ≤ n by omega) g1 g2
        refine V.aload_n (pc := 17) 0 d_RR_turn_17 rfl rfl ?_
        refine V.getf (pc := 18) 1 cl_RR fl_RR_17_RR d_RR_turn_18 b0 (Nat.le_of_ble_eq_true rfl) rfl ?_
        refine V.iload_n (pc := 21) 2 d_RR_turn_21 rfl rfl ?_
        refine V.aald1 (pc := 22) d_RR_turn_22 b2 (by omega) (by omega) ?_
        rw [hgt]
        refine V.astore (pc := 23) d_RR_turn_23 (Nat.le_of_ble_eq_true rfl) rfl ?_
        dsimp only [put]
        refine V.aload (pc := 25) d_RR_turn_25 rfl ?_
        refine V.instY (pc := 27) "RiverRoad$Arches" hC (ins_y (k := kd) (j := 2) (by omega) (by decide) hof) cl_RR_91 d_RR_turn_27 hob ?_
        refine V.if_eq (tgt := 42) (pc := 30) d_RR_turn_30 (by decide) (fun c_30 => ?_) (fun c_30 => ?_)
        · skip
          exact absurd c_30 (by decide)
        · skip
          refine V.aload (pc := 33) d_RR_turn_33 rfl ?_
          refine V.castY (pc := 35) "RiverRoad$Arches" hC (ins_y (k := kd) (j := 2) (by omega) (by decide) hof) cl_RR_91 d_RR_turn_35 hob ?_
          refine V.astore_n (pc := 38) 3 d_RR_turn_38 rfl (Nat.le_of_ble_eq_true rfl) rfl ?_
          dsimp only [put]
          refine V.goto (tgt := 48) (pc := 39) d_RR_turn_39 (by decide) ?_
          refine V.aload_n (pc := 48) 3 d_RR_turn_48 rfl rfl ?_
          refine V.getf (pc := 49) 1 hC fl_RR_126_Ar d_RR_turn_49 hob (Nat.le_of_ble_eq_true rfl) rfl ?_
          refine V.iconst (pc := 52) d_RR_turn_52 ⟨by decide, by decide⟩ ?_
          refine V.lshr (pc := 53) (((pls s (2 * n) / 2 ^ 1 : Nat) : Int)) d_RR_turn_53 (b_shr (k := 1) rfl (by omega) (by omega)) ?_
          refine V.lconst1 (pc := 54) d_RR_turn_54 ?_
          refine V.aload_n (pc := 55) 3 d_RR_turn_55 rfl rfl ?_
          refine V.getf (pc := 56) 2 hC fl_RR_130_Ar d_RR_turn_56 hob (Nat.le_of_ble_eq_true rfl) rfl ?_
          refine V.iconst (pc := 59) d_RR_turn_59 ⟨by decide, by decide⟩ ?_
          refine V.iald (pc := 60) d_RR_turn_60 hca (by omega) (by omega) ?_
          rw [show (0 : Int).toNat = 0 from rfl, hf0, g1]
          refine V.iconst (pc := 61) d_RR_turn_61 ⟨by decide, by decide⟩ ?_
          refine V.isub (pc := 62) d_RR_turn_62 ⟨by omega, by omega⟩ ?_
          refine V.lshl (pc := 63) (((2 ^ (c1 - 1) : Nat) : Int)) d_RR_turn_63 (b_one (by omega) (by omega)) ?_
          refine V.lor (pc := 64) (((pls s (2 * n) / 2 ^ 1 ||| 2 ^ (c1 - 1) : Nat) : Int)) d_RR_turn_64 (b_or (by omega) (by omega)) ?_
          rw [← htu]
          refine V.lstore (pc := 65) d_RR_turn_65 (Nat.le_of_ble_eq_true rfl) rfl ?_
          dsimp only [put]
          refine V.aload_n (pc := 67) 0 d_RR_turn_67 rfl rfl ?_
          refine V.iload_n (pc := 68) 1 d_RR_turn_68 rfl rfl ?_
          refine V.aload_n (pc := 69) 3 d_RR_turn_69 rfl rfl ?_
          refine V.getf (pc := 70) 0 hC fl_RR_96_Ar d_RR_turn_70 hob (Nat.le_of_ble_eq_true rfl) rfl ?_
          refine V.lload (pc := 73) d_RR_turn_73 rfl ?_
          refine V.cS2 (pc := 75) (kc2 := 0) (ks2 := 0) ml_RR_122 (cc_RR_archesOf n (tu s n) (by omega) (arch_tu (wf_arch hth.1 hof).2.1 (by omega)) _ _) d_RR_turn_75 (Nat.le_of_ble_eq_true rfl) (Nat.le_of_ble_eq_true rfl) (Nat.le_of_ble_eq_true rfl) (Nat.le_of_ble_eq_true rfl) ?_
          rintro r9 h9 s9 hq9
          obtain ⟨a9, rfl, hs9, hgr, hT⟩ := arT_made (by omega) (tu_sg (wf_arch hth.1 hof).1) hsz hfr (arch_tu (wf_arch hth.1 hof).2.1 (by omega)) hq9
          dsimp only [Option.toList, List.cons_append, List.nil_append]
          have hI2 := hI.grow hgr
          obtain ⟨gs2, gt2, tr2, en2, fs2, fp2, ⟨c0, -⟩, -⟩ := id hI2
          refine V.cV2 (pc := 78) (kc2 := 0) (ks2 := 0) ml_RR_87 c0 (cc_RR_shelve S _ hI2 _ (by omega) a9 _ _ _ _ hT _) d_RR_turn_78 (Nat.le_of_ble_eq_true rfl) (Nat.le_of_ble_eq_true rfl) (Nat.le_of_ble_eq_true rfl) (Nat.le_of_ble_eq_true rfl) ?_
          rintro _ h8 s8 ⟨hq1, rfl, hCI⟩
          dsimp only [Option.toList, List.cons_append, List.nil_append]
          refine V.ret (pc := 81) (r := some (vI _)) d_RR_turn_81 (Or.inl rfl) rfl ?_
          refine qc_of (S2 := sTh S pl.toNat (some (rowKind (tu s n) n, n, tu s n, fun _ => 0))) (by omega) ?_ hCI
          unfold sp_turn; rw [if_pos (by omega)]; simp only [hS]; rw [if_pos hof]
      · skip
        obtain ⟨ha37, ci, N, T, ty, fs9, hC, hob⟩ := hth.ob
        refine V.aload_n (pc := 17) 0 d_RR_turn_17 rfl rfl ?_
        refine V.getf (pc := 18) 1 cl_RR fl_RR_17_RR d_RR_turn_18 b0 (Nat.le_of_ble_eq_true rfl) rfl ?_
        refine V.iload_n (pc := 21) 2 d_RR_turn_21 rfl rfl ?_
        refine V.aald1 (pc := 22) d_RR_turn_22 b2 (by omega) (by omega) ?_
        rw [hgt]
        refine V.astore (pc := 23) d_RR_turn_23 (Nat.le_of_ble_eq_true rfl) rfl ?_
        dsimp only [put]
        refine V.aload (pc := 25) d_RR_turn_25 rfl ?_
        refine V.instNo (pc := 27) "RiverRoad$Arches" hC (ins_n (k := kd) (j := 2) (by omega) (by decide) hof) cl_RR_91 d_RR_turn_27 hob ?_
        refine V.if_eq (tgt := 42) (pc := 30) d_RR_turn_30 (by decide) (fun c_30 => ?_) (fun c_30 => ?_)
        · skip
          refine V.aload_n (pc := 42) 0 d_RR_turn_42 rfl rfl ?_
          refine V.iload_n (pc := 43) 2 d_RR_turn_43 rfl rfl ?_
          refine V.cV1 (pc := 44) (kc2 := 2) (ks2 := 43) ml_RR_93 b0 (cc_RR_notThatK _ _ (by omega) _ _ _ b0 b2 hgt _) d_RR_turn_44 (Nat.le_of_ble_eq_true rfl) (Nat.le_of_ble_eq_true rfl) (Nat.le_of_ble_eq_true rfl) (Nat.le_of_ble_eq_true rfl) ?_
          rintro _ h9 s9 ⟨rfl, hq2, hq3⟩
          rw [hq2, hq3]
          clear hq2 hq3 h9 s9
          dsimp only [Option.toList, List.cons_append, List.nil_append]
          refine V.ret (pc := 47) (r := some (vI _)) d_RR_turn_47 (Or.inl rfl) rfl ?_
          refine qc_of (S2 := sSt S 3) (Nat.le_refl _) ?_ (hI.st 3)
          unfold sp_turn; rw [if_pos (by omega)]; simp only [hS]; rw [if_neg hof]
        · skip
          exact absurd rfl c_30
      · skip
        refine V.aload_n (pc := 17) 0 d_RR_turn_17 rfl rfl ?_
        refine V.getf (pc := 18) 1 cl_RR fl_RR_17_RR d_RR_turn_18 b0 (Nat.le_of_ble_eq_true rfl) rfl ?_
        refine V.iload_n (pc := 21) 2 d_RR_turn_21 rfl rfl ?_
        refine V.aald1 (pc := 22) d_RR_turn_22 b2 (by omega) (by omega) ?_
        rw [hgt]
        refine V.astore (pc := 23) d_RR_turn_23 (Nat.le_of_ble_eq_true rfl) rfl ?_
        dsimp only [put]
        refine V.aload (pc := 25) d_RR_turn_25 rfl ?_
        refine V.instN (pc := 27) d_RR_turn_27 ?_
        refine V.if_eq (tgt := 42) (pc := 30) d_RR_turn_30 (by decide) (fun c_30 => ?_) (fun c_30 => ?_)
        · skip
          refine V.aload_n (pc := 42) 0 d_RR_turn_42 rfl rfl ?_
          refine V.iload_n (pc := 43) 2 d_RR_turn_43 rfl rfl ?_
          refine V.cV1 (pc := 44) (kc2 := 2) (ks2 := 43) ml_RR_93 b0 (cc_RR_notThatN _ _ (by omega) _ _ b0 b2 hgt _) d_RR_turn_44 (Nat.le_of_ble_eq_true rfl) (Nat.le_of_ble_eq_true rfl) (Nat.le_of_ble_eq_true rfl) (Nat.le_of_ble_eq_true rfl) ?_
          rintro _ h9 s9 ⟨rfl, hq2, hq3⟩
          rw [hq2, hq3]
          clear hq2 hq3 h9 s9
          dsimp only [Option.toList, List.cons_append, List.nil_append]
          refine V.ret (pc := 47) (r := some (vI _)) d_RR_turn_47 (Or.inl rfl) rfl ?_
          refine qc_of (S2 := sSt S 1) (Nat.le_refl _) ?_ (hI.st 1)
          unfold sp_turn; rw [if_pos (by omega)]; simp only [hS]
        · skip
          exact absurd rfl c_30
    · skip
      refine V.ldc (pc := 14) (-1000001) ck_RR_50 rfl ⟨by decide, by decide⟩ d_RR_turn_14 ?_
      refine V.ret (pc := 16) (r := some (vI _)) d_RR_turn_16 (Or.inl rfl) rfl ?_
      exact qc_of (Nat.le_refl _) (by unfold sp_turn; rw [if_neg (by omega)]) hI
set_option maxRecDepth 20000 in
theorem cs_RR_mirror (S : SS) (h : MH) (hI : CI S h) (pl p : Int) (sz : Nat) (hsz : 37 ≤ sz) : Ct M_RR_mirror 8 6 131 [vR 0, vI pl, vI p] h sz (QCI (sp_mirror S pl p) sz) := by
  refine Ct.of rfl (Nat.le_of_ble_eq_true rfl) ?_
  dsimp only [lsOf]
  obtain ⟨gs, gt, tr, en, fs, fp, hB, hcc⟩ := id hI
  obtain ⟨b0, b1, b2, b3, b4, b5, b6, b7⟩ := id hB
  refine V.fresh (fun hfr => ?_)
  refine V.iload_n (pc := 0) 1 d_RR_mirror_0 rfl rfl ?_
  refine V.cS1 (pc := 1) (kc2 := 6) (ks2 := 131) ml_RR_80 (cc_RR_isPlace _ _ _) d_RR_mirror_1 (Nat.le_of_ble_eq_true rfl) (Nat.le_of_ble_eq_true rfl) (Nat.le_of_ble_eq_true rfl) (Nat.le_of_ble_eq_true rfl) ?_
  rintro _ h9 s9 ⟨rfl, hq2, hq3⟩
  rw [hq2, hq3]
  clear hq2 hq3 h9 s9
  dsimp only [Option.toList, List.cons_append, List.nil_append]
  refine V.ifB_eq (tgt := 14) (pc := 4) d_RR_mirror_4 (by decide) (fun c_4 => ?_) (fun c_4 => ?_)
  · skip
    refine V.ldc (pc := 14) (-1000001) ck_RR_50 rfl ⟨by decide, by decide⟩ d_RR_mirror_14 ?_
    refine V.ret (pc := 16) (r := some (vI _)) d_RR_mirror_16 (Or.inl rfl) rfl ?_
    exact qc_of (Nat.le_refl _) (by unfold sp_mirror; rw [if_neg (by omega)]) hI
  · skip
    refine V.iload_n (pc := 7) 2 d_RR_mirror_7 rfl rfl ?_
    refine V.cS1 (pc := 8) (kc2 := 6) (ks2 := 131) ml_RR_80 (cc_RR_isPlace _ _ _) d_RR_mirror_8 (Nat.le_of_ble_eq_true rfl) (Nat.le_of_ble_eq_true rfl) (Nat.le_of_ble_eq_true rfl) (Nat.le_of_ble_eq_true rfl) ?_
    rintro _ h9 s9 ⟨rfl, hq2, hq3⟩
    rw [hq2, hq3]
    clear hq2 hq3 h9 s9
    dsimp only [Option.toList, List.cons_append, List.nil_append]
    refine V.ifB_ne (tgt := 17) (pc := 11) d_RR_mirror_11 (by decide) (fun c_11 => ?_) (fun c_11 => ?_)
    · skip
      rcases cth_cases (hcc.2.2.2.2 p.toNat (by omega)) with ⟨hS, hgt⟩ | ⟨kd, n, s, sb, a, hS, hgt, hth⟩
      rotate_left
      have hwk := wf_kind hth.1
      have h3 : isOf kd 2 ∨ (¬ isOf kd 2 ∧ isOf kd 5) ∨ (¬ isOf kd 2 ∧ ¬ isOf kd 5) := by
        by_cases e : isOf kd 2
        · exact Or.inl e
        · by_cases e5 : isOf kd 5
          · exact Or.inr (Or.inl ⟨e, e5⟩)
          · exact Or.inr (Or.inr ⟨e, e5⟩)
      rcases h3 with hof | ⟨hof, hof5⟩ | ⟨hof, hof5⟩
      · skip
        obtain ⟨hk24, ha37, c, f, hc37, hob, hca, hpf⟩ := hth.ar hof
        have hC := cl_rci hk24
        refine V.aload_n (pc := 17) 0 d_RR_mirror_17 rfl rfl ?_
        refine V.getf (pc := 18) 1 cl_RR fl_RR_17_RR d_RR_mirror_18 b0 (Nat.le_of_ble_eq_true rfl) rfl ?_
        refine V.iload_n (pc := 21) 2 d_RR_mirror_21 rfl rfl ?_
        refine V.aald1 (pc := 22) d_RR_mirror_22 b2 (by omega) (by omega) ?_
        rw [hgt]
        refine V.astore (pc := 23) d_RR_mirror_23 (Nat.le_of_ble_eq_true rfl) rfl ?_
        dsimp only [put]
        refine V.aload (pc := 25) d_RR_mirror_25 rfl ?_
        refine V.instY (pc := 27) "RiverRoad$Arches" hC (ins_y (k := kd) (j := 2) (by omega) (by decide) hof) cl_RR_91 d_RR_mirror_27 hob ?_
        refine V.if_eq (tgt := 49) (pc := 30) d_RR_mirror_30 (by decide) (fun c_30 => ?_) (fun c_30 => ?_)
        · skip
          exact absurd c_30 (by decide)
        · skip
          refine V.aload (pc := 33) d_RR_mirror_33 rfl ?_
          refine V.castY (pc := 35) "RiverRoad$Arches" hC (ins_y (k := kd) (j := 2) (by omega) (by decide) hof) cl_RR_91 d_RR_mirror_35 hob ?_
          refine V.astore_n (pc := 38) 3 d_RR_mirror_38 rfl (Nat.le_of_ble_eq_true rfl) rfl ?_
          dsimp only [put]
          refine V.aload_n (pc := 39) 0 d_RR_mirror_39 rfl rfl ?_
          refine V.iload_n (pc := 40) 1 d_RR_mirror_40 rfl rfl ?_
          refine V.aload_n (pc := 41) 3 d_RR_mirror_41 rfl rfl ?_
          refine V.cS1 (pc := 42) (kc2 := 4) (ks2 := 88) ml_RR_133 (cc_RR_mirrored hC a c n s (by omega) (wf_arch hth.1 hof).2.1 (wf_arch hth.1 hof).1 _ hob _) d_RR_mirror_42 (Nat.le_of_ble_eq_true rfl) (Nat.le_of_ble_eq_true rfl) (Nat.le_of_ble_eq_true rfl) (Nat.le_of_ble_eq_true rfl) ?_
          rintro r9 h9 s9 hq9
          obtain ⟨a9, rfl, hs9, hgr, hT⟩ := arT_made (by omega) (mi_sg (wf_arch hth.1 hof).1) hsz hfr (arch_mi (wf_arch hth.1 hof).1 (wf_arch hth.1 hof).2.1) hq9
          dsimp only [Option.toList, List.cons_append, List.nil_append]
          have hI2 := hI.grow hgr
          obtain ⟨gs2, gt2, tr2, en2, fs2, fp2, ⟨c0, -⟩, -⟩ := id hI2
          refine V.cV2 (pc := 45) (kc2 := 4) (ks2 := 88) ml_RR_87 c0 (cc_RR_shelve S _ hI2 _ (by omega) a9 _ _ _ _ hT _) d_RR_mirror_45 (Nat.le_of_ble_eq_true rfl) (Nat.le_of_ble_eq_true rfl) (Nat.le_of_ble_eq_true rfl) (Nat.le_of_ble_eq_true rfl) ?_
          rintro _ h8 s8 ⟨hq1, rfl, hCI⟩
          dsimp only [Option.toList, List.cons_append, List.nil_append]
          refine V.ret (pc := 48) (r := some (vI _)) d_RR_mirror_48 (Or.inl rfl) rfl ?_
          refine qc_of (S2 := sTh S pl.toNat (some (rowKind (mi s n) n, n, mi s n, fun _ => 0))) (by omega) ?_ hCI
          unfold sp_mirror; rw [if_pos (by omega)]; simp only [hS]; rw [if_neg (by omega), if_pos hof]
      · skip
        obtain ⟨hk56, ha37, o9, u9, c, ko, ku, l, hc37, hao, hau, hob, hca, hlf⟩ := hth.la hof5
        have hC := cl_la hk56
        obtain ⟨hko, ho37, co, fo, hco37, hoo, hco, hfo⟩ := id hao
        obtain ⟨hku, hu37, cu, fu, hcu37, huo, hcu, hfu⟩ := id hau
        obtain ⟨hsg1, hsg2, har, hbr⟩ := wf_land hth.1 hof5
        refine V.aload_n (pc := 17) 0 d_RR_mirror_17 rfl rfl ?_
        refine V.getf (pc := 18) 1 cl_RR fl_RR_17_RR d_RR_mirror_18 b0 (Nat.le_of_ble_eq_true rfl) rfl ?_
        refine V.iload_n (pc := 21) 2 d_RR_mirror_21 rfl rfl ?_
        refine V.aald1 (pc := 22) d_RR_mirror_22 b2 (by omega) (by omega) ?_
        rw [hgt]
        refine V.astore (pc := 23) d_RR_mirror_23 (Nat.le_of_ble_eq_true rfl) rfl ?_
        dsimp only [put]
        refine V.aload (pc := 25) d_RR_mirror_25 rfl ?_
        refine V.instNo (pc := 27) "RiverRoad$Arches" hC (ins_n (k := kd) (j := 2) (by omega) (by decide) hof) cl_RR_91 d_RR_mirror_27 hob ?_
        refine V.if_eq (tgt := 49) (pc := 30) d_RR_mirror_30 (by decide) (fun c_30 => ?_) (fun c_30 => ?_)
        · skip
          refine V.aload_n (pc := 49) 0 d_RR_mirror_49 rfl rfl ?_
          refine V.getf (pc := 50) 1 cl_RR fl_RR_17_RR d_RR_mirror_50 b0 (Nat.le_of_ble_eq_true rfl) rfl ?_
          refine V.iload_n (pc := 53) 2 d_RR_mirror_53 rfl rfl ?_
          refine V.aald1 (pc := 54) d_RR_mirror_54 b2 (by omega) (by omega) ?_
          rw [hgt]
          refine V.astore (pc := 55) d_RR_mirror_55 (Nat.le_of_ble_eq_true rfl) rfl ?_
          dsimp only [put]
          refine V.aload (pc := 57) d_RR_mirror_57 rfl ?_
          refine V.instY (pc := 59) "RiverRoad$Land" hC (ins_y (k := kd) (j := 5) (by omega) (by decide) hof5) cl_RR_137 d_RR_mirror_59 hob ?_
          refine V.if_eq (tgt := 94) (pc := 62) d_RR_mirror_62 (by decide) (fun c_62 => ?_) (fun c_62 => ?_)
          · skip
            exact absurd c_62 (by decide)
          · skip
            refine V.aload (pc := 65) d_RR_mirror_65 rfl ?_
            refine V.castY (pc := 67) "RiverRoad$Land" hC (ins_y (k := kd) (j := 5) (by omega) (by decide) hof5) cl_RR_137 d_RR_mirror_67 hob ?_
            refine V.astore_n (pc := 70) 3 d_RR_mirror_70 rfl (Nat.le_of_ble_eq_true rfl) rfl ?_
            dsimp only [put]
            refine V.aload_n (pc := 71) 0 d_RR_mirror_71 rfl rfl ?_
            refine V.iload_n (pc := 72) 1 d_RR_mirror_72 rfl rfl ?_
            refine V.aload_n (pc := 73) 3 d_RR_mirror_73 rfl rfl ?_
            refine V.getf (pc := 74) 1 hC fl_RR_139_La d_RR_mirror_74 hob (Nat.le_of_ble_eq_true rfl) rfl ?_
            refine V.cS1 (pc := 77) (kc2 := 4) (ks2 := 88) ml_RR_133 (cc_RR_mirrored (cl_rci hao.1) o9 _ n s (by omega) har hsg1 _ hoo _) d_RR_mirror_77 (Nat.le_of_ble_eq_true rfl) (Nat.le_of_ble_eq_true rfl) (Nat.le_of_ble_eq_true rfl) (Nat.le_of_ble_eq_true rfl) ?_
            rintro r9 ho2 so hq9
            obtain ⟨rfl, soE, hgo, hAo⟩ := ar_made hsz hfr (arch_mi hsg1 har) hq9
            dsimp only [Option.toList, List.cons_append, List.nil_append]
            refine V.fresh (fun hfrso => ?_)
            refine V.aload_n (pc := 80) 3 d_RR_mirror_80 rfl rfl ?_
            refine V.getf (pc := 81) 2 hC fl_RR_143_La d_RR_mirror_81 (hgo.1 _ _ hob) (Nat.le_of_ble_eq_true rfl) rfl ?_
            refine V.cS1 (pc := 84) (kc2 := 2) (ks2 := 45) ml_RR_133 (cc_RR_mirrored (cl_rci hau.1) u9 _ n sb (by omega) hbr hsg2 _ (hgo.1 _ _ huo) _) d_RR_mirror_84 (Nat.le_of_ble_eq_true rfl) (Nat.le_of_ble_eq_true rfl) (Nat.le_of_ble_eq_true rfl) (Nat.le_of_ble_eq_true rfl) ?_
            rintro r9 hu2 su hq9
            obtain ⟨rfl, suE, hgu, hAu⟩ := ar_made (by omega) hfrso (arch_mi hsg2 hbr) hq9
            dsimp only [Option.toList, List.cons_append, List.nil_append]
            refine V.fresh (fun hfrsu => ?_)
            obtain ⟨pO1, pO2, cO, fO, pO3, pOo, pOc, pOf⟩ := id hAo
            obtain ⟨pU1, pU2, cU, fU, pU3, pUo, pUc, pUf⟩ := id hAu
            refine V.cS2 (pc := 87) (kc2 := 0) (ks2 := 0) ml_RR_99 (cc_RR_landOf (cl_rci hAo.1) (cl_rci hAu.1) _ _ _ _ n (mi s n) (mi sb n) (by omega) (arch_mi hsg1 har) (arch_mi hsg2 hbr) _ _ _ (hgu.1 _ _ pOo) pUo (hgu.1 _ _ pOc) pUc pOf pUf _) d_RR_mirror_87 (Nat.le_of_ble_eq_true rfl) (Nat.le_of_ble_eq_true rfl) (Nat.le_of_ble_eq_true rfl) (Nat.le_of_ble_eq_true rfl) ?_
            rintro r9 h9 s9 hq9
            obtain ⟨a9, rfl, hs9, hgl, hT⟩ := la_made (by omega) (mi_sg hsg1) (mi_sg hsg2) (arch_mi hsg1 har) (arch_mi hsg2 hbr) (by omega) hfrsu (hAo.ex hgu.ex) hAu hq9
            dsimp only [Option.toList, List.cons_append, List.nil_append]
            have hI2 := ((hI.grow hgo).grow hgu).grow hgl
            obtain ⟨gs2, gt2, tr2, en2, fs2, fp2, ⟨c0, -⟩, -⟩ := id hI2
            refine V.cV2 (pc := 90) (kc2 := 0) (ks2 := 0) ml_RR_87 c0 (cc_RR_shelve S _ hI2 _ (by omega) a9 _ _ _ _ hT _) d_RR_mirror_90 (Nat.le_of_ble_eq_true rfl) (Nat.le_of_ble_eq_true rfl) (Nat.le_of_ble_eq_true rfl) (Nat.le_of_ble_eq_true rfl) ?_
            rintro _ h8 s8 ⟨hq1, rfl, hCI⟩
            dsimp only [Option.toList, List.cons_append, List.nil_append]
            refine V.ret (pc := 93) (r := some (vI _)) d_RR_mirror_93 (Or.inl rfl) rfl ?_
            refine qc_of (S2 := sTh S pl.toNat (some (landK (mi s n) (mi sb n) n, n, mi s n, mi sb n))) (by omega) ?_ hCI
            unfold sp_mirror; rw [if_pos (by omega)]; simp only [hS]; rw [if_pos hof5]
        · skip
          exact absurd rfl c_30
      · skip
        obtain ⟨ha37, ci, N, T, ty, fs9, hC, hob⟩ := hth.ob
        refine V.aload_n (pc := 17) 0 d_RR_mirror_17 rfl rfl ?_
        refine V.getf (pc := 18) 1 cl_RR fl_RR_17_RR d_RR_mirror_18 b0 (Nat.le_of_ble_eq_true rfl) rfl ?_
        refine V.iload_n (pc := 21) 2 d_RR_mirror_21 rfl rfl ?_
        refine V.aald1 (pc := 22) d_RR_mirror_22 b2 (by omega) (by omega) ?_
        rw [hgt]
        refine V.astore (pc := 23) d_RR_mirror_23 (Nat.le_of_ble_eq_true rfl) rfl ?_
        dsimp only [put]
        refine V.aload (pc := 25) d_RR_mirror_25 rfl ?_
        refine V.instNo (pc := 27) "RiverRoad$Arches" hC (ins_n (k := kd) (j := 2) (by omega) (by decide) hof) cl_RR_91 d_RR_mirror_27 hob ?_
        refine V.if_eq (tgt := 49) (pc := 30) d_RR_mirror_30 (by decide) (fun c_30 => ?_) (fun c_30 => ?_)
        · skip
          refine V.aload_n (pc := 49) 0 d_RR_mirror_49 rfl rfl ?_
          refine V.getf (pc := 50) 1 cl_RR fl_RR_17_RR d_RR_mirror_50 b0 (Nat.le_of_ble_eq_true rfl) rfl ?_
          refine V.iload_n (pc := 53) 2 d_RR_mirror_53 rfl rfl ?_
          refine V.aald1 (pc := 54) d_RR_mirror_54 b2 (by omega) (by omega) ?_
          rw [hgt]
          refine V.astore (pc := 55) d_RR_mirror_55 (Nat.le_of_ble_eq_true rfl) rfl ?_
          dsimp only [put]
          refine V.aload (pc := 57) d_RR_mirror_57 rfl ?_
          refine V.instNo (pc := 59) "RiverRoad$Land" hC (ins_n (k := kd) (j := 5) (by omega) (by decide) hof5) cl_RR_137 d_RR_mirror_59 hob ?_
          refine V.if_eq (tgt := 94) (pc := 62) d_RR_mirror_62 (by decide) (fun c_62 => ?_) (fun c_62 => ?_)
          · skip
            refine V.aload_n (pc := 94) 0 d_RR_mirror_94 rfl rfl ?_
            refine V.iload_n (pc := 95) 2 d_RR_mirror_95 rfl rfl ?_
            refine V.cV1 (pc := 96) (kc2 := 6) (ks2 := 131) ml_RR_93 b0 (cc_RR_notThatK _ _ (by omega) _ _ _ b0 b2 hgt _) d_RR_mirror_96 (Nat.le_of_ble_eq_true rfl) (Nat.le_of_ble_eq_true rfl) (Nat.le_of_ble_eq_true rfl) (Nat.le_of_ble_eq_true rfl) ?_
            rintro _ h9 s9 ⟨rfl, hq2, hq3⟩
            rw [hq2, hq3]
            clear hq2 hq3 h9 s9
            dsimp only [Option.toList, List.cons_append, List.nil_append]
            refine V.ret (pc := 99) (r := some (vI _)) d_RR_mirror_99 (Or.inl rfl) rfl ?_
            refine qc_of (S2 := sSt S 3) (Nat.le_refl _) ?_ (hI.st 3)
            unfold sp_mirror; rw [if_pos (by omega)]; simp only [hS]; rw [if_neg hof5, if_neg hof]
          · skip
            exact absurd rfl c_62
        · skip
          exact absurd rfl c_30
      · skip
        refine V.aload_n (pc := 17) 0 d_RR_mirror_17 rfl rfl ?_
        refine V.getf (pc := 18) 1 cl_RR fl_RR_17_RR d_RR_mirror_18 b0 (Nat.le_of_ble_eq_true rfl) rfl ?_
        refine V.iload_n (pc := 21) 2 d_RR_mirror_21 rfl rfl ?_
        refine V.aald1 (pc := 22) d_RR_mirror_22 b2 (by omega) (by omega) ?_
        rw [hgt]
        refine V.astore (pc := 23) d_RR_mirror_23 (Nat.le_of_ble_eq_true rfl) rfl ?_
        dsimp only [put]
        refine V.aload (pc := 25) d_RR_mirror_25 rfl ?_
        refine V.instN (pc := 27) d_RR_mirror_27 ?_
        refine V.if_eq (tgt := 49) (pc := 30) d_RR_mirror_30 (by decide) (fun c_30 => ?_) (fun c_30 => ?_)
        · skip
          refine V.aload_n (pc := 49) 0 d_RR_mirror_49 rfl rfl ?_
          refine V.getf (pc := 50) 1 cl_RR fl_RR_17_RR d_RR_mirror_50 b0 (Nat.le_of_ble_eq_true rfl) rfl ?_
          refine V.iload_n (pc := 53) 2 d_RR_mirror_53 rfl rfl ?_
          refine V.aald1 (pc := 54) d_RR_mirror_54 b2 (by omega) (by omega) ?_
          rw [hgt]
          refine V.astore (pc := 55) d_RR_mirror_55 (Nat.le_of_ble_eq_true rfl) rfl ?_
          dsimp only [put]
          refine V.aload (pc := 57) d_RR_mirror_57 rfl ?_
          refine V.instN (pc := 59) d_RR_mirror_59 ?_
          refine V.if_eq (tgt := 94) (pc := 62) d_RR_mirror_62 (by decide) (fun c_62 => ?_) (fun c_62 => ?_)
          · skip
            refine V.aload_n (pc := 94) 0 d_RR_mirror_94 rfl rfl ?_
            refine V.iload_n (pc := 95) 2 d_RR_mirror_95 rfl rfl ?_
            refine V.cV1 (pc := 96) (kc2 := 6) (ks2 := 131) ml_RR_93 b0 (cc_RR_notThatN _ _ (by omega) _ _ b0 b2 hgt _) d_RR_mirror_96 (Nat.le_of_ble_eq_true rfl) (Nat.le_of_ble_eq_true rfl) (Nat.le_of_ble_eq_true rfl) (Nat.le_of_ble_eq_true rfl) ?_
            rintro _ h9 s9 ⟨rfl, hq2, hq3⟩
            rw [hq2, hq3]
            clear hq2 hq3 h9 s9
            dsimp only [Option.toList, List.cons_append, List.nil_append]
            refine V.ret (pc := 99) (r := some (vI _)) d_RR_mirror_99 (Or.inl rfl) rfl ?_
            refine qc_of (S2 := sSt S 1) (Nat.le_refl _) ?_ (hI.st 1)
            unfold sp_mirror; rw [if_pos (by omega)]; simp only [hS]
          · skip
            exact absurd rfl c_62
        · skip
          exact absurd rfl c_30
    · skip
      refine V.ldc (pc := 14) (-1000001) ck_RR_50 rfl ⟨by decide, by decide⟩ d_RR_mirror_14 ?_
      refine V.ret (pc := 16) (r := some (vI _)) d_RR_mirror_16 (Or.inl rfl) rfl ?_
      exact qc_of (Nat.le_refl _) (by unfold sp_mirror; rw [if_neg (by omega)]) hI
set_option maxRecDepth 20000 in
theorem cs_RR_land (S : SS) (h : MH) (hI : CI S h) (pl p q : Int) (sz : Nat) (hsz : 37 ≤ sz) : Ct M_RR_land 6 2 45 [vR 0, vI pl, vI p, vI q] h sz (QCI (sp_land S pl p q) sz) := by
  refine Ct.of rfl (Nat.le_of_ble_eq_true rfl) ?_
  dsimp only [lsOf]
  obtain ⟨gs, gt, tr, en, fs, fp, hB, hcc⟩ := id hI
  obtain ⟨b0, b1, b2, b3, b4, b5, b6, b7⟩ := id hB
  refine V.fresh (fun hfr => ?_)
  refine V.iload_n (pc := 0) 1 d_RR_land_0 rfl rfl ?_
  refine V.cS1 (pc := 1) (kc2 := 2) (ks2 := 45) ml_RR_80 (cc_RR_isPlace _ _ _) d_RR_land_1 (Nat.le_of_ble_eq_true rfl) (Nat.le_of_ble_eq_true rfl) (Nat.le_of_ble_eq_true rfl) (Nat.le_of_ble_eq_true rfl) ?_
  rintro _ h9 s9 ⟨rfl, hq2, hq3⟩
  rw [hq2, hq3]
  clear hq2 hq3 h9 s9
  dsimp only [Option.toList, List.cons_append, List.nil_append]
  refine V.ifB_eq (tgt := 21) (pc := 4) d_RR_land_4 (by decide) (fun c_4 => ?_) (fun c_4 => ?_)
  · skip
    refine V.ldc (pc := 21) (-1000001) ck_RR_50 rfl ⟨by decide, by decide⟩ d_RR_land_21 ?_
    refine V.ret (pc := 23) (r := some (vI _)) d_RR_land_23 (Or.inl rfl) rfl ?_
    exact qc_of (Nat.le_refl _) (by unfold sp_land; rw [if_neg (by omega)]) hI
  · skip
    refine V.iload_n (pc := 7) 2 d_RR_land_7 rfl rfl ?_
    refine V.cS1 (pc := 8) (kc2 := 2) (ks2 := 45) ml_RR_80 (cc_RR_isPlace _ _ _) d_RR_land_8 (Nat.le_of_ble_eq_true rfl) (Nat.le_of_ble_eq_true rfl) (Nat.le_of_ble_eq_true rfl) (Nat.le_of_ble_eq_true rfl) ?_
    rintro _ h9 s9 ⟨rfl, hq2, hq3⟩
    rw [hq2, hq3]
    clear hq2 hq3 h9 s9
    dsimp only [Option.toList, List.cons_append, List.nil_append]
    refine V.ifB_eq (tgt := 21) (pc := 11) d_RR_land_11 (by decide) (fun c_11 => ?_) (fun c_11 => ?_)
    · skip
      refine V.ldc (pc := 21) (-1000001) ck_RR_50 rfl ⟨by decide, by decide⟩ d_RR_land_21 ?_
      refine V.ret (pc := 23) (r := some (vI _)) d_RR_land_23 (Or.inl rfl) rfl ?_
      exact qc_of (Nat.le_refl _) (by unfold sp_land; rw [if_neg (by omega)]) hI
    · skip
      refine V.iload_n (pc := 14) 3 d_RR_land_14 rfl rfl ?_
      refine V.cS1 (pc := 15) (kc2 := 2) (ks2 := 45) ml_RR_80 (cc_RR_isPlace _ _ _) d_RR_land_15 (Nat.le_of_ble_eq_true rfl) (Nat.le_of_ble_eq_true rfl) (Nat.le_of_ble_eq_true rfl) (Nat.le_of_ble_eq_true rfl) ?_
      rintro _ h9 s9 ⟨rfl, hq2, hq3⟩
      rw [hq2, hq3]
      clear hq2 hq3 h9 s9
      dsimp only [Option.toList, List.cons_append, List.nil_append]
      refine V.ifB_ne (tgt := 24) (pc := 18) d_RR_land_18 (by decide) (fun c_18 => ?_) (fun c_18 => ?_)
      · skip
        rcases cth_cases (hcc.2.2.2.2 p.toNat (by omega)) with ⟨hS, hgt⟩ | ⟨kd, n, s, sb, a, hS, hgt, hth⟩
        rotate_left
        have hwk := wf_kind hth.1
        by_cases hof : isOf kd 2
        · skip
          obtain ⟨hk24, ha37, c, f, hc37, hob, hca, hpf⟩ := hth.ar hof
          have hC := cl_rci hk24
          refine V.aload_n (pc := 24) 0 d_RR_land_24 rfl rfl ?_
          refine V.getf (pc := 25) 1 cl_RR fl_RR_17_RR d_RR_land_25 b0 (Nat.le_of_ble_eq_true rfl) rfl ?_
          refine V.iload_n (pc := 28) 2 d_RR_land_28 rfl rfl ?_
          refine V.aald1 (pc := 29) d_RR_land_29 b2 (by omega) (by omega) ?_
          rw [hgt]
          refine V.astore (pc := 30) d_RR_land_30 (Nat.le_of_ble_eq_true rfl) rfl ?_
          dsimp only [put]
          refine V.aload (pc := 32) d_RR_land_32 rfl ?_
          refine V.instY (pc := 34) "RiverRoad$Arches" hC (ins_y (k := kd) (j := 2) (by omega) (by decide) hof) cl_RR_91 d_RR_land_34 hob ?_
          refine V.if_eq (tgt := 50) (pc := 37) d_RR_land_37 (by decide) (fun c_37 => ?_) (fun c_37 => ?_)
          · skip
            exact absurd c_37 (by decide)
          · skip
            refine V.aload (pc := 40) d_RR_land_40 rfl ?_
            refine V.castY (pc := 42) "RiverRoad$Arches" hC (ins_y (k := kd) (j := 2) (by omega) (by decide) hof) cl_RR_91 d_RR_land_42 hob ?_
            refine V.astore (pc := 45) d_RR_land_45 (Nat.le_of_ble_eq_true rfl) rfl ?_
            dsimp only [put]
            refine V.goto (tgt := 56) (pc := 47) d_RR_land_47 (by decide) ?_
            rcases cth_cases (hcc.2.2.2.2 q.toNat (by omega)) with ⟨hS2, hgt2⟩ | ⟨kd2, n2, s2, sb2, a2, hS2, hgt2, hth2⟩
            rotate_left
            have hwk2 := wf_kind hth2.1
            by_cases hof2 : isOf kd2 2
            · skip
              obtain ⟨hk242, ha372, c2, f2, hc372, hob2, hca2, hpf2⟩ := hth2.ar hof2
              have hC2 := cl_rci hk242
              refine V.aload_n (pc := 56) 0 d_RR_land_56 rfl rfl ?_
              refine V.getf (pc := 57) 1 cl_RR fl_RR_17_RR d_RR_land_57 b0 (Nat.le_of_ble_eq_true rfl) rfl ?_
              refine V.iload_n (pc := 60) 3 d_RR_land_60 rfl rfl ?_
              refine V.aald1 (pc := 61) d_RR_land_61 b2 (by omega) (by omega) ?_
              rw [hgt2]
              refine V.astore (pc := 62) d_RR_land_62 (Nat.le_of_ble_eq_true rfl) rfl ?_
              dsimp only [put]
              refine V.aload (pc := 64) d_RR_land_64 rfl ?_
              refine V.instY (pc := 66) "RiverRoad$Arches" hC2 (ins_y (k := kd2) (j := 2) (by omega) (by decide) hof2) cl_RR_91 d_RR_land_66 hob2 ?_
              refine V.if_eq (tgt := 82) (pc := 69) d_RR_land_69 (by decide) (fun c_69 => ?_) (fun c_69 => ?_)
              · skip
                exact absurd c_69 (by decide)
              · skip
                refine V.aload (pc := 72) d_RR_land_72 rfl ?_
                refine V.castY (pc := 74) "RiverRoad$Arches" hC2 (ins_y (k := kd2) (j := 2) (by omega) (by decide) hof2) cl_RR_91 d_RR_land_74 hob2 ?_
                refine V.astore (pc := 77) d_RR_land_77 (Nat.le_of_ble_eq_true rfl) rfl ?_
                dsimp only [put]
                refine V.goto (tgt := 88) (pc := 79) d_RR_land_79 (by decide) ?_
                refine V.aload (pc := 88) d_RR_land_88 rfl ?_
                refine V.getf (pc := 90) 0 hC fl_RR_96_Ar d_RR_land_90 hob (Nat.le_of_ble_eq_true rfl) rfl ?_
                refine V.aload (pc := 93) d_RR_land_93 rfl ?_
                refine V.getf (pc := 95) 0 hC2 fl_RR_96_Ar d_RR_land_95 hob2 (Nat.le_of_ble_eq_true rfl) rfl ?_
                refine V.icmp_eq (tgt := 104) (pc := 98) d_RR_land_98 (by decide) (fun c_98 => ?_) (fun c_98 => ?_)
                · skip
                  have e98 : n2 = n := by omega
                  subst e98
                  refine V.aload_n (pc := 104) 0 d_RR_land_104 rfl rfl ?_
                  refine V.iload_n (pc := 105) 1 d_RR_land_105 rfl rfl ?_
                  refine V.aload (pc := 106) d_RR_land_106 rfl ?_
                  refine V.aload (pc := 108) d_RR_land_108 rfl ?_
                  refine V.cS2 (pc := 110) (kc2 := 0) (ks2 := 0) ml_RR_99 (cc_RR_landOf hC hC2 a a2 c c2 n2 s s2 (by omega) (wf_arch hth.1 hof).2.1 (wf_arch hth2.1 hof2).2.1 f f2 _ hob hob2 hca hca2 hpf hpf2 _) d_RR_land_110 (Nat.le_of_ble_eq_true rfl) (Nat.le_of_ble_eq_true rfl) (Nat.le_of_ble_eq_true rfl) (Nat.le_of_ble_eq_true rfl) ?_
                  rintro r9 h9 s9 hq9
                  obtain ⟨a9, rfl, hs9, hgr, hT⟩ := la_made (by omega) (wf_arch hth.1 hof).1 (wf_arch hth2.1 hof2).1 (wf_arch hth.1 hof).2.1 (wf_arch hth2.1 hof2).2.1 hsz hfr (hth.ar hof) (hth2.ar hof2) hq9
                  dsimp only [Option.toList, List.cons_append, List.nil_append]
                  have hI2 := hI.grow hgr
                  obtain ⟨gs2, gt2, tr2, en2, fs2, fp2, ⟨c0, -⟩, -⟩ := id hI2
                  refine V.cV2 (pc := 113) (kc2 := 0) (ks2 := 0) ml_RR_87 c0 (cc_RR_shelve S _ hI2 _ (by omega) a9 _ _ _ _ hT _) d_RR_land_113 (Nat.le_of_ble_eq_true rfl) (Nat.le_of_ble_eq_true rfl) (Nat.le_of_ble_eq_true rfl) (Nat.le_of_ble_eq_true rfl) ?_
                  rintro _ h8 s8 ⟨hq1, rfl, hCI⟩
                  dsimp only [Option.toList, List.cons_append, List.nil_append]
                  refine V.ret (pc := 116) (r := some (vI _)) d_RR_land_116 (Or.inl rfl) rfl ?_
                  refine qc_of (S2 := sTh S pl.toNat (some (landK s s2 n2, n2, s, s2))) (by omega) ?_ hCI
                  unfold sp_land; rw [if_pos (by omega)]; simp only [hS, hS2]; rw [if_pos hof, if_pos hof2, if_pos trivial]
                · skip
                  refine V.ldc (pc := 101) (-1000001) ck_RR_50 rfl ⟨by decide, by decide⟩ d_RR_land_101 ?_
                  refine V.ret (pc := 103) (r := some (vI _)) d_RR_land_103 (Or.inl rfl) rfl ?_
                  refine qc_of (S2 := S) (Nat.le_refl _) ?_ hI
                  unfold sp_land; rw [if_pos (by omega)]; simp only [hS, hS2]; rw [if_pos hof, if_pos hof2, if_neg (by omega)]
            · skip
              obtain ⟨ha372, ci2, N2, T2, ty2, fs92, hC2, hob2⟩ := hth2.ob
              refine V.aload_n (pc := 56) 0 d_RR_land_56 rfl rfl ?_
              refine V.getf (pc := 57) 1 cl_RR fl_RR_17_RR d_RR_land_57 b0 (Nat.le_of_ble_eq_true rfl) rfl ?_
              refine V.iload_n (pc := 60) 3 d_RR_land_60 rfl rfl ?_
              refine V.aald1 (pc := 61) d_RR_land_61 b2 (by omega) (by omega) ?_
              rw [hgt2]
              refine V.astore (pc := 62) d_RR_land_62 (Nat.le_of_ble_eq_true rfl) rfl ?_
              dsimp only [put]
              refine V.aload (pc := 64) d_RR_land_64 rfl ?_
              refine V.instNo (pc := 66) "RiverRoad$Arches" hC2 (ins_n (k := kd2) (j := 2) (by omega) (by decide) hof2) cl_RR_91 d_RR_land_66 hob2 ?_
              refine V.if_eq (tgt := 82) (pc := 69) d_RR_land_69 (by decide) (fun c_69 => ?_) (fun c_69 => ?_)
              · skip
                refine V.aload_n (pc := 82) 0 d_RR_land_82 rfl rfl ?_
                refine V.iload_n (pc := 83) 3 d_RR_land_83 rfl rfl ?_
                refine V.cV1 (pc := 84) (kc2 := 2) (ks2 := 45) ml_RR_93 b0 (cc_RR_notThatK _ _ (by omega) _ _ _ b0 b2 hgt2 _) d_RR_land_84 (Nat.le_of_ble_eq_true rfl) (Nat.le_of_ble_eq_true rfl) (Nat.le_of_ble_eq_true rfl) (Nat.le_of_ble_eq_true rfl) ?_
                rintro _ h9 s9 ⟨rfl, hq2, hq3⟩
                rw [hq2, hq3]
                clear hq2 hq3 h9 s9
                dsimp only [Option.toList, List.cons_append, List.nil_append]
                refine V.ret (pc := 87) (r := some (vI _)) d_RR_land_87 (Or.inl rfl) rfl ?_
                refine qc_of (S2 := sSt S 3) (Nat.le_refl _) ?_ (hI.st 3)
                unfold sp_land; rw [if_pos (by omega)]; simp only [hS, hS2]; rw [if_pos hof, if_neg hof2]
              · skip
                exact absurd rfl c_69
            · skip
              refine V.aload_n (pc := 56) 0 d_RR_land_56 rfl rfl ?_
              refine V.getf (pc := 57) 1 cl_RR fl_RR_17_RR d_RR_land_57 b0 (Nat.le_of_ble_eq_true rfl) rfl ?_
              refine V.iload_n (pc := 60) 3 d_RR_land_60 rfl rfl ?_
              refine V.aald1 (pc := 61) d_RR_land_61 b2 (by omega) (by omega) ?_
              rw [hgt2]
              refine V.astore (pc := 62) d_RR_land_62 (Nat.le_of_ble_eq_true rfl) rfl ?_
              dsimp only [put]
              refine V.aload (pc := 64) d_RR_land_64 rfl ?_
              refine V.instN (pc := 66) d_RR_land_66 ?_
              refine V.if_eq (tgt := 82) (pc := 69) d_RR_land_69 (by decide) (fun c_69 => ?_) (fun c_69 => ?_)
              · skip
                refine V.aload_n (pc := 82) 0 d_RR_land_82 rfl rfl ?_
                refine V.iload_n (pc := 83) 3 d_RR_land_83 rfl rfl ?_
                refine V.cV1 (pc := 84) (kc2 := 2) (ks2 := 45) ml_RR_93 b0 (cc_RR_notThatN _ _ (by omega) _ _ b0 b2 hgt2 _) d_RR_land_84 (Nat.le_of_ble_eq_true rfl) (Nat.le_of_ble_eq_true rfl) (Nat.le_of_ble_eq_true rfl) (Nat.le_of_ble_eq_true rfl) ?_
                rintro _ h9 s9 ⟨rfl, hq2, hq3⟩
                rw [hq2, hq3]
                clear hq2 hq3 h9 s9
                dsimp only [Option.toList, List.cons_append, List.nil_append]
                refine V.ret (pc := 87) (r := some (vI _)) d_RR_land_87 (Or.inl rfl) rfl ?_
                refine qc_of (S2 := sSt S 1) (Nat.le_refl _) ?_ (hI.st 1)
                unfold sp_land; rw [if_pos (by omega)]; simp only [hS, hS2]; rw [if_pos hof]
              · skip
                exact absurd rfl c_69
        · skip
          obtain ⟨ha37, ci, N, T, ty, fs9, hC, hob⟩ := hth.ob
          refine V.aload_n (pc := 24) 0 d_RR_land_24 rfl rfl ?_
          refine V.getf (pc := 25) 1 cl_RR fl_RR_17_RR d_RR_land_25 b0 (Nat.le_of_ble_eq_true rfl) rfl ?_
          refine V.iload_n (pc := 28) 2 d_RR_land_28 rfl rfl ?_
          refine V.aald1 (pc := 29) d_RR_land_29 b2 (by omega) (by omega) ?_
          rw [hgt]
          refine V.astore (pc := 30) d_RR_land_30 (Nat.le_of_ble_eq_true rfl) rfl ?_
          dsimp only [put]
          refine V.aload (pc := 32) d_RR_land_32 rfl ?_
          refine V.instNo (pc := 34) "RiverRoad$Arches" hC (ins_n (k := kd) (j := 2) (by omega) (by decide) hof) cl_RR_91 d_RR_land_34 hob ?_
          refine V.if_eq (tgt := 50) (pc := 37) d_RR_land_37 (by decide) (fun c_37 => ?_) (fun c_37 => ?_)
          · skip
            refine V.aload_n (pc := 50) 0 d_RR_land_50 rfl rfl ?_
            refine V.iload_n (pc := 51) 2 d_RR_land_51 rfl rfl ?_
            refine V.cV1 (pc := 52) (kc2 := 2) (ks2 := 45) ml_RR_93 b0 (cc_RR_notThatK _ _ (by omega) _ _ _ b0 b2 hgt _) d_RR_land_52 (Nat.le_of_ble_eq_true rfl) (Nat.le_of_ble_eq_true rfl) (Nat.le_of_ble_eq_true rfl) (Nat.le_of_ble_eq_true rfl) ?_
            rintro _ h9 s9 ⟨rfl, hq2, hq3⟩
            rw [hq2, hq3]
            clear hq2 hq3 h9 s9
            dsimp only [Option.toList, List.cons_append, List.nil_append]
            refine V.ret (pc := 55) (r := some (vI _)) d_RR_land_55 (Or.inl rfl) rfl ?_
            refine qc_of (S2 := sSt S 3) (Nat.le_refl _) ?_ (hI.st 3)
            unfold sp_land; rw [if_pos (by omega)]; simp only [hS]; rw [if_neg hof]
          · skip
            exact absurd rfl c_37
        · skip
          refine V.aload_n (pc := 24) 0 d_RR_land_24 rfl rfl ?_
          refine V.getf (pc := 25) 1 cl_RR fl_RR_17_RR d_RR_land_25 b0 (Nat.le_of_ble_eq_true rfl) rfl ?_
          refine V.iload_n (pc := 28) 2 d_RR_land_28 rfl rfl ?_
          refine V.aald1 (pc := 29) d_RR_land_29 b2 (by omega) (by omega) ?_
          rw [hgt]
          refine V.astore (pc := 30) d_RR_land_30 (Nat.le_of_ble_eq_true rfl) rfl ?_
          dsimp only [put]
          refine V.aload (pc := 32) d_RR_land_32 rfl ?_
          refine V.instN (pc := 34) d_RR_land_34 ?_
          refine V.if_eq (tgt := 50) (pc := 37) d_RR_land_37 (by decide) (fun c_37 => ?_) (fun c_37 => ?_)
          · skip
            refine V.aload_n (pc := 50) 0 d_RR_land_50 rfl rfl ?_
            refine V.iload_n (pc := 51) 2 d_RR_land_51 rfl rfl ?_
            refine V.cV1 (pc := 52) (kc2 := 2) (ks2 := 45) ml_RR_93 b0 (cc_RR_notThatN _ _ (by omega) _ _ b0 b2 hgt _) d_RR_land_52 (Nat.le_of_ble_eq_true rfl) (Nat.le_of_ble_eq_true rfl) (Nat.le_of_ble_eq_true rfl) (Nat.le_of_ble_eq_true rfl) ?_
            rintro _ h9 s9 ⟨rfl, hq2, hq3⟩
            rw [hq2, hq3]
            clear hq2 hq3 h9 s9
            dsimp only [Option.toList, List.cons_append, List.nil_append]
            refine V.ret (pc := 55) (r := some (vI _)) d_RR_land_55 (Or.inl rfl) rfl ?_
            refine qc_of (S2 := sSt S 1) (Nat.le_refl _) ?_ (hI.st 1)
            unfold sp_land; rw [if_pos (by omega)]; simp only [hS]
          · skip
            exact absurd rfl c_37
      · skip
        refine V.ldc (pc := 21) (-1000001) ck_RR_50 rfl ⟨by decide, by decide⟩ d_RR_land_21 ?_
        refine V.ret (pc := 23) (r := some (vI _)) d_RR_land_23 (Or.inl rfl) rfl ?_
        exact qc_of (Nat.le_refl _) (by unfold sp_land; rw [if_neg (by omega)]) hI
