/-! THE CLASS: copy, count, way, printed by wip/whole/gen/cls12.py -/
set_option maxRecDepth 20000 in
theorem cs_RR_copy (S : SS) (h : MH) (hI : CI S h) (x i y j n : Int) (sz : Nat) (hsz : 37 ≤ sz) : Ct M_RR_copy 2 0 0 [vR 0, vI x, vI i, vI y, vI j, vI n] h sz (QCI (sp_copy S x i y j n) sz) := by
  refine Ct.of rfl (Nat.le_of_ble_eq_true rfl) ?_
  dsimp only [lsOf]
  obtain ⟨gs, gt, tr, en, fs, fp, hB, hcc⟩ := id hI
  obtain ⟨b0, b1, b2, b3, b4, b5, b6, b7⟩ := id hB
  refine V.iload_n (pc := 0) 1 d_RR_copy_0 rfl rfl ?_
  refine V.cS1 (pc := 1) (kc2 := 0) (ks2 := 0) ml_RR_46 (cc_RR_isSheet _ _ _) d_RR_copy_1 (Nat.le_of_ble_eq_true rfl) (Nat.le_of_ble_eq_true rfl) (Nat.le_of_ble_eq_true rfl) (Nat.le_of_ble_eq_true rfl) ?_
  rintro _ _ _ ⟨rfl, rfl, rfl⟩
  dsimp only [Option.toList, List.cons_append, List.nil_append]
  refine V.ifB_eq (tgt := 14) (pc := 4) d_RR_copy_4 (by decide) (fun c_4 => ?_) (fun c_4 => ?_)
  · skip
    refine V.ldc (pc := 14) (-1000001) ck_RR_50 rfl ⟨by decide, by decide⟩ d_RR_copy_14 ?_
    refine V.ret (pc := 16) (r := some (vI _)) d_RR_copy_16 (Or.inl rfl) rfl ?_
    exact qc_of (Nat.le_refl _) (by unfold sp_copy; rw [if_neg (by omega)]) hI
  · skip
    refine V.iload_n (pc := 7) 3 d_RR_copy_7 rfl rfl ?_
    refine V.cS1 (pc := 8) (kc2 := 0) (ks2 := 0) ml_RR_46 (cc_RR_isSheet _ _ _) d_RR_copy_8 (Nat.le_of_ble_eq_true rfl) (Nat.le_of_ble_eq_true rfl) (Nat.le_of_ble_eq_true rfl) (Nat.le_of_ble_eq_true rfl) ?_
    rintro _ _ _ ⟨rfl, rfl, rfl⟩
    dsimp only [Option.toList, List.cons_append, List.nil_append]
    refine V.ifB_ne (tgt := 17) (pc := 11) d_RR_copy_11 (by decide) (fun c_11 => ?_) (fun c_11 => ?_)
    · skip
      rcases csh_cases (hcc.2.2.2.1 x.toNat (by omega)) with ⟨hS1, hgt1⟩ | ⟨l1, m1, g1, a1, bi1, f1, hS1, hgt1, ha1, hb1, hoa1, hob1, hfg1, hl11, hl21, hm1⟩
      rotate_left
      all_goals rcases csh_cases (hcc.2.2.2.1 y.toNat (by omega)) with ⟨hS2, hgt2⟩ | ⟨l2, m2, g2, a2, bi2, f2, hS2, hgt2, ha2, hb2, hoa2, hob2, hfg2, hl12, hl22, hm2⟩
      · skip
        refine V.aload_n (pc := 17) 0 d_RR_copy_17 rfl rfl ?_
        refine V.getf (pc := 18) 0 cl_RR fl_RR_11_RR d_RR_copy_18 b0 (Nat.le_of_ble_eq_true rfl) rfl ?_
        refine V.iload_n (pc := 21) 1 d_RR_copy_21 rfl rfl ?_
        refine V.aald0 (pc := 22) d_RR_copy_22 b1 (by omega) (by omega) ?_
        rw [hgt1]
        refine V.astore (pc := 23) d_RR_copy_23 (Nat.le_of_ble_eq_true rfl) rfl ?_
        dsimp only [put]
        refine V.aload_n (pc := 25) 0 d_RR_copy_25 rfl rfl ?_
        refine V.getf (pc := 26) 0 cl_RR fl_RR_11_RR d_RR_copy_26 b0 (Nat.le_of_ble_eq_true rfl) rfl ?_
        refine V.iload_n (pc := 29) 3 d_RR_copy_29 rfl rfl ?_
        refine V.aald0 (pc := 30) d_RR_copy_30 b1 (by omega) (by omega) ?_
        rw [hgt2]
        refine V.astore (pc := 31) d_RR_copy_31 (Nat.le_of_ble_eq_true rfl) rfl ?_
        dsimp only [put]
        refine V.aload (pc := 33) d_RR_copy_33 rfl ?_
        refine V.ifnull (tgt := 43) (pc := 35) d_RR_copy_35 (by decide) (fun c_35 => ?_) (fun a_35 c_35 => ?_)
        · skip
          cases c_35
        · skip
          refine V.aload (pc := 38) d_RR_copy_38 rfl ?_
          refine V.ifnonnull (tgt := 49) (pc := 40) d_RR_copy_40 (by decide) (fun a_40 c_40 => ?_) (fun c_40 => ?_)
          · skip
            cases c_40
          · skip
            refine V.aload_n (pc := 43) 0 d_RR_copy_43 rfl rfl ?_
            refine V.iconst (pc := 44) d_RR_copy_44 ⟨by decide, by decide⟩ ?_
            refine V.cV1 (pc := 45) (kc2 := 0) (ks2 := 0) ml_RR_51 b0 (cc_RR_found _ _ (by omega) _ b0 _) d_RR_copy_45 (Nat.le_of_ble_eq_true rfl) (Nat.le_of_ble_eq_true rfl) (Nat.le_of_ble_eq_true rfl) (Nat.le_of_ble_eq_true rfl) ?_
            rintro _ _ _ ⟨rfl, rfl, rfl⟩
            dsimp only [Option.toList, List.cons_append, List.nil_append]
            first | rw [fi1] | rw [fi2] | rw [fi3] | rw [fi4] | rw [fi5]
            refine V.ret (pc := 48) (r := some (vI _)) d_RR_copy_48 (Or.inl rfl) rfl ?_
            refine qc_of (S2 := sSt S 1) (Nat.le_refl _) ?_ (hI.st 1)
            unfold sp_copy; rw [if_pos (by omega)]; simp only [hS1, hS2]
      · skip
        refine V.aload_n (pc := 17) 0 d_RR_copy_17 rfl rfl ?_
        refine V.getf (pc := 18) 0 cl_RR fl_RR_11_RR d_RR_copy_18 b0 (Nat.le_of_ble_eq_true rfl) rfl ?_
        refine V.iload_n (pc := 21) 1 d_RR_copy_21 rfl rfl ?_
        refine V.aald0 (pc := 22) d_RR_copy_22 b1 (by omega) (by omega) ?_
        rw [hgt1]
        refine V.astore (pc := 23) d_RR_copy_23 (Nat.le_of_ble_eq_true rfl) rfl ?_
        dsimp only [put]
        refine V.aload_n (pc := 25) 0 d_RR_copy_25 rfl rfl ?_
        refine V.getf (pc := 26) 0 cl_RR fl_RR_11_RR d_RR_copy_26 b0 (Nat.le_of_ble_eq_true rfl) rfl ?_
        refine V.iload_n (pc := 29) 3 d_RR_copy_29 rfl rfl ?_
        refine V.aald0 (pc := 30) d_RR_copy_30 b1 (by omega) (by omega) ?_
        rw [hgt2]
        refine V.astore (pc := 31) d_RR_copy_31 (Nat.le_of_ble_eq_true rfl) rfl ?_
        dsimp only [put]
        refine V.aload (pc := 33) d_RR_copy_33 rfl ?_
        refine V.ifnull (tgt := 43) (pc := 35) d_RR_copy_35 (by decide) (fun c_35 => ?_) (fun a_35 c_35 => ?_)
        · skip
          cases c_35
        · skip
          refine V.aload (pc := 38) d_RR_copy_38 rfl ?_
          refine V.ifnonnull (tgt := 49) (pc := 40) d_RR_copy_40 (by decide) (fun a_40 c_40 => ?_) (fun c_40 => ?_)
          · skip
            refine V.aload (pc := 49) d_RR_copy_49 rfl ?_
            refine V.getf (pc := 51) 0 cl_Sh fl_RR_71_Sh d_RR_copy_51 hoa1 (Nat.le_of_ble_eq_true rfl) rfl ?_
            refine V.aload (pc := 54) d_RR_copy_54 rfl ?_
            refine V.getf (pc := 56) 0 cl_Sh fl_RR_71_Sh d_RR_copy_56 hoa2 (Nat.le_of_ble_eq_true rfl) rfl ?_
            refine V.icmp_eq (tgt := 68) (pc := 59) d_RR_copy_59 (by decide) (fun c_59 => ?_) (fun c_59 => ?_)
            · skip
              refine V.aload (pc := 68) d_RR_copy_68 rfl ?_
              refine V.iload_n (pc := 70) 2 d_RR_copy_70 rfl rfl ?_
              refine V.iload (pc := 71) d_RR_copy_71 rfl ?_
              refine V.cV2 (pc := 73) (kc2 := 0) (ks2 := 0) ml_RR_61 hoa1 (cc_Sh_holds a1 bi1 _ m1 l1 _ _ f1 hm1 _ hoa1 hob1 _) d_RR_copy_73 (Nat.le_of_ble_eq_true rfl) (Nat.le_of_ble_eq_true rfl) (Nat.le_of_ble_eq_true rfl) (Nat.le_of_ble_eq_true rfl) ?_
              rintro _ _ _ ⟨rfl, rfl, rfl⟩
              dsimp only [Option.toList, List.cons_append, List.nil_append]
              refine V.ifB_eq (tgt := 91) (pc := 76) d_RR_copy_76 (by decide) (fun c_76 => ?_) (fun c_76 => ?_)
              · skip
                refine V.aload_n (pc := 91) 0 d_RR_copy_91 rfl rfl ?_
                refine V.iconst (pc := 92) d_RR_copy_92 ⟨by decide, by decide⟩ ?_
                refine V.cV1 (pc := 93) (kc2 := 0) (ks2 := 0) ml_RR_51 b0 (cc_RR_found _ _ (by omega) _ b0 _) d_RR_copy_93 (Nat.le_of_ble_eq_true rfl) (Nat.le_of_ble_eq_true rfl) (Nat.le_of_ble_eq_true rfl) (Nat.le_of_ble_eq_true rfl) ?_
                rintro _ _ _ ⟨rfl, rfl, rfl⟩
                dsimp only [Option.toList, List.cons_append, List.nil_append]
                first | rw [fi1] | rw [fi2] | rw [fi3] | rw [fi4] | rw [fi5]
                refine V.ret (pc := 96) (r := some (vI _)) d_RR_copy_96 (Or.inl rfl) rfl ?_
                refine qc_of (S2 := sSt S 2) (Nat.le_refl _) ?_ (hI.st 2)
                unfold sp_copy; rw [if_pos (by omega)]; simp only [hS1, hS2]; rw [if_pos (by omega), if_neg (by omega)]
              · skip
                refine V.aload (pc := 79) d_RR_copy_79 rfl ?_
                refine V.iload (pc := 81) d_RR_copy_81 rfl ?_
                refine V.iload (pc := 83) d_RR_copy_83 rfl ?_
                refine V.cV2 (pc := 85) (kc2 := 0) (ks2 := 0) ml_RR_61 hoa2 (cc_Sh_holds a2 bi2 _ m2 l2 _ _ f2 hm2 _ hoa2 hob2 _) d_RR_copy_85 (Nat.le_of_ble_eq_true rfl) (Nat.le_of_ble_eq_true rfl) (Nat.le_of_ble_eq_true rfl) (Nat.le_of_ble_eq_true rfl) ?_
                rintro _ _ _ ⟨rfl, rfl, rfl⟩
                dsimp only [Option.toList, List.cons_append, List.nil_append]
                refine V.ifB_ne (tgt := 97) (pc := 88) d_RR_copy_88 (by decide) (fun c_88 => ?_) (fun c_88 => ?_)
                · skip
                  refine V.aload (pc := 97) d_RR_copy_97 rfl ?_
                  refine V.getf (pc := 99) 1 cl_Sh fl_RR_65_Sh d_RR_copy_99 hoa1 (Nat.le_of_ble_eq_true rfl) rfl ?_
                  refine V.iload_n (pc := 102) 2 d_RR_copy_102 rfl rfl ?_
                  refine V.aload (pc := 103) d_RR_copy_103 rfl ?_
                  refine V.getf (pc := 105) 1 cl_Sh fl_RR_65_Sh d_RR_copy_105 hoa2 (Nat.le_of_ble_eq_true rfl) rfl ?_
                  refine V.iload (pc := 108) d_RR_copy_108 rfl ?_
                  refine V.iload (pc := 110) d_RR_copy_110 rfl ?_
                  refine V.acopy (pc := 112) ml_RR_74 (Nat.le_of_ble_eq_true rfl) (Nat.le_of_ble_eq_true rfl) d_RR_copy_112 hob1 hob2 (by omega) (by omega) (by omega) (by omega) (by omega) ?_
                  refine V.aload_n (pc := 115) 0 d_RR_copy_115 rfl rfl ?_
                  refine V.iload (pc := 116) d_RR_copy_116 rfl ?_
                  refine V.cV1 (pc := 118) (kc2 := 0) (ks2 := 0) ml_RR_58 (hset_o (by omega) b0) (cc_RR_settled _ _ _ (hset_o (by omega) b0) _) d_RR_copy_118 (Nat.le_of_ble_eq_true rfl) (Nat.le_of_ble_eq_true rfl) (Nat.le_of_ble_eq_true rfl) (Nat.le_of_ble_eq_true rfl) ?_
                  rintro _ _ _ ⟨rfl, rfl, rfl⟩
                  dsimp only [Option.toList, List.cons_append, List.nil_append]
                  refine V.ret (pc := 121) (r := some (vI _)) d_RR_copy_121 (Or.inl rfl) rfl ?_
                  refine qc_of (S2 := sSh S y.toNat (some (l2, m2, cpf g1 g2 i.toNat j.toNat n.toNat))) (Nat.le_refl _) ?_ (CI.items hB hcc (by omega) hgt2 ha2 hb2 hoa2 hob2 ⟨hl12, hl22⟩ hm2 (fun q hq => ?_))
                  · unfold sp_copy; rw [if_pos (by omega)]; simp only [hS1, hS2]; rw [if_pos (by omega), if_pos (by omega)]
                  · unfold cpf
                    by_cases e : j.toNat ≤ q ∧ q < j.toNat + n.toNat
                    · rw [if_pos e, if_pos e]; exact hfg1 _ (by omega)
                    · rw [if_neg e, if_neg e]; exact hfg2 q hq
                · skip
                  refine V.aload_n (pc := 91) 0 d_RR_copy_91 rfl rfl ?_
                  refine V.iconst (pc := 92) d_RR_copy_92 ⟨by decide, by decide⟩ ?_
                  refine V.cV1 (pc := 93) (kc2 := 0) (ks2 := 0) ml_RR_51 b0 (cc_RR_found _ _ (by omega) _ b0 _) d_RR_copy_93 (Nat.le_of_ble_eq_true rfl) (Nat.le_of_ble_eq_true rfl) (Nat.le_of_ble_eq_true rfl) (Nat.le_of_ble_eq_true rfl) ?_
                  rintro _ _ _ ⟨rfl, rfl, rfl⟩
                  dsimp only [Option.toList, List.cons_append, List.nil_append]
                  first | rw [fi1] | rw [fi2] | rw [fi3] | rw [fi4] | rw [fi5]
                  refine V.ret (pc := 96) (r := some (vI _)) d_RR_copy_96 (Or.inl rfl) rfl ?_
                  refine qc_of (S2 := sSt S 2) (Nat.le_refl _) ?_ (hI.st 2)
                  unfold sp_copy; rw [if_pos (by omega)]; simp only [hS1, hS2]; rw [if_pos (by omega), if_neg (by omega)]
            · skip
              refine V.aload_n (pc := 62) 0 d_RR_copy_62 rfl rfl ?_
              refine V.iconst (pc := 63) d_RR_copy_63 ⟨by decide, by decide⟩ ?_
              refine V.cV1 (pc := 64) (kc2 := 0) (ks2 := 0) ml_RR_51 b0 (cc_RR_found _ _ (by omega) _ b0 _) d_RR_copy_64 (Nat.le_of_ble_eq_true rfl) (Nat.le_of_ble_eq_true rfl) (Nat.le_of_ble_eq_true rfl) (Nat.le_of_ble_eq_true rfl) ?_
              rintro _ _ _ ⟨rfl, rfl, rfl⟩
              dsimp only [Option.toList, List.cons_append, List.nil_append]
              first | rw [fi1] | rw [fi2] | rw [fi3] | rw [fi4] | rw [fi5]
              refine V.ret (pc := 67) (r := some (vI _)) d_RR_copy_67 (Or.inl rfl) rfl ?_
              refine qc_of (S2 := sSt S 5) (Nat.le_refl _) ?_ (hI.st 5)
              unfold sp_copy; rw [if_pos (by omega)]; simp only [hS1, hS2]; rw [if_neg (by omega)]
          · skip
            cases c_40
      · skip
        refine V.aload_n (pc := 17) 0 d_RR_copy_17 rfl rfl ?_
        refine V.getf (pc := 18) 0 cl_RR fl_RR_11_RR d_RR_copy_18 b0 (Nat.le_of_ble_eq_true rfl) rfl ?_
        refine V.iload_n (pc := 21) 1 d_RR_copy_21 rfl rfl ?_
        refine V.aald0 (pc := 22) d_RR_copy_22 b1 (by omega) (by omega) ?_
        rw [hgt1]
        refine V.astore (pc := 23) d_RR_copy_23 (Nat.le_of_ble_eq_true rfl) rfl ?_
        dsimp only [put]
        refine V.aload_n (pc := 25) 0 d_RR_copy_25 rfl rfl ?_
        refine V.getf (pc := 26) 0 cl_RR fl_RR_11_RR d_RR_copy_26 b0 (Nat.le_of_ble_eq_true rfl) rfl ?_
        refine V.iload_n (pc := 29) 3 d_RR_copy_29 rfl rfl ?_
        refine V.aald0 (pc := 30) d_RR_copy_30 b1 (by omega) (by omega) ?_
        rw [hgt2]
        refine V.astore (pc := 31) d_RR_copy_31 (Nat.le_of_ble_eq_true rfl) rfl ?_
        dsimp only [put]
        refine V.aload (pc := 33) d_RR_copy_33 rfl ?_
        refine V.ifnull (tgt := 43) (pc := 35) d_RR_copy_35 (by decide) (fun c_35 => ?_) (fun a_35 c_35 => ?_)
        · skip
          refine V.aload_n (pc := 43) 0 d_RR_copy_43 rfl rfl ?_
          refine V.iconst (pc := 44) d_RR_copy_44 ⟨by decide, by decide⟩ ?_
          refine V.cV1 (pc := 45) (kc2 := 0) (ks2 := 0) ml_RR_51 b0 (cc_RR_found _ _ (by omega) _ b0 _) d_RR_copy_45 (Nat.le_of_ble_eq_true rfl) (Nat.le_of_ble_eq_true rfl) (Nat.le_of_ble_eq_true rfl) (Nat.le_of_ble_eq_true rfl) ?_
          rintro _ _ _ ⟨rfl, rfl, rfl⟩
          dsimp only [Option.toList, List.cons_append, List.nil_append]
          first | rw [fi1] | rw [fi2] | rw [fi3] | rw [fi4] | rw [fi5]
          refine V.ret (pc := 48) (r := some (vI _)) d_RR_copy_48 (Or.inl rfl) rfl ?_
          refine qc_of (S2 := sSt S 1) (Nat.le_refl _) ?_ (hI.st 1)
          unfold sp_copy; rw [if_pos (by omega)]; simp only [hS1, hS2]
        · skip
          cases c_35
      · skip
        refine V.aload_n (pc := 17) 0 d_RR_copy_17 rfl rfl ?_
        refine V.getf (pc := 18) 0 cl_RR fl_RR_11_RR d_RR_copy_18 b0 (Nat.le_of_ble_eq_true rfl) rfl ?_
        refine V.iload_n (pc := 21) 1 d_RR_copy_21 rfl rfl ?_
        refine V.aald0 (pc := 22) d_RR_copy_22 b1 (by omega) (by omega) ?_
        rw [hgt1]
        refine V.astore (pc := 23) d_RR_copy_23 (Nat.le_of_ble_eq_true rfl) rfl ?_
        dsimp only [put]
        refine V.aload_n (pc := 25) 0 d_RR_copy_25 rfl rfl ?_
        refine V.getf (pc := 26) 0 cl_RR fl_RR_11_RR d_RR_copy_26 b0 (Nat.le_of_ble_eq_true rfl) rfl ?_
        refine V.iload_n (pc := 29) 3 d_RR_copy_29 rfl rfl ?_
        refine V.aald0 (pc := 30) d_RR_copy_30 b1 (by omega) (by omega) ?_
        rw [hgt2]
        refine V.astore (pc := 31) d_RR_copy_31 (Nat.le_of_ble_eq_true rfl) rfl ?_
        dsimp only [put]
        refine V.aload (pc := 33) d_RR_copy_33 rfl ?_
        refine V.ifnull (tgt := 43) (pc := 35) d_RR_copy_35 (by decide) (fun c_35 => ?_) (fun a_35 c_35 => ?_)
        · skip
          refine V.aload_n (pc := 43) 0 d_RR_copy_43 rfl rfl ?_
          refine V.iconst (pc := 44) d_RR_copy_44 ⟨by decide, by decide⟩ ?_
          refine V.cV1 (pc := 45) (kc2 := 0) (ks2 := 0) ml_RR_51 b0 (cc_RR_found _ _ (by omega) _ b0 _) d_RR_copy_45 (Nat.le_of_ble_eq_true rfl) (Nat.le_of_ble_eq_true rfl) (Nat.le_of_ble_eq_true rfl) (Nat.le_of_ble_eq_true rfl) ?_
          rintro _ _ _ ⟨rfl, rfl, rfl⟩
          dsimp only [Option.toList, List.cons_append, List.nil_append]
          first | rw [fi1] | rw [fi2] | rw [fi3] | rw [fi4] | rw [fi5]
          refine V.ret (pc := 48) (r := some (vI _)) d_RR_copy_48 (Or.inl rfl) rfl ?_
          refine qc_of (S2 := sSt S 1) (Nat.le_refl _) ?_ (hI.st 1)
          unfold sp_copy; rw [if_pos (by omega)]; simp only [hS1, hS2]
        · skip
          cases c_35
    · skip
      refine V.ldc (pc := 14) (-1000001) ck_RR_50 rfl ⟨by decide, by decide⟩ d_RR_copy_14 ?_
      refine V.ret (pc := 16) (r := some (vI _)) d_RR_copy_16 (Or.inl rfl) rfl ?_
      exact qc_of (Nat.le_refl _) (by unfold sp_copy; rw [if_neg (by omega)]) hI
set_option maxRecDepth 20000 in
theorem lq_RR_countS (S : SS) (h : MH) (hI : CI S h) (gs gt : Nat → Option Nat) (tr en fs fp : Nat → Int) (hB : CB S h gs gt tr en fs fp) (hcc : CC S h gs gt tr en) (sz : Nat) : ∀ (c k : Nat) (ma kk : Int) (x : Option MV), k + c = 8 → kk = k → ma = cn (fS S) k →
    V M_RR_count 1 30 [some (vR 0), some (vI 0), some (vI ma), some (vR 1), some (vI 8), some (vI kk), x] [] h sz 0 0 (QCI (sp_count S 0) sz) := by
  obtain ⟨b0, b1, b2, b3, b4, b5, b6, b7⟩ := id hB
  intro c
  induction c with
  | zero =>
    intro k ma kk x hc hkk hma
    refine V.iload (pc := 30) d_RR_count_30 rfl ?_
    refine V.iload (pc := 32) d_RR_count_32 rfl ?_
    refine V.icmp_ge (tgt := 62) (pc := 34) d_RR_count_34 (by decide) (fun c_34 => ?_) (fun c_34 => ?_)
    · skip
      refine V.iload_n (pc := 62) 2 d_RR_count_62 rfl rfl ?_
      refine V.ret (pc := 63) (r := some (vI _)) d_RR_count_63 (Or.inl rfl) rfl ?_
      rw [hma, show k = 8 by omega]
      exact qc_of (Nat.le_refl _) (by unfold sp_count; rw [if_pos (by omega), if_pos rfl]) hI
    · skip
      exfalso; omega
  | succ c ih =>
    intro k ma kk x hc hkk hma
    have hcr := cn_rng (fS_rng S) k
    refine V.iload (pc := 30) d_RR_count_30 rfl ?_
    refine V.iload (pc := 32) d_RR_count_32 rfl ?_
    refine V.icmp_ge (tgt := 62) (pc := 34) d_RR_count_34 (by decide) (fun c_34 => ?_) (fun c_34 => ?_)
    · skip
      exfalso; omega
    · skip
      rcases csh_cases (hcc.2.2.2.1 k (by omega)) with ⟨hS, hgt⟩ | ⟨l, m, g, a, bi, f, hS, hgt, ha, hb, hoa, hob, hfg, hl1, hl2, hm⟩
      · skip
        refine V.aload_n (pc := 37) 3 d_RR_count_37 rfl rfl ?_
        refine V.iload (pc := 38) d_RR_count_38 rfl ?_
        refine V.aald0 (pc := 40) d_RR_count_40 b1 (by omega) (by omega) ?_
        rw [show kk.toNat = k by omega, hgt]
        refine V.astore (pc := 41) d_RR_count_41 (Nat.le_of_ble_eq_true rfl) rfl ?_
        dsimp only [put]
        refine V.iload_n (pc := 43) 2 d_RR_count_43 rfl rfl ?_
        refine V.aload (pc := 44) d_RR_count_44 rfl ?_
        refine V.ifnonnull (tgt := 53) (pc := 46) d_RR_count_46 (by decide) (fun a_46 c_46 => ?_) (fun c_46 => ?_)
        · skip
          cases c_46
        · skip
          refine V.iconst (pc := 49) d_RR_count_49 ⟨by decide, by decide⟩ ?_
          refine V.goto (tgt := 54) (pc := 50) d_RR_count_50 (by decide) ?_
          refine V.iadd (pc := 54) d_RR_count_54 ⟨by omega, by omega⟩ ?_
          refine V.istore_n (pc := 55) 2 d_RR_count_55 rfl (Nat.le_of_ble_eq_true rfl) rfl ?_
          dsimp only [put]
          refine V.iinc (pc := 56) d_RR_count_56 rfl ⟨by omega, by omega⟩ (Nat.le_of_ble_eq_true rfl) rfl ?_
          dsimp only [put]
          refine V.goto (tgt := 30) (pc := 59) d_RR_count_59 (by decide) ?_
          refine ih (k + 1) _ _ _ (by omega) (by omega) ?_
          show _ = cn (fS S) k + fS S k
          rw [hma]
          have e9 : fS S k = 0 := by unfold fS; rw [hS]
          rw [e9]
      · skip
        refine V.aload_n (pc := 37) 3 d_RR_count_37 rfl rfl ?_
        refine V.iload (pc := 38) d_RR_count_38 rfl ?_
        refine V.aald0 (pc := 40) d_RR_count_40 b1 (by omega) (by omega) ?_
        rw [show kk.toNat = k by omega, hgt]
        refine V.astore (pc := 41) d_RR_count_41 (Nat.le_of_ble_eq_true rfl) rfl ?_
        dsimp only [put]
        refine V.iload_n (pc := 43) 2 d_RR_count_43 rfl rfl ?_
        refine V.aload (pc := 44) d_RR_count_44 rfl ?_
        refine V.ifnonnull (tgt := 53) (pc := 46) d_RR_count_46 (by decide) (fun a_46 c_46 => ?_) (fun c_46 => ?_)
        · skip
          refine V.iconst (pc := 53) d_RR_count_53 ⟨by decide, by decide⟩ ?_
          refine V.iadd (pc := 54) d_RR_count_54 ⟨by omega, by omega⟩ ?_
          refine V.istore_n (pc := 55) 2 d_RR_count_55 rfl (Nat.le_of_ble_eq_true rfl) rfl ?_
          dsimp only [put]
          refine V.iinc (pc := 56) d_RR_count_56 rfl ⟨by omega, by omega⟩ (Nat.le_of_ble_eq_true rfl) rfl ?_
          dsimp only [put]
          refine V.goto (tgt := 30) (pc := 59) d_RR_count_59 (by decide) ?_
          refine ih (k + 1) _ _ _ (by omega) (by omega) ?_
          show _ = cn (fS S) k + fS S k
          rw [hma]
          have e9 : fS S k = 1 := by unfold fS; rw [hS]
          rw [e9]
        · skip
          cases c_46
set_option maxRecDepth 20000 in
theorem lq_RR_countT (S : SS) (h : MH) (hI : CI S h) (gs gt : Nat → Option Nat) (tr en fs fp : Nat → Int) (hB : CB S h gs gt tr en fs fp) (hcc : CC S h gs gt tr en) (w : Int) (hw : 1 ≤ w ∧ w ≤ 4) (sz : Nat) : ∀ (c k : Nat) (ma kk : Int) (x : Option MV), k + c = 10 → kk = k → ma = cn (fT S w) k →
    V M_RR_count 1 76 [some (vR 0), some (vI w), some (vI ma), some (vR 2), some (vI 10), some (vI kk), x] [] h sz 0 0 (QCI (sp_count S w) sz) := by
  obtain ⟨b0, b1, b2, b3, b4, b5, b6, b7⟩ := id hB
  intro c
  induction c with
  | zero =>
    intro k ma kk x hc hkk hma
    refine V.iload (pc := 76) d_RR_count_76 rfl ?_
    refine V.iload (pc := 78) d_RR_count_78 rfl ?_
    refine V.icmp_ge (tgt := 112) (pc := 80) d_RR_count_80 (by decide) (fun c_80 => ?_) (fun c_80 => ?_)
    · skip
      refine V.iload_n (pc := 112) 2 d_RR_count_112 rfl rfl ?_
      refine V.ret (pc := 113) (r := some (vI _)) d_RR_count_113 (Or.inl rfl) rfl ?_
      rw [hma, show k = 10 by omega]
      exact qc_of (Nat.le_refl _) (by unfold sp_count; rw [if_pos (by omega), if_neg (by omega)]) hI
    · skip
      exfalso; omega
  | succ c ih =>
    intro k ma kk x hc hkk hma
    have hcr := cn_rng (fT_rng S w) k
    refine V.iload (pc := 76) d_RR_count_76 rfl ?_
    refine V.iload (pc := 78) d_RR_count_78 rfl ?_
    refine V.icmp_ge (tgt := 112) (pc := 80) d_RR_count_80 (by decide) (fun c_80 => ?_) (fun c_80 => ?_)
    · skip
      exfalso; omega
    · skip
      rcases cth_cases (hcc.2.2.2.2 k (by omega)) with ⟨hS, hgt⟩ | ⟨kd, n, s, sb, a, hS, hgt, hth⟩
      · skip
        refine V.aload_n (pc := 83) 3 d_RR_count_83 rfl rfl ?_
        refine V.iload (pc := 84) d_RR_count_84 rfl ?_
        refine V.aald1 (pc := 86) d_RR_count_86 b2 (by omega) (by omega) ?_
        rw [show kk.toNat = k by omega, hgt]
        refine V.astore (pc := 87) d_RR_count_87 (Nat.le_of_ble_eq_true rfl) rfl ?_
        dsimp only [put]
        refine V.iload_n (pc := 89) 2 d_RR_count_89 rfl rfl ?_
        refine V.aload (pc := 90) d_RR_count_90 rfl ?_
        refine V.iload_n (pc := 92) 1 d_RR_count_92 rfl rfl ?_
        refine V.cS2 (pc := 93) (kc2 := 0) (ks2 := 0) ml_RR_227 (cc_RR_isCountedN _ (by omega) _ _) d_RR_count_93 (Nat.le_of_ble_eq_true rfl) (Nat.le_of_ble_eq_true rfl) (Nat.le_of_ble_eq_true rfl) (Nat.le_of_ble_eq_true rfl) ?_
        rintro _ _ _ ⟨rfl, rfl, rfl⟩
        dsimp only [Option.toList, List.cons_append, List.nil_append]
        refine V.if_eq (tgt := 103) (pc := 96) d_RR_count_96 (by decide) (fun c_96 => ?_) (fun c_96 => ?_)
        · skip
          refine V.iconst (pc := 103) d_RR_count_103 ⟨by decide, by decide⟩ ?_
          refine V.iadd (pc := 104) d_RR_count_104 ⟨by omega, by omega⟩ ?_
          refine V.istore_n (pc := 105) 2 d_RR_count_105 rfl (Nat.le_of_ble_eq_true rfl) rfl ?_
          dsimp only [put]
          refine V.iinc (pc := 106) d_RR_count_106 rfl ⟨by omega, by omega⟩ (Nat.le_of_ble_eq_true rfl) rfl ?_
          dsimp only [put]
          refine V.goto (tgt := 76) (pc := 109) d_RR_count_109 (by decide) ?_
          refine ih (k + 1) _ _ _ (by omega) (by omega) ?_
          show _ = cn (fT S w) k + fT S w k
          rw [hma]
          have e9 : fT S w k = 0 := by unfold fT; rw [hS]
          rw [e9]
        · skip
          exact absurd rfl c_96
      · skip
        have hwk := wf_kind hth.1
        obtain ⟨ha37, ci, N, T, ty, fs9, hC, hob⟩ := hth.ob
        refine V.aload_n (pc := 83) 3 d_RR_count_83 rfl rfl ?_
        refine V.iload (pc := 84) d_RR_count_84 rfl ?_
        refine V.aald1 (pc := 86) d_RR_count_86 b2 (by omega) (by omega) ?_
        rw [show kk.toNat = k by omega, hgt]
        refine V.astore (pc := 87) d_RR_count_87 (Nat.le_of_ble_eq_true rfl) rfl ?_
        dsimp only [put]
        refine V.iload_n (pc := 89) 2 d_RR_count_89 rfl rfl ?_
        refine V.aload (pc := 90) d_RR_count_90 rfl ?_
        refine V.iload_n (pc := 92) 1 d_RR_count_92 rfl rfl ?_
        refine V.cS2 (pc := 93) (kc2 := 0) (ks2 := 0) ml_RR_227 (cc_RR_isCounted _ kd _ (by omega) _ ⟨⟨by omega, by omega⟩, ci, N, T, ty, fs9, hC, hob⟩ _) d_RR_count_93 (Nat.le_of_ble_eq_true rfl) (Nat.le_of_ble_eq_true rfl) (Nat.le_of_ble_eq_true rfl) (Nat.le_of_ble_eq_true rfl) ?_
        rintro _ _ _ ⟨rfl, rfl, rfl⟩
        dsimp only [Option.toList, List.cons_append, List.nil_append]
        refine V.ifB_eq (tgt := 103) (pc := 96) d_RR_count_96 (by decide) (fun c_96 => ?_) (fun c_96 => ?_)
        · skip
          refine V.iconst (pc := 103) d_RR_count_103 ⟨by decide, by decide⟩ ?_
          refine V.iadd (pc := 104) d_RR_count_104 ⟨by omega, by omega⟩ ?_
          refine V.istore_n (pc := 105) 2 d_RR_count_105 rfl (Nat.le_of_ble_eq_true rfl) rfl ?_
          dsimp only [put]
          refine V.iinc (pc := 106) d_RR_count_106 rfl ⟨by omega, by omega⟩ (Nat.le_of_ble_eq_true rfl) rfl ?_
          dsimp only [put]
          refine V.goto (tgt := 76) (pc := 109) d_RR_count_109 (by decide) ?_
          refine ih (k + 1) _ _ _ (by omega) (by omega) ?_
          show _ = cn (fT S w) k + fT S w k
          rw [hma]
          have e9 : fT S w k = 0 := by unfold fT; rw [hS]; exact if_neg c_96
          rw [e9]
        · skip
          refine V.iconst (pc := 99) d_RR_count_99 ⟨by decide, by decide⟩ ?_
          refine V.goto (tgt := 104) (pc := 100) d_RR_count_100 (by decide) ?_
          refine V.iadd (pc := 104) d_RR_count_104 ⟨by omega, by omega⟩ ?_
          refine V.istore_n (pc := 105) 2 d_RR_count_105 rfl (Nat.le_of_ble_eq_true rfl) rfl ?_
          dsimp only [put]
          refine V.iinc (pc := 106) d_RR_count_106 rfl ⟨by omega, by omega⟩ (Nat.le_of_ble_eq_true rfl) rfl ?_
          dsimp only [put]
          refine V.goto (tgt := 76) (pc := 109) d_RR_count_109 (by decide) ?_
          refine ih (k + 1) _ _ _ (by omega) (by omega) ?_
          show _ = cn (fT S w) k + fT S w k
          rw [hma]
          have e9 : fT S w k = 1 := by unfold fT; rw [hS]; exact if_pos c_96
          rw [e9]
set_option maxRecDepth 20000 in
theorem cs_RR_count (S : SS) (h : MH) (hI : CI S h) (w : Int) (sz : Nat) (hsz : 37 ≤ sz) : Ct M_RR_count 1 0 0 [vR 0, vI w] h sz (QCI (sp_count S w) sz) := by
  refine Ct.of rfl (Nat.le_of_ble_eq_true rfl) ?_
  dsimp only [lsOf]
  obtain ⟨gs, gt, tr, en, fs, fp, hB, hcc⟩ := id hI
  obtain ⟨b0, b1, b2, b3, b4, b5, b6, b7⟩ := id hB
  refine V.iload_n (pc := 0) 1 d_RR_count_0 rfl rfl ?_
  refine V.if_lt (tgt := 9) (pc := 1) d_RR_count_1 (by decide) (fun c_1 => ?_) (fun c_1 => ?_)
  · skip
    refine V.ldc (pc := 9) (-1000001) ck_RR_50 rfl ⟨by decide, by decide⟩ d_RR_count_9 ?_
    refine V.ret (pc := 11) (r := some (vI _)) d_RR_count_11 (Or.inl rfl) rfl ?_
    exact qc_of (Nat.le_refl _) (by unfold sp_count; rw [if_neg (by omega)]) hI
  · skip
    refine V.iload_n (pc := 4) 1 d_RR_count_4 rfl rfl ?_
    refine V.iconst (pc := 5) d_RR_count_5 ⟨by decide, by decide⟩ ?_
    refine V.icmp_le (tgt := 12) (pc := 6) d_RR_count_6 (by decide) (fun c_6 => ?_) (fun c_6 => ?_)
    · skip
      refine V.iconst (pc := 12) d_RR_count_12 ⟨by decide, by decide⟩ ?_
      refine V.istore_n (pc := 13) 2 d_RR_count_13 rfl (Nat.le_of_ble_eq_true rfl) rfl ?_
      dsimp only [put]
      refine V.iload_n (pc := 14) 1 d_RR_count_14 rfl rfl ?_
      refine V.if_ne (tgt := 64) (pc := 15) d_RR_count_15 (by decide) (fun c_15 => ?_) (fun c_15 => ?_)
      · skip
        refine V.aload_n (pc := 64) 0 d_RR_count_64 rfl rfl ?_
        refine V.getf (pc := 65) 1 cl_RR fl_RR_17_RR d_RR_count_65 b0 (Nat.le_of_ble_eq_true rfl) rfl ?_
        refine V.astore_n (pc := 68) 3 d_RR_count_68 rfl (Nat.le_of_ble_eq_true rfl) rfl ?_
        dsimp only [put]
        refine V.aload_n (pc := 69) 3 d_RR_count_69 rfl rfl ?_
        refine V.rlen1 (pc := 70) d_RR_count_70 b2 ?_
        refine V.istore (pc := 71) d_RR_count_71 (Nat.le_of_ble_eq_true rfl) rfl ?_
        dsimp only [put]
        refine V.iconst (pc := 73) d_RR_count_73 ⟨by decide, by decide⟩ ?_
        refine V.istore (pc := 74) d_RR_count_74 (Nat.le_of_ble_eq_true rfl) rfl ?_
        dsimp only [put]
        refine V.pad ?_
        exact lq_RR_countT S h hI gs gt tr en fs fp hB hcc w (by omega) sz 10 0 0 0 none rfl rfl rfl
      · skip
        refine V.aload_n (pc := 18) 0 d_RR_count_18 rfl rfl ?_
        refine V.getf (pc := 19) 0 cl_RR fl_RR_11_RR d_RR_count_19 b0 (Nat.le_of_ble_eq_true rfl) rfl ?_
        refine V.astore_n (pc := 22) 3 d_RR_count_22 rfl (Nat.le_of_ble_eq_true rfl) rfl ?_
        dsimp only [put]
        refine V.aload_n (pc := 23) 3 d_RR_count_23 rfl rfl ?_
        refine V.rlen0 (pc := 24) d_RR_count_24 b1 ?_
        refine V.istore (pc := 25) d_RR_count_25 (Nat.le_of_ble_eq_true rfl) rfl ?_
        dsimp only [put]
        refine V.iconst (pc := 27) d_RR_count_27 ⟨by decide, by decide⟩ ?_
        refine V.istore (pc := 28) d_RR_count_28 (Nat.le_of_ble_eq_true rfl) rfl ?_
        dsimp only [put]
        rw [show w = 0 by omega]
        refine V.pad ?_
        exact lq_RR_countS S h hI gs gt tr en fs fp hB hcc sz 8 0 0 0 none rfl rfl rfl
    · skip
      refine V.ldc (pc := 9) (-1000001) ck_RR_50 rfl ⟨by decide, by decide⟩ d_RR_count_9 ?_
      refine V.ret (pc := 11) (r := some (vI _)) d_RR_count_11 (Or.inl rfl) rfl ?_
      exact qc_of (Nat.le_refl _) (by unfold sp_count; rw [if_neg (by omega)]) hI
