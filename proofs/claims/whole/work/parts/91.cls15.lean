/-! THE CLASS: row, strip, nthFold, printed by wip/whole/gen/cls15.py -/
set_option maxRecDepth 20000 in
theorem lq_RR_row (S : SS) (h : MH) (hI : CI S h) (sz : Nat) (hsz : 37 ≤ sz) (hfr : ∀ a c, h a = some c → a < sz) (pl sh i n : Int) (hpl : 0 ≤ pl ∧ pl ≤ 9) (hsh : 0 ≤ sh ∧ sh ≤ 7) (hn : 1 ≤ n ∧ n ≤ 20) (l : Int) (m a bi : Nat) (g f : Nat → Int) (hS : S.1 sh.toNat = some (l, m, g)) (hoa : h a = some (kO 2 [vI l, vR bi])) (hob : h bi = some (kA (sh.toNat + 1) m f)) (hfg : ∀ i, i < m → f i = g i) (hm : m ≤ 100) (hi : 0 ≤ i) (him : i + 2 * n ≤ m) : ∀ (c p : Nat) (N pp : Int) (x : Option MV), (p : Int) + c = 2 * n → pp = p → N = (pls (sg g i.toNat) p : Int) → (∀ q, q < p → g (i.toNat + q) ≠ 0) →
    V M_RR_row 8 74 [some (vR 0), some (vI pl), some (vI sh), some (vI i), some (vI n), some (vR a), some (vL N), none, some (vI pp), x] [] h sz 2 43 (QCI (sp_row S pl sh i n) sz) := by
  obtain ⟨gs, gt, tr, en, fs, fp, ⟨b0, b1, b2, b3, b4, b5, b6, b7⟩, hcc⟩ := id hI
  intro c
  induction c with
  | zero =>
    intro p N pp x hc hpp hNN hz
    refine V.iload (pc := 74) d_RR_row_74 rfl ?_
    refine V.iconst (pc := 76) d_RR_row_76 ⟨by decide, by decide⟩ ?_
    refine V.iload (pc := 77) d_RR_row_77 rfl ?_
    refine V.imul (pc := 79) d_RR_row_79 ⟨by omega, by omega⟩ ?_
    refine V.icmp_ge (tgt := 123) (pc := 80) d_RR_row_80 (by decide) (fun c_80 => ?_) (fun c_80 => ?_)
    · skip
      refine V.aload_n (pc := 123) 0 d_RR_row_123 rfl rfl ?_
      refine V.iload_n (pc := 124) 1 d_RR_row_124 rfl rfl ?_
      refine V.iload (pc := 125) d_RR_row_125 rfl ?_
      refine V.lload (pc := 127) d_RR_row_127 rfl ?_
      have en9 : (vI n : MV) = vI (n.toNat : Int) := by rw [show ((n.toNat : Nat) : Int) = n by omega]
      rw [en9, hNN, show p = 2 * n.toNat by omega]
      refine V.cS2 (pc := 129) (kc2 := 0) (ks2 := 0) ml_RR_83 (cc_RR_rowOf n.toNat (sg g i.toNat) (by omega) _ _) d_RR_row_129 (Nat.le_of_ble_eq_true rfl) (Nat.le_of_ble_eq_true rfl) (Nat.le_of_ble_eq_true rfl) (Nat.le_of_ble_eq_true rfl) ?_
      rintro r9 h9 s9 hq9
      obtain ⟨a9, rfl, hs9, hgr, hT⟩ := row_made (by omega) (fun p _ => by unfold sg; split <;> simp) hsz hfr hq9
      dsimp only [Option.toList, List.cons_append, List.nil_append]
      have hI2 := hI.grow hgr
      obtain ⟨gs2, gt2, tr2, en2, fs2, fp2, ⟨c0, -⟩, -⟩ := id hI2
      refine V.cV2 (pc := 132) (kc2 := 0) (ks2 := 0) ml_RR_87 c0 (cc_RR_shelve S _ hI2 _ (by omega) a9 _ _ _ _ hT _) d_RR_row_132 (Nat.le_of_ble_eq_true rfl) (Nat.le_of_ble_eq_true rfl) (Nat.le_of_ble_eq_true rfl) (Nat.le_of_ble_eq_true rfl) ?_
      rintro _ h8 s8 ⟨hq1, rfl, hCI⟩
      dsimp only [Option.toList, List.cons_append, List.nil_append]
      refine V.ret (pc := 135) (r := some (vI _)) d_RR_row_135 (Or.inl rfl) rfl ?_
      refine qc_of (S2 := sTh S pl.toNat (some (rowKind (sg g i.toNat) n.toNat, n.toNat, sg g i.toNat, fun _ => 0))) (by omega) ?_ hCI
      unfold sp_row; rw [if_pos (by omega)]; simp only [hS]; rw [if_pos (by omega), if_pos (fun q hq => hz q (by omega))]
    · skip
      exfalso; omega
  | succ c ih =>
    intro p N pp x hc hpp hNN hz
    refine V.iload (pc := 74) d_RR_row_74 rfl ?_
    refine V.iconst (pc := 76) d_RR_row_76 ⟨by decide, by decide⟩ ?_
    refine V.iload (pc := 77) d_RR_row_77 rfl ?_
    refine V.imul (pc := 79) d_RR_row_79 ⟨by omega, by omega⟩ ?_
    refine V.icmp_ge (tgt := 123) (pc := 80) d_RR_row_80 (by decide) (fun c_80 => ?_) (fun c_80 => ?_)
    · skip
      exfalso; omega
    · skip
      have hp40 := pls_40 (sg g i.toNat) (show p ≤ 40 by omega)
      have hpw := two40 (show p ≤ 40 by omega)
      have e4 : pls (sg g i.toNat) (p + 1) = if 0 < sg g i.toNat p then pls (sg g i.toNat) p ||| 2 ^ p else pls (sg g i.toNat) p := rfl
      have e5 : sg g i.toNat p = if 0 < g (i.toNat + p) then 1 else -1 := rfl
      refine V.aload (pc := 83) d_RR_row_83 rfl ?_
      refine V.getf (pc := 85) 1 cl_Sh fl_RR_65_Sh d_RR_row_85 hoa (Nat.le_of_ble_eq_true rfl) rfl ?_
      refine V.iload_n (pc := 88) 3 d_RR_row_88 rfl rfl ?_
      refine V.iload (pc := 89) d_RR_row_89 rfl ?_
      refine V.iadd (pc := 91) d_RR_row_91 ⟨by omega, by omega⟩ ?_
      refine V.iald (pc := 92) d_RR_row_92 hob (by omega) (by omega) ?_
      rw [show (i + pp).toNat = i.toNat + p by omega, hfg _ (by omega)]
      refine V.istore (pc := 93) d_RR_row_93 (Nat.le_of_ble_eq_true rfl) rfl ?_
      dsimp only [put]
      refine V.iload (pc := 95) d_RR_row_95 rfl ?_
      refine V.if_ne (tgt := 103) (pc := 97) d_RR_row_97 (by decide) (fun c_97 => ?_) (fun c_97 => ?_)
      · skip
        refine V.iload (pc := 103) d_RR_row_103 rfl ?_
        refine V.if_le (tgt := 117) (pc := 105) d_RR_row_105 (by decide) (fun c_105 => ?_) (fun c_105 => ?_)
        · skip
          refine V.iinc (pc := 117) d_RR_row_117 rfl ⟨by omega, by omega⟩ (Nat.le_of_ble_eq_true rfl) rfl ?_
          dsimp only [put]
          refine V.goto (tgt := 74) (pc := 120) d_RR_row_120 (by decide) ?_
          refine ih (p + 1) _ _ _ (by omega) (by omega) ?_ (fun q hq => ?_)
          · rw [e4, e5, if_neg (by omega)]; exact hNN
          · by_cases e : q = p
            · rw [e]; exact c_97
            · exact hz q (by omega)
        · skip
          rw [hNN]
          refine V.lload (pc := 108) d_RR_row_108 rfl ?_
          refine V.lconst1 (pc := 110) d_RR_row_110 ?_
          refine V.iload (pc := 111) d_RR_row_111 rfl ?_
          refine V.lshl (pc := 113) (((2 ^ p : Nat) : Int)) d_RR_row_113 (b_one (by omega) (by omega)) ?_
          refine V.lor (pc := 114) (((pls (sg g i.toNat) p ||| 2 ^ p : Nat) : Int)) d_RR_row_114 (b_or (by omega) (by omega)) ?_
          refine V.lstore (pc := 115) d_RR_row_115 (Nat.le_of_ble_eq_true rfl) rfl ?_
          dsimp only [put]
          refine V.iinc (pc := 117) d_RR_row_117 rfl ⟨by omega, by omega⟩ (Nat.le_of_ble_eq_true rfl) rfl ?_
          dsimp only [put]
          refine V.goto (tgt := 74) (pc := 120) d_RR_row_120 (by decide) ?_
          refine ih (p + 1) _ _ _ (by omega) (by omega) ?_ (fun q hq => ?_)
          · rw [e4, e5, if_pos (by omega)]
          · by_cases e : q = p
            · rw [e]; exact c_97
            · exact hz q (by omega)
      · skip
        refine V.ldc (pc := 100) (-1000001) ck_RR_50 rfl ⟨by decide, by decide⟩ d_RR_row_100 ?_
        refine V.ret (pc := 102) (r := some (vI _)) d_RR_row_102 (Or.inl rfl) rfl ?_
        refine qc_of (S2 := S) (Nat.le_refl _) ?_ hI
        unfold sp_row; rw [if_pos (by omega)]; simp only [hS]; rw [if_pos (by omega), if_neg (fun z => z p (by omega) c_97)]
set_option maxRecDepth 20000 in
theorem cs_RR_row (S : SS) (h : MH) (hI : CI S h) (pl sh i n : Int) (sz : Nat) (hsz : 37 ≤ sz) : Ct M_RR_row 8 2 43 [vR 0, vI pl, vI sh, vI i, vI n] h sz (QCI (sp_row S pl sh i n) sz) := by
  refine Ct.of rfl (Nat.le_of_ble_eq_true rfl) ?_
  dsimp only [lsOf]
  obtain ⟨gs, gt, tr, en, fs, fp, hB, hcc⟩ := id hI
  obtain ⟨b0, b1, b2, b3, b4, b5, b6, b7⟩ := id hB
  refine V.fresh (fun hfr => ?_)
  refine V.iload_n (pc := 0) 1 d_RR_row_0 rfl rfl ?_
  refine V.cS1 (pc := 1) (kc2 := 2) (ks2 := 43) ml_RR_80 (cc_RR_isPlace _ _ _) d_RR_row_1 (Nat.le_of_ble_eq_true rfl) (Nat.le_of_ble_eq_true rfl) (Nat.le_of_ble_eq_true rfl) (Nat.le_of_ble_eq_true rfl) ?_
  rintro _ h9 s9 ⟨rfl, hq2, hq3⟩
  rw [hq2, hq3]
  clear hq2 hq3 h9 s9
  dsimp only [Option.toList, List.cons_append, List.nil_append]
  refine V.ifB_eq (tgt := 27) (pc := 4) d_RR_row_4 (by decide) (fun c_4 => ?_) (fun c_4 => ?_)
  · skip
    refine V.ldc (pc := 27) (-1000001) ck_RR_50 rfl ⟨by decide, by decide⟩ d_RR_row_27 ?_
    refine V.ret (pc := 29) (r := some (vI _)) d_RR_row_29 (Or.inl rfl) rfl ?_
    exact qc_of (Nat.le_refl _) (by unfold sp_row; rw [if_neg (by omega)]) hI
  · skip
    refine V.iload_n (pc := 7) 2 d_RR_row_7 rfl rfl ?_
    refine V.cS1 (pc := 8) (kc2 := 2) (ks2 := 43) ml_RR_46 (cc_RR_isSheet _ _ _) d_RR_row_8 (Nat.le_of_ble_eq_true rfl) (Nat.le_of_ble_eq_true rfl) (Nat.le_of_ble_eq_true rfl) (Nat.le_of_ble_eq_true rfl) ?_
    rintro _ h9 s9 ⟨rfl, hq2, hq3⟩
    rw [hq2, hq3]
    clear hq2 hq3 h9 s9
    dsimp only [Option.toList, List.cons_append, List.nil_append]
    refine V.ifB_eq (tgt := 27) (pc := 11) d_RR_row_11 (by decide) (fun c_11 => ?_) (fun c_11 => ?_)
    · skip
      refine V.ldc (pc := 27) (-1000001) ck_RR_50 rfl ⟨by decide, by decide⟩ d_RR_row_27 ?_
      refine V.ret (pc := 29) (r := some (vI _)) d_RR_row_29 (Or.inl rfl) rfl ?_
      exact qc_of (Nat.le_refl _) (by unfold sp_row; rw [if_neg (by omega)]) hI
    · skip
      refine V.iload (pc := 14) d_RR_row_14 rfl ?_
      refine V.iconst (pc := 16) d_RR_row_16 ⟨by decide, by decide⟩ ?_
      refine V.icmp_lt (tgt := 27) (pc := 17) d_RR_row_17 (by decide) (fun c_17 => ?_) (fun c_17 => ?_)
      · skip
        refine V.ldc (pc := 27) (-1000001) ck_RR_50 rfl ⟨by decide, by decide⟩ d_RR_row_27 ?_
        refine V.ret (pc := 29) (r := some (vI _)) d_RR_row_29 (Or.inl rfl) rfl ?_
        exact qc_of (Nat.le_refl _) (by unfold sp_row; rw [if_neg (by omega)]) hI
      · skip
        refine V.iload (pc := 20) d_RR_row_20 rfl ?_
        refine V.bipush (pc := 22) d_RR_row_22 ⟨by decide, by decide⟩ ?_
        refine V.icmp_le (tgt := 30) (pc := 24) d_RR_row_24 (by decide) (fun c_24 => ?_) (fun c_24 => ?_)
        · skip
          rcases csh_cases (hcc.2.2.2.1 sh.toNat (by omega)) with ⟨hS, hgt⟩ | ⟨l, m, g, a, bi, f, hS, hgt, ha, hb, hoa, hob, hfg, hl1, hl2, hm⟩
          rotate_left
          · skip
            refine V.aload_n (pc := 30) 0 d_RR_row_30 rfl rfl ?_
            refine V.getf (pc := 31) 0 cl_RR fl_RR_11_RR d_RR_row_31 b0 (Nat.le_of_ble_eq_true rfl) rfl ?_
            refine V.iload_n (pc := 34) 2 d_RR_row_34 rfl rfl ?_
            refine V.aald0 (pc := 35) d_RR_row_35 b1 (by omega) (by omega) ?_
            rw [hgt]
            refine V.astore (pc := 36) d_RR_row_36 (Nat.le_of_ble_eq_true rfl) rfl ?_
            dsimp only [put]
            refine V.aload (pc := 38) d_RR_row_38 rfl ?_
            refine V.ifnonnull (tgt := 49) (pc := 40) d_RR_row_40 (by decide) (fun a_40 c_40 => ?_) (fun c_40 => ?_)
            · skip
              refine V.aload (pc := 49) d_RR_row_49 rfl ?_
              refine V.iload_n (pc := 51) 3 d_RR_row_51 rfl rfl ?_
              refine V.iconst (pc := 52) d_RR_row_52 ⟨by decide, by decide⟩ ?_
              refine V.iload (pc := 53) d_RR_row_53 rfl ?_
              refine V.imul (pc := 55) d_RR_row_55 ⟨by omega, by omega⟩ ?_
              refine V.cV2 (pc := 56) (kc2 := 2) (ks2 := 43) ml_RR_61 hoa (cc_Sh_holds a bi _ m l _ _ f hm _ hoa hob _) d_RR_row_56 (Nat.le_of_ble_eq_true rfl) (Nat.le_of_ble_eq_true rfl) (Nat.le_of_ble_eq_true rfl) (Nat.le_of_ble_eq_true rfl) ?_
              rintro _ h9 s9 ⟨rfl, hq2, hq3⟩
              rw [hq2, hq3]
              clear hq2 hq3 h9 s9
              dsimp only [Option.toList, List.cons_append, List.nil_append]
              refine V.ifB_ne (tgt := 68) (pc := 59) d_RR_row_59 (by decide) (fun c_59 => ?_) (fun c_59 => ?_)
              · skip
                refine V.lconst0 (pc := 68) d_RR_row_68 ?_
                refine V.lstore (pc := 69) d_RR_row_69 (Nat.le_of_ble_eq_true rfl) rfl ?_
                dsimp only [put]
                refine V.iconst (pc := 71) d_RR_row_71 ⟨by decide, by decide⟩ ?_
                refine V.istore (pc := 72) d_RR_row_72 (Nat.le_of_ble_eq_true rfl) rfl ?_
                dsimp only [put]
                refine V.pad ?_
                exact lq_RR_row S h hI sz hsz hfr pl sh i n (by omega) (by omega) (by omega) l m a bi g f hS hoa hob hfg hm (by omega) (by omega) (2 * n.toNat) 0 0 0 none (by omega) rfl rfl (fun q hq => by omega)
              · skip
                refine V.aload_n (pc := 62) 0 d_RR_row_62 rfl rfl ?_
                refine V.iconst (pc := 63) d_RR_row_63 ⟨by decide, by decide⟩ ?_
                refine V.cV1 (pc := 64) (kc2 := 2) (ks2 := 43) ml_RR_51 b0 (cc_RR_found _ _ (by omega) _ b0 _) d_RR_row_64 (Nat.le_of_ble_eq_true rfl) (Nat.le_of_ble_eq_true rfl) (Nat.le_of_ble_eq_true rfl) (Nat.le_of_ble_eq_true rfl) ?_
                rintro _ h9 s9 ⟨rfl, hq2, hq3⟩
                rw [hq2, hq3]
                clear hq2 hq3 h9 s9
                dsimp only [Option.toList, List.cons_append, List.nil_append]
                first | rw [fi1] | rw [fi2] | rw [fi3] | rw [fi4] | rw [fi5]
                refine V.ret (pc := 67) (r := some (vI _)) d_RR_row_67 (Or.inl rfl) rfl ?_
                refine qc_of (S2 := sSt S 2) (Nat.le_refl _) ?_ (hI.st 2)
                unfold sp_row; rw [if_pos (by omega)]; simp only [hS]; rw [if_neg (by omega)]
            · skip
              cases c_40
          · skip
            refine V.aload_n (pc := 30) 0 d_RR_row_30 rfl rfl ?_
            refine V.getf (pc := 31) 0 cl_RR fl_RR_11_RR d_RR_row_31 b0 (Nat.le_of_ble_eq_true rfl) rfl ?_
            refine V.iload_n (pc := 34) 2 d_RR_row_34 rfl rfl ?_
            refine V.aald0 (pc := 35) d_RR_row_35 b1 (by omega) (by omega) ?_
            rw [hgt]
            refine V.astore (pc := 36) d_RR_row_36 (Nat.le_of_ble_eq_true rfl) rfl ?_
            dsimp only [put]
            refine V.aload (pc := 38) d_RR_row_38 rfl ?_
            refine V.ifnonnull (tgt := 49) (pc := 40) d_RR_row_40 (by decide) (fun a_40 c_40 => ?_) (fun c_40 => ?_)
            · skip
              cases c_40
            · skip
              refine V.aload_n (pc := 43) 0 d_RR_row_43 rfl rfl ?_
              refine V.iconst (pc := 44) d_RR_row_44 ⟨by decide, by decide⟩ ?_
              refine V.cV1 (pc := 45) (kc2 := 2) (ks2 := 43) ml_RR_51 b0 (cc_RR_found _ _ (by omega) _ b0 _) d_RR_row_45 (Nat.le_of_ble_eq_true rfl) (Nat.le_of_ble_eq_true rfl) (Nat.le_of_ble_eq_true rfl) (Nat.le_of_ble_eq_true rfl) ?_
              rintro _ h9 s9 ⟨rfl, hq2, hq3⟩
              rw [hq2, hq3]
              clear hq2 hq3 h9 s9
              dsimp only [Option.toList, List.cons_append, List.nil_append]
              first | rw [fi1] | rw [fi2] | rw [fi3] | rw [fi4] | rw [fi5]
              refine V.ret (pc := 48) (r := some (vI _)) d_RR_row_48 (Or.inl rfl) rfl ?_
              refine qc_of (S2 := sSt S 1) (Nat.le_refl _) ?_ (hI.st 1)
              unfold sp_row; rw [if_pos (by omega)]; simp only [hS]
        · skip
          refine V.ldc (pc := 27) (-1000001) ck_RR_50 rfl ⟨by decide, by decide⟩ d_RR_row_27 ?_
          refine V.ret (pc := 29) (r := some (vI _)) d_RR_row_29 (Or.inl rfl) rfl ?_
          exact qc_of (Nat.le_refl _) (by unfold sp_row; rw [if_neg (by omega)]) hI
set_option maxRecDepth 20000 in
theorem lq_RR_strip (S : SS) (h : MH) (hI : CI S h) (sz : Nat) (hsz : 37 ≤ sz) (hfr : ∀ a c, h a = some c → a < sz) (pl sh i n : Int) (hpl : 0 ≤ pl ∧ pl ≤ 9) (hsh : 0 ≤ sh ∧ sh ≤ 7) (hn : 1 ≤ n ∧ n ≤ 20) (l : Int) (m a bi : Nat) (g f : Nat → Int) (hS : S.1 sh.toNat = some (l, m, g)) (hoa : h a = some (kO 2 [vI l, vR bi])) (hob : h bi = some (kA (sh.toNat + 1) m f)) (hfg : ∀ i, i < m → f i = g i) (hm : m ≤ 100) (hi : 0 ≤ i) (him : i + n ≤ m) : ∀ (c k : Nat) (se kk : Int) (x : Option MV) (N : Nat), (k : Int) + c = n → kk = k → se = (N : Int) → N < 1048576 → (∀ v, N.testBit v = true ↔ ∃ j, j < k ∧ (g (i.toNat + j)).toNat = v) → (∀ j, j < k → 0 ≤ g (i.toNat + j) ∧ g (i.toNat + j) < n) → (∀ j, j < k → ∀ l2, l2 < k → g (i.toNat + j) = g (i.toNat + l2) → j = l2) →
    V M_RR_strip 6 72 [some (vR 0), some (vI pl), some (vI sh), some (vI i), some (vI n), some (vR a), some (vI se), some (vI kk), x] [] h sz 3 45 (QCX (sp_strip S pl sh i n) sz) := by
  obtain ⟨gs, gt, tr, en, fs, fp, ⟨b0, b1, b2, b3, b4, b5, b6, b7⟩, hcc⟩ := id hI
  intro c
  induction c with
  | zero =>
    intro k se kk x N hc hkk hse hN20 hbits hr hd
    refine V.iload (pc := 72) d_RR_strip_72 rfl ?_
    refine V.iload (pc := 74) d_RR_strip_74 rfl ?_
    refine V.icmp_ge (tgt := 131) (pc := 76) d_RR_strip_76 (by decide) (fun c_76 => ?_) (fun c_76 => ?_)
    · skip
      have hpm : isPerm (fun q => g (i.toNat + q)) n.toNat := ⟨fun j hj => by have := hr j (by omega); show 0 ≤ g (i.toNat + j) ∧ g (i.toNat + j) < ((n.toNat : Nat) : Int); omega, fun j hj l2 hl2 e => hd j (by omega) l2 (by omega) e⟩
      refine V.aload_n (pc := 131) 0 d_RR_strip_131 rfl rfl ?_
      refine V.iload_n (pc := 132) 1 d_RR_strip_132 rfl rfl ?_
      refine V.aload (pc := 133) d_RR_strip_133 rfl ?_
      refine V.getf (pc := 135) 1 cl_Sh fl_RR_65_Sh d_RR_strip_135 hoa (Nat.le_of_ble_eq_true rfl) rfl ?_
      refine V.iload_n (pc := 138) 3 d_RR_strip_138 rfl rfl ?_
      refine V.iload_n (pc := 139) 3 d_RR_strip_139 rfl rfl ?_
      refine V.iload (pc := 140) d_RR_strip_140 rfl ?_
      refine V.iadd (pc := 142) d_RR_strip_142 ⟨by omega, by omega⟩ ?_
      refine V.cS3 (pc := 143) (kc2 := 2) (ks2 := 25) ml_RR_103 (cc_JA_copyOfRange bi (sh.toNat + 1) m f i (i + n) (by omega) (by omega) _ hob _) d_RR_strip_143 (Nat.le_of_ble_eq_true rfl) (Nat.le_of_ble_eq_true rfl) (Nat.le_of_ble_eq_true rfl) (Nat.le_of_ble_eq_true rfl) ?_
      rintro _ _ _ ⟨rfl, rfl, g9, rfl, hg9⟩
      dsimp only [Option.toList, List.cons_append, List.nil_append]
      rw [show (i + n - i).toNat = n.toNat by omega] at hg9 ⊢
      have hgA : Gr h (hset h sz (kA 0 n.toNat g9)) := (Gr.rf h).new _ hsz (fr_none hfr (Nat.le_refl _))
      have hst9 : ∀ q, q < n.toNat → g9 q = (fun q => g (i.toNat + q)) q := fun q hq => by
        rw [hg9 q hq]; exact hfg _ (by omega)
      refine V.fresh (fun hfr2 => ?_)
      refine V.cS1 (pc := 146) (kc2 := 0) (ks2 := 0) ml_RR_109 (cc_RR_stripOf (sz + 1) sz 0 n.toNat g9 (by omega) (perm_cong (fun q hq => (hst9 q hq).symm) hpm) _ hset_s) d_RR_strip_146 (Nat.le_of_ble_eq_true rfl) (Nat.le_of_ble_eq_true rfl) (Nat.le_of_ble_eq_true rfl) (Nat.le_of_ble_eq_true rfl) ?_
      rintro r9 h9 s9 hq9
      obtain ⟨a9, k9, rfl, hs9, hgr, hk9, hT⟩ := st_made (by omega) hpm hst9 (by omega) hsz hfr2 hset_s hq9
      dsimp only [Option.toList, List.cons_append, List.nil_append]
      have hI2 := (hI.grow hgA).grow hgr
      obtain ⟨gs2, gt2, tr2, en2, fs2, fp2, ⟨c0, -⟩, -⟩ := id hI2
      refine V.cV2 (pc := 149) (kc2 := 0) (ks2 := 0) ml_RR_87 c0 (cc_RR_shelve S _ hI2 _ (by omega) a9 _ _ _ _ hT _) d_RR_strip_149 (Nat.le_of_ble_eq_true rfl) (Nat.le_of_ble_eq_true rfl) (Nat.le_of_ble_eq_true rfl) (Nat.le_of_ble_eq_true rfl) ?_
      rintro _ h8 s8 ⟨hq1, rfl, hCI⟩
      dsimp only [Option.toList, List.cons_append, List.nil_append]
      refine V.ret (pc := 152) (r := some (vI _)) d_RR_strip_152 (Or.inl rfl) rfl ?_
      refine qcx_of (S2 := sTh S pl.toNat (some (k9, n.toNat, fun q => g (i.toNat + q), fun _ => 0))) (by omega) ?_ hCI
      unfold sp_strip; rw [if_pos (by omega)]; simp only [hS]; rw [if_pos (by omega), if_pos hpm]
      exact ⟨k9, hk9, rfl⟩
    · skip
      exfalso; omega
  | succ c ih =>
    intro k se kk x N hc hkk hse hN20 hbits hr hd
    refine V.iload (pc := 72) d_RR_strip_72 rfl ?_
    refine V.iload (pc := 74) d_RR_strip_74 rfl ?_
    refine V.icmp_ge (tgt := 131) (pc := 76) d_RR_strip_76 (by decide) (fun c_76 => ?_) (fun c_76 => ?_)
    · skip
      exfalso; omega
    · skip
      refine V.aload (pc := 79) d_RR_strip_79 rfl ?_
      refine V.getf (pc := 81) 1 cl_Sh fl_RR_65_Sh d_RR_strip_81 hoa (Nat.le_of_ble_eq_true rfl) rfl ?_
      refine V.iload_n (pc := 84) 3 d_RR_strip_84 rfl rfl ?_
      refine V.iload (pc := 85) d_RR_strip_85 rfl ?_
      refine V.iadd (pc := 87) d_RR_strip_87 ⟨by omega, by omega⟩ ?_
      refine V.iald (pc := 88) d_RR_strip_88 hob (by omega) (by omega) ?_
      rw [show (i + kk).toNat = i.toNat + k by omega, hfg _ (by omega)]
      refine V.istore (pc := 89) d_RR_strip_89 (Nat.le_of_ble_eq_true rfl) rfl ?_
      dsimp only [put]
      refine V.iload (pc := 91) d_RR_strip_91 rfl ?_
      refine V.if_lt (tgt := 113) (pc := 93) d_RR_strip_93 (by decide) (fun c_93 => ?_) (fun c_93 => ?_)
      · skip
        refine V.ldc (pc := 113) (-1000001) ck_RR_50 rfl ⟨by decide, by decide⟩ d_RR_strip_113 ?_
        refine V.ret (pc := 115) (r := some (vI _)) d_RR_strip_115 (Or.inl rfl) rfl ?_
        have hnp : ¬ isPerm (fun q => g (i.toNat + q)) n.toNat := fun z => by
          have h9 := z.1 k (by omega)
          have e9 : (fun q => g (i.toNat + q)) k = g (i.toNat + k) := rfl
          rw [e9] at h9
          omega
        refine qcx_of (S2 := S) (Nat.le_refl _) ?_ hI
        unfold sp_strip; rw [if_pos (by omega)]; simp only [hS]; rw [if_pos (by omega), if_neg hnp]
        try trivial
      · skip
        refine V.iload (pc := 96) d_RR_strip_96 rfl ?_
        refine V.iload (pc := 98) d_RR_strip_98 rfl ?_
        refine V.icmp_ge (tgt := 113) (pc := 100) d_RR_strip_100 (by decide) (fun c_100 => ?_) (fun c_100 => ?_)
        · skip
          refine V.ldc (pc := 113) (-1000001) ck_RR_50 rfl ⟨by decide, by decide⟩ d_RR_strip_113 ?_
          refine V.ret (pc := 115) (r := some (vI _)) d_RR_strip_115 (Or.inl rfl) rfl ?_
          have hnp : ¬ isPerm (fun q => g (i.toNat + q)) n.toNat := fun z => by
            have h9 := z.1 k (by omega)
            have e9 : (fun q => g (i.toNat + q)) k = g (i.toNat + k) := rfl
            rw [e9] at h9
            omega
          refine qcx_of (S2 := S) (Nat.le_refl _) ?_ hI
          unfold sp_strip; rw [if_pos (by omega)]; simp only [hS]; rw [if_pos (by omega), if_neg hnp]
          try trivial
        · skip
          rw [hse]
          refine V.iload (pc := 103) d_RR_strip_103 rfl ?_
          refine V.iload (pc := 105) d_RR_strip_105 rfl ?_
          refine V.ishr (pc := 107) (((N / 2 ^ (g (i.toNat + k)).toNat : Nat) : Int)) d_RR_strip_107 (c_shr (by omega) (by omega) (by omega)) ?_
          have hdv := Nat.div_le_self N (2 ^ (g (i.toNat + k)).toNat)
          refine V.iconst (pc := 108) d_RR_strip_108 ⟨by decide, by decide⟩ ?_
          refine V.iand (pc := 109) (((N / 2 ^ (g (i.toNat + k)).toNat % 2 : Nat) : Int)) d_RR_strip_109 (c_and1 (by omega)) ?_
          have hmd := Nat.mod_two_eq_zero_or_one (N / 2 ^ (g (i.toNat + k)).toNat)
          refine V.if_eq (tgt := 116) (pc := 110) d_RR_strip_110 (by decide) (fun c_110 => ?_) (fun c_110 => ?_)
          · skip
            refine V.iload (pc := 116) d_RR_strip_116 rfl ?_
            refine V.iconst (pc := 118) d_RR_strip_118 ⟨by decide, by decide⟩ ?_
            refine V.iload (pc := 119) d_RR_strip_119 rfl ?_
            have hpw : 2 ^ (g (i.toNat + k)).toNat < 2 ^ 20 := Nat.pow_lt_pow_right (by decide) (by omega)
            refine V.ishl (pc := 121) (((2 ^ (g (i.toNat + k)).toNat : Nat) : Int)) d_RR_strip_121 (c_one (by omega) (by omega)) ?_
            refine V.ior (pc := 122) (((N ||| 2 ^ (g (i.toNat + k)).toNat : Nat) : Int)) d_RR_strip_122 (c_or (by omega) (by omega)) ?_
            refine V.istore (pc := 123) d_RR_strip_123 (Nat.le_of_ble_eq_true rfl) rfl ?_
            dsimp only [put]
            refine V.iinc (pc := 125) d_RR_strip_125 rfl ⟨by omega, by omega⟩ (Nat.le_of_ble_eq_true rfl) rfl ?_
            dsimp only [put]
            refine V.goto (tgt := 72) (pc := 128) d_RR_strip_128 (by decide) ?_
            have hnb : ¬ N.testBit (g (i.toNat + k)).toNat = true := by
              rw [Nat.testBit_eq_decide_div_mod_eq, decide_eq_true_eq]; omega
            have hpw2 : 2 ^ (g (i.toNat + k)).toNat < 2 ^ 20 := Nat.pow_lt_pow_right (by decide) (by omega)
            refine ih (k + 1) _ _ _ (N ||| 2 ^ (g (i.toNat + k)).toNat) (by omega) (by omega) rfl ?_ (fun v => ?_) (fun j hj => ?_) (fun j hj l2 hl2 e => ?_)
            · have : N ||| 2 ^ (g (i.toNat + k)).toNat < 2 ^ 20 := Nat.or_lt_two_pow (by omega) hpw2
              omega
            · rw [Nat.testBit_or, Nat.testBit_two_pow]
              simp only [Bool.or_eq_true, decide_eq_true_eq, hbits v]
              constructor
              · rintro (⟨j, j1, j2⟩ | h1)
                · exact ⟨j, by omega, j2⟩
                · exact ⟨k, by omega, by omega⟩
              · rintro ⟨j, j1, j2⟩
                by_cases e : j = k
                · rw [e] at j2; exact Or.inr (by omega)
                · exact Or.inl ⟨j, by omega, j2⟩
            · by_cases e : j = k
              · rw [e]; omega
              · exact hr j (by omega)
            · by_cases e1 : j = k
              · by_cases e2 : l2 = k
                · omega
                · exfalso; rw [e1] at e
                  have := hr l2 (by omega)
                  exact hnb ((hbits _).mpr ⟨l2, by omega, by omega⟩)
              · by_cases e2 : l2 = k
                · exfalso; rw [e2] at e
                  have := hr j (by omega)
                  exact hnb ((hbits _).mpr ⟨j, by omega, by omega⟩)
                · exact hd j (by omega) l2 (by omega) e
          · skip
            refine V.ldc (pc := 113) (-1000001) ck_RR_50 rfl ⟨by decide, by decide⟩ d_RR_strip_113 ?_
            refine V.ret (pc := 115) (r := some (vI _)) d_RR_strip_115 (Or.inl rfl) rfl ?_
            have hnp : ¬ isPerm (fun q => g (i.toNat + q)) n.toNat := fun z => by
              have hbit : N.testBit (g (i.toNat + k)).toNat = true := by
                rw [Nat.testBit_eq_decide_div_mod_eq, decide_eq_true_eq]; omega
              obtain ⟨j, j1, j2⟩ := (hbits _).mp hbit
              have hrj := hr j j1
              have := z.2 j (by omega) k (by omega) (by show g (i.toNat + j) = g (i.toNat + k); omega)
              omega
            refine qcx_of (S2 := S) (Nat.le_refl _) ?_ hI
            unfold sp_strip; rw [if_pos (by omega)]; simp only [hS]; rw [if_pos (by omega), if_neg hnp]
            try trivial
set_option maxRecDepth 20000 in
theorem cs_RR_strip (S : SS) (h : MH) (hI : CI S h) (pl sh i n : Int) (sz : Nat) (hsz : 37 ≤ sz) : Ct M_RR_strip 6 3 45 [vR 0, vI pl, vI sh, vI i, vI n] h sz (QCX (sp_strip S pl sh i n) sz) := by
  refine Ct.of rfl (Nat.le_of_ble_eq_true rfl) ?_
  dsimp only [lsOf]
  obtain ⟨gs, gt, tr, en, fs, fp, hB, hcc⟩ := id hI
  obtain ⟨b0, b1, b2, b3, b4, b5, b6, b7⟩ := id hB
  refine V.fresh (fun hfr => ?_)
  refine V.iload_n (pc := 0) 1 d_RR_strip_0 rfl rfl ?_
  refine V.cS1 (pc := 1) (kc2 := 3) (ks2 := 45) ml_RR_80 (cc_RR_isPlace _ _ _) d_RR_strip_1 (Nat.le_of_ble_eq_true rfl) (Nat.le_of_ble_eq_true rfl) (Nat.le_of_ble_eq_true rfl) (Nat.le_of_ble_eq_true rfl) ?_
  rintro _ h9 s9 ⟨rfl, hq2, hq3⟩
  rw [hq2, hq3]
  clear hq2 hq3 h9 s9
  dsimp only [Option.toList, List.cons_append, List.nil_append]
  refine V.ifB_eq (tgt := 27) (pc := 4) d_RR_strip_4 (by decide) (fun c_4 => ?_) (fun c_4 => ?_)
  · skip
    refine V.ldc (pc := 27) (-1000001) ck_RR_50 rfl ⟨by decide, by decide⟩ d_RR_strip_27 ?_
    refine V.ret (pc := 29) (r := some (vI _)) d_RR_strip_29 (Or.inl rfl) rfl ?_
    refine qcx_of (S2 := S) (Nat.le_refl _) ?_ hI
    unfold sp_strip; rw [if_neg (by omega)]
  · skip
    refine V.iload_n (pc := 7) 2 d_RR_strip_7 rfl rfl ?_
    refine V.cS1 (pc := 8) (kc2 := 3) (ks2 := 45) ml_RR_46 (cc_RR_isSheet _ _ _) d_RR_strip_8 (Nat.le_of_ble_eq_true rfl) (Nat.le_of_ble_eq_true rfl) (Nat.le_of_ble_eq_true rfl) (Nat.le_of_ble_eq_true rfl) ?_
    rintro _ h9 s9 ⟨rfl, hq2, hq3⟩
    rw [hq2, hq3]
    clear hq2 hq3 h9 s9
    dsimp only [Option.toList, List.cons_append, List.nil_append]
    refine V.ifB_eq (tgt := 27) (pc := 11) d_RR_strip_11 (by decide) (fun c_11 => ?_) (fun c_11 => ?_)
    · skip
      refine V.ldc (pc := 27) (-1000001) ck_RR_50 rfl ⟨by decide, by decide⟩ d_RR_strip_27 ?_
      refine V.ret (pc := 29) (r := some (vI _)) d_RR_strip_29 (Or.inl rfl) rfl ?_
      refine qcx_of (S2 := S) (Nat.le_refl _) ?_ hI
      unfold sp_strip; rw [if_neg (by omega)]
    · skip
      refine V.iload (pc := 14) d_RR_strip_14 rfl ?_
      refine V.iconst (pc := 16) d_RR_strip_16 ⟨by decide, by decide⟩ ?_
      refine V.icmp_lt (tgt := 27) (pc := 17) d_RR_strip_17 (by decide) (fun c_17 => ?_) (fun c_17 => ?_)
      · skip
        refine V.ldc (pc := 27) (-1000001) ck_RR_50 rfl ⟨by decide, by decide⟩ d_RR_strip_27 ?_
        refine V.ret (pc := 29) (r := some (vI _)) d_RR_strip_29 (Or.inl rfl) rfl ?_
        refine qcx_of (S2 := S) (Nat.le_refl _) ?_ hI
        unfold sp_strip; rw [if_neg (by omega)]
      · skip
        refine V.iload (pc := 20) d_RR_strip_20 rfl ?_
        refine V.bipush (pc := 22) d_RR_strip_22 ⟨by decide, by decide⟩ ?_
        refine V.icmp_le (tgt := 30) (pc := 24) d_RR_strip_24 (by decide) (fun c_24 => ?_) (fun c_24 => ?_)
        · skip
          rcases csh_cases (hcc.2.2.2.1 sh.toNat (by omega)) with ⟨hS, hgt⟩ | ⟨l, m, g, a, bi, f, hS, hgt, ha, hb, hoa, hob, hfg, hl1, hl2, hm⟩
          rotate_left
          · skip
            refine V.aload_n (pc := 30) 0 d_RR_strip_30 rfl rfl ?_
            refine V.getf (pc := 31) 0 cl_RR fl_RR_11_RR d_RR_strip_31 b0 (Nat.le_of_ble_eq_true rfl) rfl ?_
            refine V.iload_n (pc := 34) 2 d_RR_strip_34 rfl rfl ?_
            refine V.aald0 (pc := 35) d_RR_strip_35 b1 (by omega) (by omega) ?_
            rw [hgt]
            refine V.astore (pc := 36) d_RR_strip_36 (Nat.le_of_ble_eq_true rfl) rfl ?_
            dsimp only [put]
            refine V.aload (pc := 38) d_RR_strip_38 rfl ?_
            refine V.ifnonnull (tgt := 49) (pc := 40) d_RR_strip_40 (by decide) (fun a_40 c_40 => ?_) (fun c_40 => ?_)
            · skip
              refine V.aload (pc := 49) d_RR_strip_49 rfl ?_
              refine V.iload_n (pc := 51) 3 d_RR_strip_51 rfl rfl ?_
              refine V.iload (pc := 52) d_RR_strip_52 rfl ?_
              refine V.cV2 (pc := 54) (kc2 := 3) (ks2 := 45) ml_RR_61 hoa (cc_Sh_holds a bi _ m l _ _ f hm _ hoa hob _) d_RR_strip_54 (Nat.le_of_ble_eq_true rfl) (Nat.le_of_ble_eq_true rfl) (Nat.le_of_ble_eq_true rfl) (Nat.le_of_ble_eq_true rfl) ?_
              rintro _ h9 s9 ⟨rfl, hq2, hq3⟩
              rw [hq2, hq3]
              clear hq2 hq3 h9 s9
              dsimp only [Option.toList, List.cons_append, List.nil_append]
              refine V.ifB_ne (tgt := 66) (pc := 57) d_RR_strip_57 (by decide) (fun c_57 => ?_) (fun c_57 => ?_)
              · skip
                refine V.iconst (pc := 66) d_RR_strip_66 ⟨by decide, by decide⟩ ?_
                refine V.istore (pc := 67) d_RR_strip_67 (Nat.le_of_ble_eq_true rfl) rfl ?_
                dsimp only [put]
                refine V.iconst (pc := 69) d_RR_strip_69 ⟨by decide, by decide⟩ ?_
                refine V.istore (pc := 70) d_RR_strip_70 (Nat.le_of_ble_eq_true rfl) rfl ?_
                dsimp only [put]
                refine V.pad ?_
                exact lq_RR_strip S h hI sz hsz hfr pl sh i n (by omega) (by omega) (by omega) l m a bi g f hS hoa hob hfg hm (by omega) (by omega) n.toNat 0 0 0 none 0 (by omega) rfl rfl (by omega) (fun v => by rw [Nat.zero_testBit]; exact ⟨fun z => (by cases z), fun ⟨j, j1, _⟩ => (by omega)⟩) (fun j hj => by omega) (fun j hj => by omega)
              · skip
                refine V.aload_n (pc := 60) 0 d_RR_strip_60 rfl rfl ?_
                refine V.iconst (pc := 61) d_RR_strip_61 ⟨by decide, by decide⟩ ?_
                refine V.cV1 (pc := 62) (kc2 := 3) (ks2 := 45) ml_RR_51 b0 (cc_RR_found _ _ (by omega) _ b0 _) d_RR_strip_62 (Nat.le_of_ble_eq_true rfl) (Nat.le_of_ble_eq_true rfl) (Nat.le_of_ble_eq_true rfl) (Nat.le_of_ble_eq_true rfl) ?_
                rintro _ h9 s9 ⟨rfl, hq2, hq3⟩
                rw [hq2, hq3]
                clear hq2 hq3 h9 s9
                dsimp only [Option.toList, List.cons_append, List.nil_append]
                first | rw [fi1] | rw [fi2] | rw [fi3] | rw [fi4] | rw [fi5]
                refine V.ret (pc := 65) (r := some (vI _)) d_RR_strip_65 (Or.inl rfl) rfl ?_
                refine qcx_of (S2 := sSt S 2) (Nat.le_refl _) ?_ (hI.st 2)
                unfold sp_strip; rw [if_pos (by omega)]; simp only [hS]; rw [if_neg (by omega)]
                try trivial
            · skip
              cases c_40
          · skip
            refine V.aload_n (pc := 30) 0 d_RR_strip_30 rfl rfl ?_
            refine V.getf (pc := 31) 0 cl_RR fl_RR_11_RR d_RR_strip_31 b0 (Nat.le_of_ble_eq_true rfl) rfl ?_
            refine V.iload_n (pc := 34) 2 d_RR_strip_34 rfl rfl ?_
            refine V.aald0 (pc := 35) d_RR_strip_35 b1 (by omega) (by omega) ?_
            rw [hgt]
            refine V.astore (pc := 36) d_RR_strip_36 (Nat.le_of_ble_eq_true rfl) rfl ?_
            dsimp only [put]
            refine V.aload (pc := 38) d_RR_strip_38 rfl ?_
            refine V.ifnonnull (tgt := 49) (pc := 40) d_RR_strip_40 (by decide) (fun a_40 c_40 => ?_) (fun c_40 => ?_)
            · skip
              cases c_40
            · skip
              refine V.aload_n (pc := 43) 0 d_RR_strip_43 rfl rfl ?_
              refine V.iconst (pc := 44) d_RR_strip_44 ⟨by decide, by decide⟩ ?_
              refine V.cV1 (pc := 45) (kc2 := 3) (ks2 := 45) ml_RR_51 b0 (cc_RR_found _ _ (by omega) _ b0 _) d_RR_strip_45 (Nat.le_of_ble_eq_true rfl) (Nat.le_of_ble_eq_true rfl) (Nat.le_of_ble_eq_true rfl) (Nat.le_of_ble_eq_true rfl) ?_
              rintro _ h9 s9 ⟨rfl, hq2, hq3⟩
              rw [hq2, hq3]
              clear hq2 hq3 h9 s9
              dsimp only [Option.toList, List.cons_append, List.nil_append]
              first | rw [fi1] | rw [fi2] | rw [fi3] | rw [fi4] | rw [fi5]
              refine V.ret (pc := 48) (r := some (vI _)) d_RR_strip_48 (Or.inl rfl) rfl ?_
              refine qcx_of (S2 := sSt S 1) (Nat.le_refl _) ?_ (hI.st 1)
              unfold sp_strip; rw [if_pos (by omega)]; simp only [hS]
        · skip
          refine V.ldc (pc := 27) (-1000001) ck_RR_50 rfl ⟨by decide, by decide⟩ d_RR_strip_27 ?_
          refine V.ret (pc := 29) (r := some (vI _)) d_RR_strip_29 (Or.inl rfl) rfl ?_
          refine qcx_of (S2 := S) (Nat.le_refl _) ?_ hI
          unfold sp_strip; rw [if_neg (by omega)]
theorem chk_all {n : Nat} (hn : n ≤ 8) : ∀ (f P : Nat) (L : List Nat), chk n f P L = true → isPerm (dgI P) n → ∀ G ∈ L, isPerm (dgI G) n ∧ fdK n G = true
  | 0, P, L, h, _, G, _ => by cases h
  | f + 1, P, L, h, hp, G, hG => by
    obtain ⟨M, h1, h2⟩ := chk_inv h
    have hM : ∀ G ∈ M, isPerm (dgI G) n ∧ fdK n G = true := by
      rcases h2 with ⟨-, rfl⟩ | ⟨hz, h2⟩
      · intro G hG; cases hG
      · exact chk_all hn f (nxK n P) M h2 (perm_nx hn hp hz)
    rcases h1 with ⟨hf, rfl⟩ | ⟨-, rfl⟩
    · rcases List.mem_cons.mp hG with rfl | hG
      · exact ⟨hp, hf⟩
      · exact hM G hG
    · exact hM G hG
theorem FLn_fold {n : Nat} (h1 : 1 ≤ n) (h8 : n ≤ 8) {i G : Nat} (h : (FLn n)[i]? = some G) : isPerm (dgI G) n ∧ fdK n G = true := by
  obtain ⟨f, hf⟩ := FLn_ok h1 h8
  exact chk_all h8 f (idP n) (FLn n) hf (idP_perm h1 h8) G (List.mem_of_getElem? h)
theorem CI.hF {S : SS} {h : MH} (q : CI S h) (fs fp : Nat → Int) : CI S (hF h fs fp) := by
  obtain ⟨gs, gt, tr, en, fs0, fp0, ⟨b0, b1, b2, b3, b4, b5, b6, b7⟩, c⟩ := q
  exact ⟨gs, gt, tr, en, fs, fp, ⟨hF_0 b0, hset_o (by decide) (hset_o (by decide) b1), hset_o (by decide) (hset_o (by decide) b2), hset_o (by decide) (hset_o (by decide) b3), hset_o (by decide) (hset_o (by decide) b4), hset_o (by decide) (hset_o (by decide) b5), hF_6, hF_7⟩, (c.set0 (a := 6) (by omega) _).set0 (a := 7) (by omega) _⟩
theorem cc_RR_seekNth2 (n : Nat) (hn : 1 ≤ n ∧ n ≤ 8) (i : Int) (hi : 0 ≤ i) (x : Int) (h : MH) (h0 : h 0 = some (oRR x)) (fs fp : Nat → Int) (h6 : h 6 = some (kA 0 8 fs)) (h7 : h 7 = some (kA 0 8 fp)) (sz : Nat) : Ct M_RR_seekNthFold 11 0 0 [vR 0, vI (n : Int), vI i] h sz (QNF n i h sz) := by
  have := cc_RR_seekNthFold n hn i hi x h h0 fs fp sz
  rw [hF_id h6 h7] at this
  exact this
set_option maxRecDepth 20000 in
theorem cs_RR_nthFold (S : SS) (h : MH) (hI : CI S h) (pl n i : Int) (sz : Nat) (hsz : 37 ≤ sz) : Ct M_RR_nthFold 12 3 45 [vR 0, vI pl, vI n, vI i] h sz (QCI (sp_nthFold S pl n i) sz) := by
  refine Ct.of rfl (Nat.le_of_ble_eq_true rfl) ?_
  dsimp only [lsOf]
  obtain ⟨gs, gt, tr, en, fs, fp, hB, hcc⟩ := id hI
  obtain ⟨b0, b1, b2, b3, b4, b5, b6, b7⟩ := id hB
  refine V.fresh (fun hfr => ?_)
  refine V.iload_n (pc := 0) 1 d_RR_nthFold_0 rfl rfl ?_
  refine V.cS1 (pc := 1) (kc2 := 3) (ks2 := 45) ml_RR_80 (cc_RR_isPlace _ _ _) d_RR_nthFold_1 (Nat.le_of_ble_eq_true rfl) (Nat.le_of_ble_eq_true rfl) (Nat.le_of_ble_eq_true rfl) (Nat.le_of_ble_eq_true rfl) ?_
  rintro _ h9 s9 ⟨rfl, hq2, hq3⟩
  rw [hq2, hq3]
  clear hq2 hq3 h9 s9
  dsimp only [Option.toList, List.cons_append, List.nil_append]
  refine V.ifB_eq (tgt := 18) (pc := 4) d_RR_nthFold_4 (by decide) (fun c_4 => ?_) (fun c_4 => ?_)
  · skip
    refine V.ldc (pc := 18) (-1000001) ck_RR_50 rfl ⟨by decide, by decide⟩ d_RR_nthFold_18 ?_
    refine V.ret (pc := 20) (r := some (vI _)) d_RR_nthFold_20 (Or.inl rfl) rfl ?_
    exact qc_of (Nat.le_refl _) (by unfold sp_nthFold; rw [if_neg (by omega)]) hI
  · skip
    refine V.iload_n (pc := 7) 2 d_RR_nthFold_7 rfl rfl ?_
    refine V.iconst (pc := 8) d_RR_nthFold_8 ⟨by decide, by decide⟩ ?_
    refine V.icmp_lt (tgt := 18) (pc := 9) d_RR_nthFold_9 (by decide) (fun c_9 => ?_) (fun c_9 => ?_)
    · skip
      refine V.ldc (pc := 18) (-1000001) ck_RR_50 rfl ⟨by decide, by decide⟩ d_RR_nthFold_18 ?_
      refine V.ret (pc := 20) (r := some (vI _)) d_RR_nthFold_20 (Or.inl rfl) rfl ?_
      exact qc_of (Nat.le_refl _) (by unfold sp_nthFold; rw [if_neg (by omega)]) hI
    · skip
      refine V.iload_n (pc := 12) 2 d_RR_nthFold_12 rfl rfl ?_
      refine V.bipush (pc := 13) d_RR_nthFold_13 ⟨by decide, by decide⟩ ?_
      refine V.icmp_le (tgt := 21) (pc := 15) d_RR_nthFold_15 (by decide) (fun c_15 => ?_) (fun c_15 => ?_)
      · skip
        refine V.iload_n (pc := 21) 3 d_RR_nthFold_21 rfl rfl ?_
        refine V.if_lt (tgt := 34) (pc := 22) d_RR_nthFold_22 (by decide) (fun c_22 => ?_) (fun c_22 => ?_)
        · skip
          refine V.aload_n (pc := 34) 0 d_RR_nthFold_34 rfl rfl ?_
          refine V.ldc (pc := 35) (-1000000) ck_RR_117 rfl ⟨by decide, by decide⟩ d_RR_nthFold_35 ?_
          refine V.cV1 (pc := 37) (kc2 := 3) (ks2 := 45) ml_RR_58 b0 (cc_RR_settled _ _ _ b0 _) d_RR_nthFold_37 (Nat.le_of_ble_eq_true rfl) (Nat.le_of_ble_eq_true rfl) (Nat.le_of_ble_eq_true rfl) (Nat.le_of_ble_eq_true rfl) ?_
          rintro _ h9 s9 ⟨rfl, hq2, hq3⟩
          rw [hq2, hq3]
          clear hq2 hq3 h9 s9
          dsimp only [Option.toList, List.cons_append, List.nil_append]
          refine V.ret (pc := 40) (r := some (vI _)) d_RR_nthFold_40 (Or.inl rfl) rfl ?_
          refine qc_of (S2 := sSt S 0) (Nat.le_refl _) ?_ (hI.st 0)
          unfold sp_nthFold; rw [if_pos (by omega), if_neg (by omega)]
        · skip
          refine V.aload_n (pc := 25) 0 d_RR_nthFold_25 rfl rfl ?_
          refine V.iload_n (pc := 26) 2 d_RR_nthFold_26 rfl rfl ?_
          refine V.iload_n (pc := 27) 3 d_RR_nthFold_27 rfl rfl ?_
          have en9 : (vI n : MV) = vI (n.toNat : Int) := by rw [show ((n.toNat : Nat) : Int) = n by omega]
          rw [en9]
          refine V.cV2 (pc := 28) (kc2 := 3) (ks2 := 45) ml_RR_220 b0 (cc_RR_seekNth2 n.toNat (by omega) i (by omega) _ _ b0 _ _ b6 b7 _) d_RR_nthFold_28 (Nat.le_of_ble_eq_true rfl) (Nat.le_of_ble_eq_true rfl) (Nat.le_of_ble_eq_true rfl) (Nat.le_of_ble_eq_true rfl) ?_
          rintro r9 hx9 s9 ⟨hq3, hq9⟩
          rw [hq3]
          clear hq3 s9
          rcases hq9 with ⟨rfl, hle, fs1, fp1, rfl⟩ | ⟨rfl, hlt, fs1, fp1, G, rfl, hG, hgs⟩
          · skip
            dsimp only [Option.toList, List.cons_append, List.nil_append]
            refine V.if_ne (tgt := 41) (pc := 31) d_RR_nthFold_31 (by decide) (fun c_31 => ?_) (fun c_31 => ?_)
            · skip
              exact absurd rfl c_31
            · skip
              refine V.aload_n (pc := 34) 0 d_RR_nthFold_34 rfl rfl ?_
              refine V.ldc (pc := 35) (-1000000) ck_RR_117 rfl ⟨by decide, by decide⟩ d_RR_nthFold_35 ?_
              refine V.cV1 (pc := 37) (kc2 := 3) (ks2 := 45) ml_RR_58 (hF_0 b0) (cc_RR_settled _ _ _ (hF_0 b0) _) d_RR_nthFold_37 (Nat.le_of_ble_eq_true rfl) (Nat.le_of_ble_eq_true rfl) (Nat.le_of_ble_eq_true rfl) (Nat.le_of_ble_eq_true rfl) ?_
              rintro _ h9 s9 ⟨rfl, hq2, hq3⟩
              rw [hq2, hq3]
              clear hq2 hq3 h9 s9
              dsimp only [Option.toList, List.cons_append, List.nil_append]
              refine V.ret (pc := 40) (r := some (vI _)) d_RR_nthFold_40 (Or.inl rfl) rfl ?_
              refine qc_of (S2 := sSt S 0) (Nat.le_refl _) ?_ ((hI.hF fs1 fp1).st 0)
              unfold sp_nthFold; rw [if_pos (by omega), if_neg (by omega)]
          · skip
            dsimp only [Option.toList, List.cons_append, List.nil_append]
            obtain ⟨hpmG, hfdG⟩ := FLn_fold (show 1 ≤ n.toNat by omega) (show n.toNat ≤ 8 by omega) hG
            have hIF := hI.hF fs1 fp1
            refine V.fresh (fun hfrF => ?_)
            refine V.if_ne (tgt := 41) (pc := 31) d_RR_nthFold_31 (by decide) (fun c_31 => ?_) (fun c_31 => ?_)
            · skip
              refine V.aload_n (pc := 41) 0 d_RR_nthFold_41 rfl rfl ?_
              refine V.iload_n (pc := 42) 1 d_RR_nthFold_42 rfl rfl ?_
              refine V.aload_n (pc := 43) 0 d_RR_nthFold_43 rfl rfl ?_
              refine V.getf (pc := 44) 4 cl_RR fl_RR_36_RR d_RR_nthFold_44 (hF_0 b0) (Nat.le_of_ble_eq_true rfl) rfl ?_
              refine V.iload_n (pc := 47) 2 d_RR_nthFold_47 rfl rfl ?_
              rw [← en9]
              refine V.cS2 (pc := 48) (kc2 := 2) (ks2 := 25) ml_RR_223 (cc_JA_copyOf 6 0 8 fs1 n (by omega) (by omega) _ hF_6 _) d_RR_nthFold_48 (Nat.le_of_ble_eq_true rfl) (Nat.le_of_ble_eq_true rfl) (Nat.le_of_ble_eq_true rfl) (Nat.le_of_ble_eq_true rfl) ?_
              rintro _ _ _ ⟨rfl, rfl, g9, rfl, hg9⟩
              dsimp only [Option.toList, List.cons_append, List.nil_append]
              have hgA : Gr (hF h fs1 fp1) (hset (hF h fs1 fp1) sz (kA 0 n.toNat g9)) := (Gr.rf _).new _ hsz (fr_none hfrF (Nat.le_refl _))
              have hst9 : ∀ q, q < n.toNat → g9 q = dgI G q := fun q hq => by
                rw [hg9 q hq]; exact hgs q hq
              refine V.fresh (fun hfr2 => ?_)
              refine V.cS1 (pc := 51) (kc2 := 0) (ks2 := 0) ml_RR_109 (cc_RR_stripOf (sz + 1) sz 0 n.toNat g9 (by omega) (perm_cong (fun q hq => (hst9 q hq).symm) hpmG) _ hset_s) d_RR_nthFold_51 (Nat.le_of_ble_eq_true rfl) (Nat.le_of_ble_eq_true rfl) (Nat.le_of_ble_eq_true rfl) (Nat.le_of_ble_eq_true rfl) ?_
              rintro r9 h9 s9 hq9
              obtain ⟨a9, k9, rfl, hs9, hgr, hk9, hT⟩ := st_made (by omega) hpmG hst9 (by omega) hsz hfr2 hset_s hq9
              have e8 : k9 = 8 := hk9.2.mpr ⟨dgI (psK G n.toNat), pos_K (by omega) hpmG, (fd_iff (by omega) hpmG (pos_K (by omega) hpmG)).mp hfdG⟩
              rw [e8] at hT
              dsimp only [Option.toList, List.cons_append, List.nil_append]
              have hI2 := (hIF.grow hgA).grow hgr
              obtain ⟨gs2, gt2, tr2, en2, fs2, fp2, ⟨c0, -⟩, -⟩ := id hI2
              refine V.cV2 (pc := 54) (kc2 := 0) (ks2 := 0) ml_RR_87 c0 (cc_RR_shelve S _ hI2 _ (by omega) a9 _ _ _ _ hT _) d_RR_nthFold_54 (Nat.le_of_ble_eq_true rfl) (Nat.le_of_ble_eq_true rfl) (Nat.le_of_ble_eq_true rfl) (Nat.le_of_ble_eq_true rfl) ?_
              rintro _ h8 s8 ⟨hq1, rfl, hCI⟩
              dsimp only [Option.toList, List.cons_append, List.nil_append]
              refine V.ret (pc := 57) (r := some (vI _)) d_RR_nthFold_57 (Or.inl rfl) rfl ?_
              refine qc_of (S2 := sTh S pl.toNat (some (8, n.toNat, dgI G, fun _ => 0))) (by omega) ?_ hCI
              unfold sp_nthFold; rw [if_pos (by omega), if_pos (by omega), List.getD_eq_getElem?_getD, hG]
              rfl
            · skip
              exact absurd c_31 (by decide)
      · skip
        refine V.ldc (pc := 18) (-1000001) ck_RR_50 rfl ⟨by decide, by decide⟩ d_RR_nthFold_18 ?_
        refine V.ret (pc := 20) (r := some (vI _)) d_RR_nthFold_20 (Or.inl rfl) rfl ?_
        exact qc_of (Nat.le_refl _) (by unfold sp_nthFold; rw [if_neg (by omega)]) hI
