/-! THE REFERENCE: row, land, strip, printed by wip/whole/gen/ref8.py -/
theorem KN.rf (σ : SM) : KN σ σ := ⟨fun _ _ => rfl, fun _ _ => ⟨rfl, rfl⟩, fun _ _ _ _ _ => rfl⟩
theorem KN.upd5 {σ τ : SM} (h : KN σ τ) (x : Int) : KN σ (sset τ 5 (upf (τ 5) 10 x)) := by
  refine ⟨fun j hj => by rw [sset_n (by omega)]; exact h.1 j hj, fun t ht => ⟨by rw [sset_n (by decide)]; exact (h.2.1 t ht).1, by rw [sset_e, upf_n (by omega)]; exact (h.2.1 t ht).2⟩, fun j j6 j9 i hi => by rw [sset_n (by omega)]; exact h.2.2 j j6 j9 i hi⟩
theorem KN.updj {σ τ : SM} (h : KN σ τ) {k : Nat} (k6 : 6 ≤ k) (k9 : k ≤ 9) {f : Nat → Int} (hf : ∀ i, i < 400 → f i = τ k i) : KN σ (sset τ k f) := by
  refine ⟨fun j hj => by rw [sset_n (by omega)]; exact h.1 j hj, fun t ht => ⟨by rw [sset_n (by omega)]; exact (h.2.1 t ht).1, by rw [sset_n (by omega)]; exact (h.2.1 t ht).2⟩, fun j j6 j9 i hi => ?_⟩
  by_cases e : j = k
  · subst e; rw [sset_e, hf i hi]; exact h.2.2 j j6 j9 i hi
  · rw [sset_n e]; exact h.2.2 j j6 j9 i hi
theorem KN.upd6 {σ τ : SM} (h : KN σ τ) {pp x : Int} (hp : 0 ≤ pp := by omega) : KN σ (sset τ 6 (upf (τ 6) ((400 : Int) + pp).toNat x)) := h.updj (by omega) (by omega) (fun i hi => upf_n (by omega))
theorem KN.updx {σ τ : SM} (h : KN σ τ) {k : Nat} (hk : k = 3 ∨ (13 ≤ k ∧ k ≤ 18)) (f : Nat → Int) : KN σ (sset τ k f) := by
  refine ⟨fun j hj => by rw [sset_n (by omega)]; exact h.1 j hj, fun t ht => ⟨by rw [sset_n (by omega)]; exact (h.2.1 t ht).1, by rw [sset_n (by omega)]; exact (h.2.1 t ht).2⟩, fun j j6 j9 i hi => by rw [sset_n (by omega)]; exact h.2.2 j j6 j9 i hi⟩
set_option maxRecDepth 20000 in
theorem lp_Mo_row (S : SS) (σ : SM) (hI : RI S σ) (pl sh i n : Int) (hpl : 0 ≤ pl ∧ pl ≤ 9) (hsh : 0 ≤ sh ∧ sh ≤ 7) (hnn : 1 ≤ n ∧ n ≤ 20) (l : Int) (m : Nat) (f : Nat → Int) (hS : S.1 sh.toNat = some (l, m, f)) (hm1 : m ≤ 100) (hi0 : 0 ≤ i) (him : i + 2 * n ≤ m) (hit : ∀ i, i < m → σ 2 (100 * sh.toNat + i) = f i) (sz : Nat) : ∀ (k p : Nat) (pp : Int) (x : Option MV) (τ : SM), (p : Int) + k = 2 * n → pp = p → τ 2 = σ 2 → τ 5 10 = n → KN σ τ → (∀ q, q < p → τ 6 (400 + q) = sg f i.toNat q) → (∀ q, q < p → f (i.toNat + q) ≠ 0) →
    V M_Mo_row 3 88 [some (vR 8), some (vI pl), some (vI sh), some (vI i), some (vI n), some (vI pp), x] [] (hM τ) sz 0 0 (QS (sp_row S pl sh i n) sz) := by
  intro k
  induction k with
  | zero =>
    intro p pp x τ hk hpp h2 h5 hkn ho hz
    refine V.iload (pc := 88) d_Mo_row_88 rfl ?_
    refine V.iconst (pc := 90) d_Mo_row_90 ⟨by decide, by decide⟩ ?_
    refine V.iload (pc := 91) d_Mo_row_91 rfl ?_
    refine V.imul (pc := 93) d_Mo_row_93 ⟨by omega, by omega⟩ ?_
    refine V.icmp_ge (tgt := 148) (pc := 94) d_Mo_row_94 (by decide) (fun c_94 => ?_) (fun c_94 => ?_)
    · skip
      refine V.aload_n (pc := 148) 0 d_Mo_row_148 rfl rfl ?_
      refine V.iload_n (pc := 149) 1 d_Mo_row_149 rfl rfl ?_
      refine V.iconst (pc := 150) d_Mo_row_150 ⟨by decide, by decide⟩ ?_
      have epl : (vI pl : MV) = vI (pl.toNat : Int) := by rw [show ((pl.toNat : Nat) : Int) = pl by omega]
      rw [epl]
      refine V.cV2 (pc := 151) (kc2 := 0) (ks2 := 0) ml_Mo_157 (hM_o _) (ct_Mo_keepR τ pl.toNat (by omega) _ n.toNat rfl (by rw [h5]; omega) (by omega) (fun q hq => by rw [ho q (by omega)]; unfold sg; split <;> simp) _) d_Mo_row_151 (Nat.le_of_ble_eq_true rfl) (Nat.le_of_ble_eq_true rfl) (Nat.le_of_ble_eq_true rfl) (Nat.le_of_ble_eq_true rfl) ?_
      rintro r9 h9 s9 ⟨rfl, rfl, τ2, rfl, hkp, hone⟩
      have hc9 : ∀ q, q < 2 * n.toNat → (fun q => τ 6 (400 + q)) q = sg f i.toNat q := fun q hq => ho q (by omega)
      rw [rowKind_cong hc9]
      dsimp only [Option.toList, List.cons_append, List.nil_append]
      refine V.ret (pc := 154) (r := some (vI _)) d_Mo_row_154 (Or.inl rfl) rfl ?_
      refine qs_of (S2 := sTh S pl.toNat (some (rowKind (sg f i.toNat) n.toNat, n.toNat, sg f i.toNat, fun _ => 0))) (by unfold sp_row; rw [if_pos (by omega)]; simp only [hS]; rw [if_pos (by omega), if_pos (fun q hq => hz q (by omega))]) (RI.put (hI.kn hkn) (by omega) hkp (R_one_row hc9 hone))
    · skip
      exfalso; omega
  | succ k ih =>
    intro p pp x τ hk hpp h2 h5 hkn ho hz
    refine V.iload (pc := 88) d_Mo_row_88 rfl ?_
    refine V.iconst (pc := 90) d_Mo_row_90 ⟨by decide, by decide⟩ ?_
    refine V.iload (pc := 91) d_Mo_row_91 rfl ?_
    refine V.imul (pc := 93) d_Mo_row_93 ⟨by omega, by omega⟩ ?_
    refine V.icmp_ge (tgt := 148) (pc := 94) d_Mo_row_94 (by decide) (fun c_94 => ?_) (fun c_94 => ?_)
    · skip
      exfalso; omega
    · skip
      refine V.aload_n (pc := 97) 0 d_Mo_row_97 rfl rfl ?_
      refine V.getf (pc := 98) 2 cl_Mo fl_Mo_16_Mo d_Mo_row_98 (hM_o _) (Nat.le_of_ble_eq_true rfl) rfl ?_
      refine V.bipush (pc := 101) d_Mo_row_101 ⟨by decide, by decide⟩ ?_
      refine V.iload_n (pc := 103) 2 d_Mo_row_103 rfl rfl ?_
      refine V.imul (pc := 104) d_Mo_row_104 ⟨by omega, by omega⟩ ?_
      refine V.iload_n (pc := 105) 3 d_Mo_row_105 rfl rfl ?_
      refine V.iadd (pc := 106) d_Mo_row_106 ⟨by omega, by omega⟩ ?_
      refine V.iload (pc := 107) d_Mo_row_107 rfl ?_
      refine V.iadd (pc := 109) d_Mo_row_109 ⟨by omega, by omega⟩ ?_
      refine V.iald (pc := 110) d_Mo_row_110 (ar_item _).1 (by omega) (by omega) ?_
      try simp (disch := omega) only [sset_n, sset_e]
      rw [h2, show (100 * sh + i + pp).toNat = 100 * sh.toNat + (i.toNat + p) by omega, hit _ (by omega)]
      refine V.istore (pc := 111) d_Mo_row_111 (Nat.le_of_ble_eq_true rfl) rfl ?_
      dsimp only [put]
      refine V.iload (pc := 113) d_Mo_row_113 rfl ?_
      refine V.if_ne (tgt := 121) (pc := 115) d_Mo_row_115 (by decide) (fun c_115 => ?_) (fun c_115 => ?_)
      · skip
        refine V.aload_n (pc := 121) 0 d_Mo_row_121 rfl rfl ?_
        refine V.getf (pc := 122) 6 cl_Mo fl_Mo_28_Mo d_Mo_row_122 (hM_o _) (Nat.le_of_ble_eq_true rfl) rfl ?_
        refine V.sipush (pc := 125) d_Mo_row_125 ⟨by decide, by decide⟩ ?_
        refine V.iload (pc := 128) d_Mo_row_128 rfl ?_
        refine V.iadd (pc := 130) d_Mo_row_130 ⟨by omega, by omega⟩ ?_
        refine V.iload (pc := 131) d_Mo_row_131 rfl ?_
        refine V.if_le (tgt := 140) (pc := 133) d_Mo_row_133 (by decide) (fun c_133 => ?_) (fun c_133 => ?_)
        · skip
          refine V.iconst (pc := 140) d_Mo_row_140 ⟨by decide, by decide⟩ ?_
          refine V.iast (pc := 141) d_Mo_row_141 (ar_one _).1 (by omega) (by omega) ?_
          rw [(ar_one _).2]
          refine V.iinc (pc := 142) d_Mo_row_142 rfl ⟨by omega, by omega⟩ (Nat.le_of_ble_eq_true rfl) rfl ?_
          dsimp only [put]
          refine V.goto (tgt := 88) (pc := 145) d_Mo_row_145 (by decide) ?_
          refine ih (p + 1) _ _ _ (by omega) (by omega) ?_ ?_ ?_ (fun q hq => ?_) (fun q hq => ?_)
          · rw [sset_n (by omega)]; exact h2
          · rw [sset_n (by omega)]; exact h5
          · exact hkn.upd6
          · unfold upf sg
            rw [show ((400 : Int) + pp).toNat = 400 + p by omega]
            by_cases e : q = p
            · rw [e, sset_e, if_pos rfl]; first | rw [if_pos (by omega)] | rw [if_neg (by omega)]
            · rw [sset_e, if_neg (by omega)]; exact ho q (by omega)
          · by_cases e : q = p
            · rw [e]; exact c_115
            · exact hz q (by omega)
        · skip
          refine V.iconst (pc := 136) d_Mo_row_136 ⟨by decide, by decide⟩ ?_
          refine V.goto (tgt := 141) (pc := 137) d_Mo_row_137 (by decide) ?_
          refine V.iast (pc := 141) d_Mo_row_141 (ar_one _).1 (by omega) (by omega) ?_
          rw [(ar_one _).2]
          refine V.iinc (pc := 142) d_Mo_row_142 rfl ⟨by omega, by omega⟩ (Nat.le_of_ble_eq_true rfl) rfl ?_
          dsimp only [put]
          refine V.goto (tgt := 88) (pc := 145) d_Mo_row_145 (by decide) ?_
          refine ih (p + 1) _ _ _ (by omega) (by omega) ?_ ?_ ?_ (fun q hq => ?_) (fun q hq => ?_)
          · rw [sset_n (by omega)]; exact h2
          · rw [sset_n (by omega)]; exact h5
          · exact hkn.upd6
          · unfold upf sg
            rw [show ((400 : Int) + pp).toNat = 400 + p by omega]
            by_cases e : q = p
            · rw [e, sset_e, if_pos rfl]; first | rw [if_pos (by omega)] | rw [if_neg (by omega)]
            · rw [sset_e, if_neg (by omega)]; exact ho q (by omega)
          · by_cases e : q = p
            · rw [e]; exact c_115
            · exact hz q (by omega)
      · skip
        refine V.ldc (pc := 118) (-1000001) ck_Mo_112 rfl ⟨by decide, by decide⟩ d_Mo_row_118 ?_
        refine V.ret (pc := 120) (r := some (vI _)) d_Mo_row_120 (Or.inl rfl) rfl ?_
        refine qs_of (S2 := S) (by unfold sp_row; rw [if_pos (by omega)]; simp only [hS]; rw [if_pos (by omega), if_neg]; intro z; exact z p (by omega) c_115) (hI.kn hkn)
set_option maxRecDepth 20000 in
theorem cs_Mo_row (S : SS) (σ : SM) (hI : RI S σ) (pl sh i n : Int) (sz : Nat) : Ct M_Mo_row 3 0 0 [vR 8, vI pl, vI sh, vI i, vI n] (hM σ) sz (QS (sp_row S pl sh i n) sz) := by
  refine Ct.of rfl (Nat.le_of_ble_eq_true rfl) ?_
  dsimp only [lsOf]
  refine V.iload_n (pc := 0) 1 d_Mo_row_0 rfl rfl ?_
  refine V.cS1 (pc := 1) (kc2 := 0) (ks2 := 0) ml_Mo_152 (ct_Mo_isPlace _ _ _) d_Mo_row_1 (Nat.le_of_ble_eq_true rfl) (Nat.le_of_ble_eq_true rfl) (Nat.le_of_ble_eq_true rfl) (Nat.le_of_ble_eq_true rfl) ?_
  rintro _ _ _ ⟨rfl, rfl, rfl⟩
  dsimp only [Option.toList, List.cons_append, List.nil_append]
  refine V.ifB_eq (tgt := 27) (pc := 4) d_Mo_row_4 (by decide) (fun c_4 => ?_) (fun c_4 => ?_)
  · skip
    refine V.ldc (pc := 27) (-1000001) ck_Mo_112 rfl ⟨by decide, by decide⟩ d_Mo_row_27 ?_
    refine V.ret (pc := 29) (r := some (vI _)) d_Mo_row_29 (Or.inl rfl) rfl ?_
    exact qs_of (by unfold sp_row; rw [if_neg (by omega)]) hI
  · skip
    refine V.iload_n (pc := 7) 2 d_Mo_row_7 rfl rfl ?_
    refine V.cS1 (pc := 8) (kc2 := 0) (ks2 := 0) ml_Mo_106 (ct_Mo_isSheet _ _ _) d_Mo_row_8 (Nat.le_of_ble_eq_true rfl) (Nat.le_of_ble_eq_true rfl) (Nat.le_of_ble_eq_true rfl) (Nat.le_of_ble_eq_true rfl) ?_
    rintro _ _ _ ⟨rfl, rfl, rfl⟩
    dsimp only [Option.toList, List.cons_append, List.nil_append]
    refine V.ifB_eq (tgt := 27) (pc := 11) d_Mo_row_11 (by decide) (fun c_11 => ?_) (fun c_11 => ?_)
    · skip
      refine V.ldc (pc := 27) (-1000001) ck_Mo_112 rfl ⟨by decide, by decide⟩ d_Mo_row_27 ?_
      refine V.ret (pc := 29) (r := some (vI _)) d_Mo_row_29 (Or.inl rfl) rfl ?_
      exact qs_of (by unfold sp_row; rw [if_neg (by omega)]) hI
    · skip
      refine V.iload (pc := 14) d_Mo_row_14 rfl ?_
      refine V.i2l (pc := 16) d_Mo_row_16 ?_
      refine V.lconst1 (pc := 17) d_Mo_row_17 ?_
      refine V.ldc2 (pc := 18) (20) ck_Mo_155 rfl ⟨by decide, by decide⟩ d_Mo_row_18 ?_
      refine V.cS3 (pc := 21) (kc2 := 0) (ks2 := 0) ml_Mo_102 (ct_Mo_in _ _ _ _ _) d_Mo_row_21 (Nat.le_of_ble_eq_true rfl) (Nat.le_of_ble_eq_true rfl) (Nat.le_of_ble_eq_true rfl) (Nat.le_of_ble_eq_true rfl) ?_
      rintro _ _ _ ⟨rfl, rfl, rfl⟩
      dsimp only [Option.toList, List.cons_append, List.nil_append]
      refine V.ifB_ne (tgt := 30) (pc := 24) d_Mo_row_24 (by decide) (fun c_24 => ?_) (fun c_24 => ?_)
      · skip
        rcases sh_cases hI.1 (show sh.toNat < 8 by omega) with ⟨hS, hk⟩ | ⟨l, m, f, hS, hl1, hl2, hn1, hk, hn, hit⟩
        · skip
          refine V.aload_n (pc := 30) 0 d_Mo_row_30 rfl rfl ?_
          refine V.getf (pc := 31) 0 cl_Mo fl_Mo_7_Mo d_Mo_row_31 (hM_o _) (Nat.le_of_ble_eq_true rfl) rfl ?_
          refine V.iload_n (pc := 34) 2 d_Mo_row_34 rfl rfl ?_
          refine V.iald (pc := 35) d_Mo_row_35 (ar_lane _).1 (by omega) (by omega) ?_
          try simp (disch := omega) only [sset_n, sset_e]
          refine V.if_ne (tgt := 45) (pc := 36) d_Mo_row_36 (by decide) (fun c_36 => ?_) (fun c_36 => ?_)
          · skip
            exfalso; omega
          · skip
            refine V.aload_n (pc := 39) 0 d_Mo_row_39 rfl rfl ?_
            refine V.iconst (pc := 40) d_Mo_row_40 ⟨by decide, by decide⟩ ?_
            refine V.cV1 (pc := 41) (kc2 := 0) (ks2 := 0) ml_Mo_113 (hM_o _) (ct_Mo_finds _ (by omega) _ _) d_Mo_row_41 (Nat.le_of_ble_eq_true rfl) (Nat.le_of_ble_eq_true rfl) (Nat.le_of_ble_eq_true rfl) (Nat.le_of_ble_eq_true rfl) ?_
            rintro _ _ _ ⟨rfl, rfl, rfl⟩
            dsimp only [Option.toList, List.cons_append, List.nil_append]
            first | rw [fi1] | rw [fi2] | rw [fi3] | rw [fi4] | rw [fi5]
            refine V.ret (pc := 44) (r := some (vI _)) d_Mo_row_44 (Or.inl rfl) rfl ?_
            exact qs_of (by unfold sp_row; rw [if_pos (by omega)]; simp only [hS]; try rfl) (hI.st 1)
        · skip
          refine V.aload_n (pc := 30) 0 d_Mo_row_30 rfl rfl ?_
          refine V.getf (pc := 31) 0 cl_Mo fl_Mo_7_Mo d_Mo_row_31 (hM_o _) (Nat.le_of_ble_eq_true rfl) rfl ?_
          refine V.iload_n (pc := 34) 2 d_Mo_row_34 rfl rfl ?_
          refine V.iald (pc := 35) d_Mo_row_35 (ar_lane _).1 (by omega) (by omega) ?_
          try simp (disch := omega) only [sset_n, sset_e]
          refine V.if_ne (tgt := 45) (pc := 36) d_Mo_row_36 (by decide) (fun c_36 => ?_) (fun c_36 => ?_)
          · skip
            refine V.iload_n (pc := 45) 3 d_Mo_row_45 rfl rfl ?_
            refine V.if_lt (tgt := 70) (pc := 46) d_Mo_row_46 (by decide) (fun c_46 => ?_) (fun c_46 => ?_)
            · skip
              refine V.aload_n (pc := 70) 0 d_Mo_row_70 rfl rfl ?_
              refine V.iconst (pc := 71) d_Mo_row_71 ⟨by decide, by decide⟩ ?_
              refine V.cV1 (pc := 72) (kc2 := 0) (ks2 := 0) ml_Mo_113 (hM_o _) (ct_Mo_finds _ (by omega) _ _) d_Mo_row_72 (Nat.le_of_ble_eq_true rfl) (Nat.le_of_ble_eq_true rfl) (Nat.le_of_ble_eq_true rfl) (Nat.le_of_ble_eq_true rfl) ?_
              rintro _ _ _ ⟨rfl, rfl, rfl⟩
              dsimp only [Option.toList, List.cons_append, List.nil_append]
              first | rw [fi1] | rw [fi2] | rw [fi3] | rw [fi4] | rw [fi5]
              refine V.ret (pc := 75) (r := some (vI _)) d_Mo_row_75 (Or.inl rfl) rfl ?_
              (try simp only [lc_gt] at c_67)
              exact qs_of (by unfold sp_row; rw [if_pos (by omega)]; simp only [hS]; rw [if_neg (by omega)]; try rfl) (hI.st 2)
            · skip
              refine V.lrng 3 rfl (fun hri => ?_)
              obtain ⟨hri1, hri2⟩ := hri
              refine V.iload_n (pc := 49) 3 d_Mo_row_49 rfl rfl ?_
              refine V.i2l (pc := 50) d_Mo_row_50 ?_
              refine V.ldc2 (pc := 51) (2) ck_Mo_110 rfl ⟨by decide, by decide⟩ d_Mo_row_51 ?_
              refine V.iload (pc := 54) d_Mo_row_54 rfl ?_
              refine V.i2l (pc := 56) d_Mo_row_56 ?_
              refine V.lmul (pc := 57) d_Mo_row_57 ⟨by omega, by omega⟩ ?_
              refine V.ladd (pc := 58) d_Mo_row_58 ⟨by omega, by omega⟩ ?_
              refine V.aload_n (pc := 59) 0 d_Mo_row_59 rfl rfl ?_
              refine V.getf (pc := 60) 1 cl_Mo fl_Mo_13_Mo d_Mo_row_60 (hM_o _) (Nat.le_of_ble_eq_true rfl) rfl ?_
              refine V.iload_n (pc := 63) 2 d_Mo_row_63 rfl rfl ?_
              refine V.iald (pc := 64) d_Mo_row_64 (ar_size _).1 (by omega) (by omega) ?_
              try simp (disch := omega) only [sset_n, sset_e]
              rw [hn]
              refine V.i2l (pc := 65) d_Mo_row_65 ?_
              refine V.lcmp (pc := 66) d_Mo_row_66 ?_
              refine V.if_le (tgt := 76) (pc := 67) d_Mo_row_67 (by decide) (fun c_67 => ?_) (fun c_67 => ?_)
              · skip
                refine V.aload_n (pc := 76) 0 d_Mo_row_76 rfl rfl ?_
                refine V.getf (pc := 77) 5 cl_Mo fl_Mo_25_Mo d_Mo_row_77 (hM_o _) (Nat.le_of_ble_eq_true rfl) rfl ?_
                refine V.bipush (pc := 80) d_Mo_row_80 ⟨by decide, by decide⟩ ?_
                refine V.iload (pc := 82) d_Mo_row_82 rfl ?_
                refine V.iast (pc := 84) d_Mo_row_84 (ar_many _).1 (by omega) (by omega) ?_
                rw [(ar_many _).2]
                refine V.iconst (pc := 85) d_Mo_row_85 ⟨by decide, by decide⟩ ?_
                refine V.istore (pc := 86) d_Mo_row_86 (Nat.le_of_ble_eq_true rfl) rfl ?_
                dsimp only [put]
                refine V.pad ?_
                exact lp_Mo_row S σ hI pl sh i n (by omega) (by omega) (by omega) l m f hS hn1 (by omega) (by simp only [lc_le] at c_67; omega) hit _ (2 * n.toNat) 0 0 none _ (by omega) rfl rfl (by rw [sset_e]; exact upf_e) (KN.upd5 (KN.rf σ) n) (fun q hq => by omega) (fun q hq => by omega)
              · skip
                refine V.aload_n (pc := 70) 0 d_Mo_row_70 rfl rfl ?_
                refine V.iconst (pc := 71) d_Mo_row_71 ⟨by decide, by decide⟩ ?_
                refine V.cV1 (pc := 72) (kc2 := 0) (ks2 := 0) ml_Mo_113 (hM_o _) (ct_Mo_finds _ (by omega) _ _) d_Mo_row_72 (Nat.le_of_ble_eq_true rfl) (Nat.le_of_ble_eq_true rfl) (Nat.le_of_ble_eq_true rfl) (Nat.le_of_ble_eq_true rfl) ?_
                rintro _ _ _ ⟨rfl, rfl, rfl⟩
                dsimp only [Option.toList, List.cons_append, List.nil_append]
                first | rw [fi1] | rw [fi2] | rw [fi3] | rw [fi4] | rw [fi5]
                refine V.ret (pc := 75) (r := some (vI _)) d_Mo_row_75 (Or.inl rfl) rfl ?_
                (try simp only [lc_gt] at c_67)
                exact qs_of (by unfold sp_row; rw [if_pos (by omega)]; simp only [hS]; rw [if_neg (by omega)]; try rfl) (hI.st 2)
          · skip
            exfalso; omega
      · skip
        refine V.ldc (pc := 27) (-1000001) ck_Mo_112 rfl ⟨by decide, by decide⟩ d_Mo_row_27 ?_
        refine V.ret (pc := 29) (r := some (vI _)) d_Mo_row_29 (Or.inl rfl) rfl ?_
        exact qs_of (by unfold sp_row; rw [if_neg (by omega)]) hI
set_option maxRecDepth 20000 in
theorem lp_Mo_land (S : SS) (σ : SM) (hI : RI S σ) (pl p q : Int) (hpl : 0 ≤ pl ∧ pl ≤ 9) (hp : 0 ≤ p ∧ p ≤ 9) (hq : 0 ≤ q ∧ q ≤ 9) (n : Nat) (hn20 : 1 ≤ n ∧ n ≤ 20) (a b : Nat → Int) (ha : ∀ x, x < 2 * n → σ 6 (40 * p.toNat + x) = a x) (hb : ∀ x, x < 2 * n → σ 6 (40 * q.toNat + x) = b x) (hs1 : ∀ x, x < 2 * n → a x = 1 ∨ a x = -1) (hs2 : ∀ x, x < 2 * n → b x = 1 ∨ b x = -1) (har : arch a n) (hbr : arch b n) (sz : Nat) : ∀ (m k : Nat) (kk : Int) (τ : SM), k + m = 40 → kk = k → τ 5 10 = n → KN σ τ → (∀ x, x < k → τ 6 (400 + x) = σ 6 (40 * p.toNat + x)) → (∀ x, x < k → τ 7 (400 + x) = σ 6 (40 * q.toNat + x)) →
    V M_Mo_land 3 92 [some (vR 8), some (vI pl), some (vI p), some (vI q), some (vI 0), some (vI kk)] [] (hM τ) sz 0 0 (QS (landK a b n, sTh S pl.toNat (some (landK a b n, n, a, b))) sz) := by
  intro m
  induction m with
  | zero =>
    intro k kk τ hm hkk h5 hkn ho ho2
    refine V.iload (pc := 92) d_Mo_land_92 rfl ?_
    refine V.bipush (pc := 94) d_Mo_land_94 ⟨by decide, by decide⟩ ?_
    refine V.icmp_ge (tgt := 151) (pc := 96) d_Mo_land_96 (by decide) (fun c_96 => ?_) (fun c_96 => ?_)
    · skip
      refine V.aload_n (pc := 151) 0 d_Mo_land_151 rfl rfl ?_
      refine V.iload_n (pc := 152) 1 d_Mo_land_152 rfl rfl ?_
      refine V.iconst (pc := 153) d_Mo_land_153 ⟨by decide, by decide⟩ ?_
      have epl : (vI pl : MV) = vI (pl.toNat : Int) := by rw [show ((pl.toNat : Nat) : Int) = pl by omega]
      rw [epl]
      refine V.cV2 (pc := 154) (kc2 := 0) (ks2 := 0) ml_Mo_157 (hM_o _) (ct_Mo_keepL τ pl.toNat (by omega) _ _ n rfl rfl h5 hn20 (fun x hx => by rw [ho x (by omega), ha x hx]; exact hs1 x hx) (fun x hx => by rw [ho2 x (by omega), hb x hx]; exact hs2 x hx) ((arch_cong (fun x hx => by rw [ho x (by omega), ha x hx])).mpr har) ((arch_cong (fun x hx => by rw [ho2 x (by omega), hb x hx])).mpr hbr) _) d_Mo_land_154 (Nat.le_of_ble_eq_true rfl) (Nat.le_of_ble_eq_true rfl) (Nat.le_of_ble_eq_true rfl) (Nat.le_of_ble_eq_true rfl) ?_
      rintro r9 h9 s9 ⟨rfl, rfl, τ2, rfl, hkp, hone⟩
      have hc9 : ∀ x, x < 2 * n → (fun x => τ 6 (400 + x)) x = a x := fun x hx => (ho x (by omega)).trans (ha x hx)
      have hd9 : ∀ x, x < 2 * n → (fun x => τ 7 (400 + x)) x = b x := fun x hx => (ho2 x (by omega)).trans (hb x hx)
      rw [nlp_cong hc9 hd9] at hone ⊢
      dsimp only [Option.toList, List.cons_append, List.nil_append]
      refine V.ret (pc := 157) (r := some (vI _)) d_Mo_land_157 (Or.inl rfl) rfl ?_
      have h56 : landK a b n = 5 ∨ landK a b n = 6 := by unfold landK; split <;> simp
      exact ⟨rfl, rfl, τ2, rfl, RI.put (hI.kn hkn) (by omega) hkp (R_one_land h56 hc9 hd9 hone)⟩
    · skip
      exfalso; omega
  | succ m ih =>
    intro k kk τ hm hkk h5 hkn ho ho2
    refine V.iload (pc := 92) d_Mo_land_92 rfl ?_
    refine V.bipush (pc := 94) d_Mo_land_94 ⟨by decide, by decide⟩ ?_
    refine V.icmp_ge (tgt := 151) (pc := 96) d_Mo_land_96 (by decide) (fun c_96 => ?_) (fun c_96 => ?_)
    · skip
      exfalso; omega
    · skip
      refine V.aload_n (pc := 99) 0 d_Mo_land_99 rfl rfl ?_
      refine V.getf (pc := 100) 6 cl_Mo fl_Mo_28_Mo d_Mo_land_100 (hM_o _) (Nat.le_of_ble_eq_true rfl) rfl ?_
      refine V.sipush (pc := 103) d_Mo_land_103 ⟨by decide, by decide⟩ ?_
      refine V.iload (pc := 106) d_Mo_land_106 rfl ?_
      refine V.iadd (pc := 108) d_Mo_land_108 ⟨by omega, by omega⟩ ?_
      refine V.aload_n (pc := 109) 0 d_Mo_land_109 rfl rfl ?_
      refine V.getf (pc := 110) 6 cl_Mo fl_Mo_28_Mo d_Mo_land_110 (hM_o _) (Nat.le_of_ble_eq_true rfl) rfl ?_
      refine V.bipush (pc := 113) d_Mo_land_113 ⟨by decide, by decide⟩ ?_
      refine V.iload_n (pc := 115) 2 d_Mo_land_115 rfl rfl ?_
      refine V.imul (pc := 116) d_Mo_land_116 ⟨by omega, by omega⟩ ?_
      refine V.iload (pc := 117) d_Mo_land_117 rfl ?_
      refine V.iadd (pc := 119) d_Mo_land_119 ⟨by omega, by omega⟩ ?_
      refine V.iald (pc := 120) d_Mo_land_120 (ar_one _).1 (by omega) (by omega) ?_
      try simp (disch := omega) only [sset_n, sset_e]
      refine V.iast (pc := 121) d_Mo_land_121 (ar_one _).1 (by omega) (by omega) ?_
      rw [(ar_one _).2]
      refine V.aload_n (pc := 122) 0 d_Mo_land_122 rfl rfl ?_
      refine V.getf (pc := 123) 7 cl_Mo fl_Mo_31_Mo d_Mo_land_123 (hM_o _) (Nat.le_of_ble_eq_true rfl) rfl ?_
      refine V.sipush (pc := 126) d_Mo_land_126 ⟨by decide, by decide⟩ ?_
      refine V.iload (pc := 129) d_Mo_land_129 rfl ?_
      refine V.iadd (pc := 131) d_Mo_land_131 ⟨by omega, by omega⟩ ?_
      refine V.aload_n (pc := 132) 0 d_Mo_land_132 rfl rfl ?_
      refine V.getf (pc := 133) 6 cl_Mo fl_Mo_28_Mo d_Mo_land_133 (hM_o _) (Nat.le_of_ble_eq_true rfl) rfl ?_
      refine V.bipush (pc := 136) d_Mo_land_136 ⟨by decide, by decide⟩ ?_
      refine V.iload_n (pc := 138) 3 d_Mo_land_138 rfl rfl ?_
      refine V.imul (pc := 139) d_Mo_land_139 ⟨by omega, by omega⟩ ?_
      refine V.iload (pc := 140) d_Mo_land_140 rfl ?_
      refine V.iadd (pc := 142) d_Mo_land_142 ⟨by omega, by omega⟩ ?_
      refine V.iald (pc := 143) d_Mo_land_143 (ar_one _).1 (by omega) (by omega) ?_
      try simp (disch := omega) only [sset_n, sset_e]
      refine V.iast (pc := 144) d_Mo_land_144 (ar_two _).1 (by omega) (by omega) ?_
      rw [(ar_two _).2]
      refine V.iinc (pc := 145) d_Mo_land_145 rfl ⟨by omega, by omega⟩ (Nat.le_of_ble_eq_true rfl) rfl ?_
      dsimp only [put]
      refine V.goto (tgt := 92) (pc := 148) d_Mo_land_148 (by decide) ?_
      refine ih (k + 1) _ _ (by omega) (by omega) ?_ ?_ (fun x hx => ?_) (fun x hx => ?_)
      · rw [sset_n (by omega), sset_n (by omega)]; exact h5
      · exact (hkn.upd6).updj (by omega) (by omega) (fun i hi => upf_n (by omega))
      · rw [sset_n (by omega), sset_e, show ((400 : Int) + kk).toNat = 400 + k by omega]
        by_cases e : x = k
        · rw [e, upf_e, show (40 * p + kk).toNat = 40 * p.toNat + k by omega]; exact hkn.2.2 6 (by omega) (by omega) _ (by omega)
        · rw [upf_n (by omega)]; exact ho x (by omega)
      · rw [sset_e, show ((400 : Int) + kk).toNat = 400 + k by omega]
        by_cases e : x = k
        · rw [e, upf_e, show (40 * q + kk).toNat = 40 * q.toNat + k by omega, upf_n (by omega)]; exact hkn.2.2 6 (by omega) (by omega) _ (by omega)
        · rw [upf_n (by omega)]; exact ho2 x (by omega)
theorem wf_arch {kd : Int} {n : Nat} {a b : Nat → Int} (hw : wfT (kd, n, a, b)) (h : isOf kd 2) : (∀ p, p < 2 * n → a p = 1 ∨ a p = -1) ∧ arch a n ∧ kd = rowKind a n := by
  obtain ⟨-, -, h3⟩ := hw
  rcases h3 with h3 | h3 | h3
  · have hr := rowKind_rng a n
    refine ⟨h3.2.2.1, hr.2.2.mp ?_, h3.2.2.2⟩
    have := h3.2.2.2
    omega
  · have := h3.1; omega
  · have := h3.1; omega
set_option maxRecDepth 20000 in
theorem cs_Mo_land (S : SS) (σ : SM) (hI : RI S σ) (pl p q : Int) (sz : Nat) : Ct M_Mo_land 3 0 0 [vR 8, vI pl, vI p, vI q] (hM σ) sz (QS (sp_land S pl p q) sz) := by
  refine Ct.of rfl (Nat.le_of_ble_eq_true rfl) ?_
  dsimp only [lsOf]
  refine V.iload_n (pc := 0) 1 d_Mo_land_0 rfl rfl ?_
  refine V.cS1 (pc := 1) (kc2 := 0) (ks2 := 0) ml_Mo_152 (ct_Mo_isPlace _ _ _) d_Mo_land_1 (Nat.le_of_ble_eq_true rfl) (Nat.le_of_ble_eq_true rfl) (Nat.le_of_ble_eq_true rfl) (Nat.le_of_ble_eq_true rfl) ?_
  rintro _ _ _ ⟨rfl, rfl, rfl⟩
  dsimp only [Option.toList, List.cons_append, List.nil_append]
  refine V.ifB_eq (tgt := 21) (pc := 4) d_Mo_land_4 (by decide) (fun c_4 => ?_) (fun c_4 => ?_)
  · skip
    refine V.ldc (pc := 21) (-1000001) ck_Mo_112 rfl ⟨by decide, by decide⟩ d_Mo_land_21 ?_
    refine V.ret (pc := 23) (r := some (vI _)) d_Mo_land_23 (Or.inl rfl) rfl ?_
    exact qs_of (by unfold sp_land; rw [if_neg (by omega)]) hI
  · skip
    refine V.iload_n (pc := 7) 2 d_Mo_land_7 rfl rfl ?_
    refine V.cS1 (pc := 8) (kc2 := 0) (ks2 := 0) ml_Mo_152 (ct_Mo_isPlace _ _ _) d_Mo_land_8 (Nat.le_of_ble_eq_true rfl) (Nat.le_of_ble_eq_true rfl) (Nat.le_of_ble_eq_true rfl) (Nat.le_of_ble_eq_true rfl) ?_
    rintro _ _ _ ⟨rfl, rfl, rfl⟩
    dsimp only [Option.toList, List.cons_append, List.nil_append]
    refine V.ifB_eq (tgt := 21) (pc := 11) d_Mo_land_11 (by decide) (fun c_11 => ?_) (fun c_11 => ?_)
    · skip
      refine V.ldc (pc := 21) (-1000001) ck_Mo_112 rfl ⟨by decide, by decide⟩ d_Mo_land_21 ?_
      refine V.ret (pc := 23) (r := some (vI _)) d_Mo_land_23 (Or.inl rfl) rfl ?_
      exact qs_of (by unfold sp_land; rw [if_neg (by omega)]) hI
    · skip
      refine V.iload_n (pc := 14) 3 d_Mo_land_14 rfl rfl ?_
      refine V.cS1 (pc := 15) (kc2 := 0) (ks2 := 0) ml_Mo_152 (ct_Mo_isPlace _ _ _) d_Mo_land_15 (Nat.le_of_ble_eq_true rfl) (Nat.le_of_ble_eq_true rfl) (Nat.le_of_ble_eq_true rfl) (Nat.le_of_ble_eq_true rfl) ?_
      rintro _ _ _ ⟨rfl, rfl, rfl⟩
      dsimp only [Option.toList, List.cons_append, List.nil_append]
      refine V.ifB_ne (tgt := 24) (pc := 18) d_Mo_land_18 (by decide) (fun c_18 => ?_) (fun c_18 => ?_)
      · skip
        rcases th_cases hI.2.1 (show p.toNat < 10 by omega) with ⟨hS, hk⟩ | ⟨kd, n, a, b, hS, hone⟩
        rotate_left
        by_cases hof : isOf kd 2
        · skip
          obtain ⟨hw, hk, hn, h3, h4, h5, h6⟩ := id hone
          have hwk := wf_kind hw
          refine V.aload_n (pc := 24) 0 d_Mo_land_24 rfl rfl ?_
          refine V.iload_n (pc := 25) 2 d_Mo_land_25 rfl rfl ?_
          refine V.iconst (pc := 26) d_Mo_land_26 ⟨by decide, by decide⟩ ?_
          refine V.cV2 (pc := 27) (kc2 := 0) (ks2 := 0) ml_Mo_165 (hM_o _) (refY (by omega) (by omega) (by rw [hk]; exact hof) _) d_Mo_land_27 (Nat.le_of_ble_eq_true rfl) (Nat.le_of_ble_eq_true rfl) (Nat.le_of_ble_eq_true rfl) (Nat.le_of_ble_eq_true rfl) ?_
          rintro _ _ _ ⟨rfl, rfl, rfl⟩
          dsimp only [Option.toList, List.cons_append, List.nil_append]
          refine V.istore (pc := 30) d_Mo_land_30 (Nat.le_of_ble_eq_true rfl) rfl ?_
          dsimp only [put]
          refine V.iload (pc := 32) d_Mo_land_32 rfl ?_
          refine V.if_ne (tgt := 46) (pc := 34) d_Mo_land_34 (by decide) (fun c_34 => ?_) (fun c_34 => ?_)
          · skip
            exact absurd rfl c_34
          · skip
            rcases th_cases hI.2.1 (show q.toNat < 10 by omega) with ⟨hS2, hk2⟩ | ⟨kd2, n2, a2, b2, hS2, hone2⟩
            rotate_left
            by_cases hof2 : isOf kd2 2
            · skip
              obtain ⟨hw2, hk2, hn2, h32, h42, h52, h62⟩ := id hone2
              have hwk2 := wf_kind hw2
              refine V.aload_n (pc := 37) 0 d_Mo_land_37 rfl rfl ?_
              refine V.iload_n (pc := 38) 3 d_Mo_land_38 rfl rfl ?_
              refine V.iconst (pc := 39) d_Mo_land_39 ⟨by decide, by decide⟩ ?_
              refine V.cV2 (pc := 40) (kc2 := 0) (ks2 := 0) ml_Mo_165 (hM_o _) (refY (by omega) (by omega) (by rw [hk2]; exact hof2) _) d_Mo_land_40 (Nat.le_of_ble_eq_true rfl) (Nat.le_of_ble_eq_true rfl) (Nat.le_of_ble_eq_true rfl) (Nat.le_of_ble_eq_true rfl) ?_
              rintro _ _ _ ⟨rfl, rfl, rfl⟩
              dsimp only [Option.toList, List.cons_append, List.nil_append]
              refine V.goto (tgt := 48) (pc := 43) d_Mo_land_43 (by decide) ?_
              refine V.istore (pc := 48) d_Mo_land_48 (Nat.le_of_ble_eq_true rfl) rfl ?_
              dsimp only [put]
              refine V.iload (pc := 50) d_Mo_land_50 rfl ?_
              refine V.if_eq (tgt := 58) (pc := 52) d_Mo_land_52 (by decide) (fun c_52 => ?_) (fun c_52 => ?_)
              · skip
                refine V.aload_n (pc := 58) 0 d_Mo_land_58 rfl rfl ?_
                refine V.getf (pc := 59) 5 cl_Mo fl_Mo_25_Mo d_Mo_land_59 (hM_o _) (Nat.le_of_ble_eq_true rfl) rfl ?_
                refine V.iload_n (pc := 62) 2 d_Mo_land_62 rfl rfl ?_
                refine V.iald (pc := 63) d_Mo_land_63 (ar_many _).1 (by omega) (by omega) ?_
                try simp (disch := omega) only [sset_n, sset_e]
                rw [hn]
                refine V.aload_n (pc := 64) 0 d_Mo_land_64 rfl rfl ?_
                refine V.getf (pc := 65) 5 cl_Mo fl_Mo_25_Mo d_Mo_land_65 (hM_o _) (Nat.le_of_ble_eq_true rfl) rfl ?_
                refine V.iload_n (pc := 68) 3 d_Mo_land_68 rfl rfl ?_
                refine V.iald (pc := 69) d_Mo_land_69 (ar_many _).1 (by omega) (by omega) ?_
                try simp (disch := omega) only [sset_n, sset_e]
                rw [hn2]
                refine V.icmp_eq (tgt := 76) (pc := 70) d_Mo_land_70 (by decide) (fun c_70 => ?_) (fun c_70 => ?_)
                · skip
                  refine V.aload_n (pc := 76) 0 d_Mo_land_76 rfl rfl ?_
                  refine V.getf (pc := 77) 5 cl_Mo fl_Mo_25_Mo d_Mo_land_77 (hM_o _) (Nat.le_of_ble_eq_true rfl) rfl ?_
                  refine V.bipush (pc := 80) d_Mo_land_80 ⟨by decide, by decide⟩ ?_
                  refine V.aload_n (pc := 82) 0 d_Mo_land_82 rfl rfl ?_
                  refine V.getf (pc := 83) 5 cl_Mo fl_Mo_25_Mo d_Mo_land_83 (hM_o _) (Nat.le_of_ble_eq_true rfl) rfl ?_
                  refine V.iload_n (pc := 86) 2 d_Mo_land_86 rfl rfl ?_
                  refine V.iald (pc := 87) d_Mo_land_87 (ar_many _).1 (by omega) (by omega) ?_
                  try simp (disch := omega) only [sset_n, sset_e]
                  rw [hn]
                  refine V.iast (pc := 88) d_Mo_land_88 (ar_many _).1 (by omega) (by omega) ?_
                  rw [(ar_many _).2]
                  refine V.iconst (pc := 89) d_Mo_land_89 ⟨by decide, by decide⟩ ?_
                  refine V.istore (pc := 90) d_Mo_land_90 (Nat.le_of_ble_eq_true rfl) rfl ?_
                  dsimp only [put]
                  have hwa := wf_arch hw hof
                  have hwb := wf_arch hw2 hof2
                  have hnn : n = n2 := by omega
                  have e : sp_land S pl p q = (landK a a2 n, sTh S pl.toNat (some (landK a a2 n, n, a, a2))) := by
                    unfold sp_land; rw [if_pos (by omega)]; simp only [hS]; rw [if_pos hof]; simp only [hS2]; rw [if_pos hof2, if_pos hnn]
                  rw [e]
                  refine lp_Mo_land S σ hI pl p q (by omega) (by omega) (by omega) n (by omega) a a2 (fun x hx => h3 (by omega) x hx) (fun x hx => h32 (by omega) x (by omega)) hwa.1 (fun x hx => hwb.1 x (by omega)) hwa.2.1 (by rw [hnn]; exact hwb.2.1) _ 40 0 0 _ rfl rfl (by rw [sset_e]; exact upf_e) (KN.upd5 (KN.rf σ) _) (fun x hx => by omega) (fun x hx => by omega)
                · skip
                  refine V.ldc (pc := 73) (-1000001) ck_Mo_112 rfl ⟨by decide, by decide⟩ d_Mo_land_73 ?_
                  refine V.ret (pc := 75) (r := some (vI _)) d_Mo_land_75 (Or.inl rfl) rfl ?_
                  exact qs_of (by unfold sp_land; rw [if_pos (by omega)]; simp only [hS]; rw [if_pos hof]; simp only [hS2]; rw [if_pos hof2, if_neg (by omega)]) hI
              · skip
                exact absurd rfl c_52
            · skip
              obtain ⟨hw2, hk2, hn2, h32, h42, h52, h62⟩ := id hone2
              have hwk2 := wf_kind hw2
              refine V.aload_n (pc := 37) 0 d_Mo_land_37 rfl rfl ?_
              refine V.iload_n (pc := 38) 3 d_Mo_land_38 rfl rfl ?_
              refine V.iconst (pc := 39) d_Mo_land_39 ⟨by decide, by decide⟩ ?_
              refine V.cV2 (pc := 40) (kc2 := 0) (ks2 := 0) ml_Mo_165 (hM_o _) (refK (by omega) (by omega) (by rw [hk2]; exact hof2) _) d_Mo_land_40 (Nat.le_of_ble_eq_true rfl) (Nat.le_of_ble_eq_true rfl) (Nat.le_of_ble_eq_true rfl) (Nat.le_of_ble_eq_true rfl) ?_
              rintro _ _ _ ⟨rfl, rfl, rfl⟩
              dsimp only [Option.toList, List.cons_append, List.nil_append]
              refine V.goto (tgt := 48) (pc := 43) d_Mo_land_43 (by decide) ?_
              refine V.istore (pc := 48) d_Mo_land_48 (Nat.le_of_ble_eq_true rfl) rfl ?_
              dsimp only [put]
              refine V.iload (pc := 50) d_Mo_land_50 rfl ?_
              refine V.if_eq (tgt := 58) (pc := 52) d_Mo_land_52 (by decide) (fun c_52 => ?_) (fun c_52 => ?_)
              · skip
                exact absurd c_52 (by decide)
              · skip
                refine V.iload (pc := 55) d_Mo_land_55 rfl ?_
                refine V.ret (pc := 57) (r := some (vI _)) d_Mo_land_57 (Or.inl rfl) rfl ?_
                first
                  | (refine qs_of (S2 := sSt S 1) ?_ (hI.st 1); unfold sp_land; rw [if_pos (by omega)]; simp only [hS]; done)
                  | (refine qs_of (S2 := sSt S 1) ?_ (hI.st 1); unfold sp_land; rw [if_pos (by omega)]; simp only [hS]; rfl)
                  | (refine qs_of (S2 := sSt S 3) ?_ (hI.st 3); unfold sp_land; rw [if_pos (by omega)]; simp only [hS]; rw [if_neg hof]; done)
                  | (refine qs_of (S2 := sSt S 1) ?_ (hI.st 1); unfold sp_land; rw [if_pos (by omega)]; simp only [hS]; rw [if_pos hof]; simp only [hS2]; done)
                  | (refine qs_of (S2 := sSt S 3) ?_ (hI.st 3); unfold sp_land; rw [if_pos (by omega)]; simp only [hS]; rw [if_pos hof]; simp only [hS2]; rw [if_neg hof2]; done)
            · skip
              refine V.aload_n (pc := 37) 0 d_Mo_land_37 rfl rfl ?_
              refine V.iload_n (pc := 38) 3 d_Mo_land_38 rfl rfl ?_
              refine V.iconst (pc := 39) d_Mo_land_39 ⟨by decide, by decide⟩ ?_
              refine V.cV2 (pc := 40) (kc2 := 0) (ks2 := 0) ml_Mo_165 (hM_o _) (refN (by omega) hk2 _) d_Mo_land_40 (Nat.le_of_ble_eq_true rfl) (Nat.le_of_ble_eq_true rfl) (Nat.le_of_ble_eq_true rfl) (Nat.le_of_ble_eq_true rfl) ?_
              rintro _ _ _ ⟨rfl, rfl, rfl⟩
              dsimp only [Option.toList, List.cons_append, List.nil_append]
              refine V.goto (tgt := 48) (pc := 43) d_Mo_land_43 (by decide) ?_
              refine V.istore (pc := 48) d_Mo_land_48 (Nat.le_of_ble_eq_true rfl) rfl ?_
              dsimp only [put]
              refine V.iload (pc := 50) d_Mo_land_50 rfl ?_
              refine V.if_eq (tgt := 58) (pc := 52) d_Mo_land_52 (by decide) (fun c_52 => ?_) (fun c_52 => ?_)
              · skip
                exact absurd c_52 (by decide)
              · skip
                refine V.iload (pc := 55) d_Mo_land_55 rfl ?_
                refine V.ret (pc := 57) (r := some (vI _)) d_Mo_land_57 (Or.inl rfl) rfl ?_
                first
                  | (refine qs_of (S2 := sSt S 1) ?_ (hI.st 1); unfold sp_land; rw [if_pos (by omega)]; simp only [hS]; done)
                  | (refine qs_of (S2 := sSt S 1) ?_ (hI.st 1); unfold sp_land; rw [if_pos (by omega)]; simp only [hS]; rfl)
                  | (refine qs_of (S2 := sSt S 3) ?_ (hI.st 3); unfold sp_land; rw [if_pos (by omega)]; simp only [hS]; rw [if_neg hof]; done)
                  | (refine qs_of (S2 := sSt S 1) ?_ (hI.st 1); unfold sp_land; rw [if_pos (by omega)]; simp only [hS]; rw [if_pos hof]; simp only [hS2]; done)
                  | (refine qs_of (S2 := sSt S 3) ?_ (hI.st 3); unfold sp_land; rw [if_pos (by omega)]; simp only [hS]; rw [if_pos hof]; simp only [hS2]; rw [if_neg hof2]; done)
        · skip
          obtain ⟨hw, hk, hn, h3, h4, h5, h6⟩ := id hone
          have hwk := wf_kind hw
          refine V.aload_n (pc := 24) 0 d_Mo_land_24 rfl rfl ?_
          refine V.iload_n (pc := 25) 2 d_Mo_land_25 rfl rfl ?_
          refine V.iconst (pc := 26) d_Mo_land_26 ⟨by decide, by decide⟩ ?_
          refine V.cV2 (pc := 27) (kc2 := 0) (ks2 := 0) ml_Mo_165 (hM_o _) (refK (by omega) (by omega) (by rw [hk]; exact hof) _) d_Mo_land_27 (Nat.le_of_ble_eq_true rfl) (Nat.le_of_ble_eq_true rfl) (Nat.le_of_ble_eq_true rfl) (Nat.le_of_ble_eq_true rfl) ?_
          rintro _ _ _ ⟨rfl, rfl, rfl⟩
          dsimp only [Option.toList, List.cons_append, List.nil_append]
          refine V.istore (pc := 30) d_Mo_land_30 (Nat.le_of_ble_eq_true rfl) rfl ?_
          dsimp only [put]
          refine V.iload (pc := 32) d_Mo_land_32 rfl ?_
          refine V.if_ne (tgt := 46) (pc := 34) d_Mo_land_34 (by decide) (fun c_34 => ?_) (fun c_34 => ?_)
          · skip
            refine V.iload (pc := 46) d_Mo_land_46 rfl ?_
            refine V.istore (pc := 48) d_Mo_land_48 (Nat.le_of_ble_eq_true rfl) rfl ?_
            dsimp only [put]
            refine V.iload (pc := 50) d_Mo_land_50 rfl ?_
            refine V.if_eq (tgt := 58) (pc := 52) d_Mo_land_52 (by decide) (fun c_52 => ?_) (fun c_52 => ?_)
            · skip
              exact absurd c_52 (by decide)
            · skip
              refine V.iload (pc := 55) d_Mo_land_55 rfl ?_
              refine V.ret (pc := 57) (r := some (vI _)) d_Mo_land_57 (Or.inl rfl) rfl ?_
              first
                | (refine qs_of (S2 := sSt S 1) ?_ (hI.st 1); unfold sp_land; rw [if_pos (by omega)]; simp only [hS]; done)
                | (refine qs_of (S2 := sSt S 1) ?_ (hI.st 1); unfold sp_land; rw [if_pos (by omega)]; simp only [hS]; rfl)
                | (refine qs_of (S2 := sSt S 3) ?_ (hI.st 3); unfold sp_land; rw [if_pos (by omega)]; simp only [hS]; rw [if_neg hof]; done)
                | (refine qs_of (S2 := sSt S 1) ?_ (hI.st 1); unfold sp_land; rw [if_pos (by omega)]; simp only [hS]; rw [if_pos hof]; simp only [hS2]; done)
                | (refine qs_of (S2 := sSt S 3) ?_ (hI.st 3); unfold sp_land; rw [if_pos (by omega)]; simp only [hS]; rw [if_pos hof]; simp only [hS2]; rw [if_neg hof2]; done)
          · skip
            exact absurd c_34 (by decide)
        · skip
          refine V.aload_n (pc := 24) 0 d_Mo_land_24 rfl rfl ?_
          refine V.iload_n (pc := 25) 2 d_Mo_land_25 rfl rfl ?_
          refine V.iconst (pc := 26) d_Mo_land_26 ⟨by decide, by decide⟩ ?_
          refine V.cV2 (pc := 27) (kc2 := 0) (ks2 := 0) ml_Mo_165 (hM_o _) (refN (by omega) hk _) d_Mo_land_27 (Nat.le_of_ble_eq_true rfl) (Nat.le_of_ble_eq_true rfl) (Nat.le_of_ble_eq_true rfl) (Nat.le_of_ble_eq_true rfl) ?_
          rintro _ _ _ ⟨rfl, rfl, rfl⟩
          dsimp only [Option.toList, List.cons_append, List.nil_append]
          refine V.istore (pc := 30) d_Mo_land_30 (Nat.le_of_ble_eq_true rfl) rfl ?_
          dsimp only [put]
          refine V.iload (pc := 32) d_Mo_land_32 rfl ?_
          refine V.if_ne (tgt := 46) (pc := 34) d_Mo_land_34 (by decide) (fun c_34 => ?_) (fun c_34 => ?_)
          · skip
            refine V.iload (pc := 46) d_Mo_land_46 rfl ?_
            refine V.istore (pc := 48) d_Mo_land_48 (Nat.le_of_ble_eq_true rfl) rfl ?_
            dsimp only [put]
            refine V.iload (pc := 50) d_Mo_land_50 rfl ?_
            refine V.if_eq (tgt := 58) (pc := 52) d_Mo_land_52 (by decide) (fun c_52 => ?_) (fun c_52 => ?_)
            · skip
              exact absurd c_52 (by decide)
            · skip
              refine V.iload (pc := 55) d_Mo_land_55 rfl ?_
              refine V.ret (pc := 57) (r := some (vI _)) d_Mo_land_57 (Or.inl rfl) rfl ?_
              first
                | (refine qs_of (S2 := sSt S 1) ?_ (hI.st 1); unfold sp_land; rw [if_pos (by omega)]; simp only [hS]; done)
                | (refine qs_of (S2 := sSt S 1) ?_ (hI.st 1); unfold sp_land; rw [if_pos (by omega)]; simp only [hS]; rfl)
                | (refine qs_of (S2 := sSt S 3) ?_ (hI.st 3); unfold sp_land; rw [if_pos (by omega)]; simp only [hS]; rw [if_neg hof]; done)
                | (refine qs_of (S2 := sSt S 1) ?_ (hI.st 1); unfold sp_land; rw [if_pos (by omega)]; simp only [hS]; rw [if_pos hof]; simp only [hS2]; done)
                | (refine qs_of (S2 := sSt S 3) ?_ (hI.st 3); unfold sp_land; rw [if_pos (by omega)]; simp only [hS]; rw [if_pos hof]; simp only [hS2]; rw [if_neg hof2]; done)
          · skip
            exact absurd c_34 (by decide)
      · skip
        refine V.ldc (pc := 21) (-1000001) ck_Mo_112 rfl ⟨by decide, by decide⟩ d_Mo_land_21 ?_
        refine V.ret (pc := 23) (r := some (vI _)) d_Mo_land_23 (Or.inl rfl) rfl ?_
        exact qs_of (by unfold sp_land; rw [if_neg (by omega)]) hI
