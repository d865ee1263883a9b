/-! THE REFERENCE: strip, printed by wip/whole/gen/ref9.py -/
def QX (P : Int × SS → Prop) (sz : Nat) : QT := fun r h s => s = sz ∧ ∃ x, P x ∧ r = some (vI x.1) ∧ ∃ τ, h = hM τ ∧ RI x.2 τ
theorem qx_of {P : Int × SS → Prop} {v : Int} {S2 : SS} {τ : SM} {sz : Nat} (e : P (v, S2)) (h : RI S2 τ) : QX P sz (some (vI v)) (hM τ) sz := ⟨rfl, _, e, rfl, τ, rfl, h⟩
theorem sp_strip_some {S : SS} {pl sh i n : Int} {x : Int × SS} {l : Int} {m : Nat} {f : Nat → Int} (h : (0 ≤ pl ∧ pl ≤ 9) ∧ (0 ≤ sh ∧ sh ≤ 7) ∧ (1 ≤ n ∧ n ≤ 20)) (hS : S.1 sh.toNat = some (l, m, f)) : sp_strip S pl sh i n x ↔ (if 0 ≤ i ∧ i + n ≤ m then (if isPerm (fun q => f (i.toNat + q)) n.toNat then (∃ k, isStripK (fun q => f (i.toNat + q)) n.toNat k ∧ x = (k, sTh S pl.toNat (some (k, n.toNat, fun q => f (i.toNat + q), fun _ => 0)))) else x = (-1000001, S)) else x = (-1000012, sSt S 2)) := by
  unfold sp_strip; rw [if_pos h]; simp only [hS]
theorem sp_strip_none {S : SS} {pl sh i n : Int} {x : Int × SS} (h : (0 ≤ pl ∧ pl ≤ 9) ∧ (0 ≤ sh ∧ sh ≤ 7) ∧ (1 ≤ n ∧ n ≤ 20)) (hS : S.1 sh.toNat = none) : sp_strip S pl sh i n x ↔ x = (-1000011, sSt S 1) := by
  unfold sp_strip; rw [if_pos h]; simp only [hS]
theorem isStripK_cong {a b : Nat → Int} {n : Nat} {k : Int} (h : ∀ q, q < n → a q = b q) (g : isStripK a n k) : isStripK b n k := by
  refine ⟨g.1, ?_⟩
  rw [g.2]
  exact ⟨fun ⟨ps, h1, h2⟩ => ⟨ps, pos_cong h h1, h2⟩, fun ⟨ps, h1, h2⟩ => ⟨ps, pos_cong (fun q hq => (h q hq).symm) h1, h2⟩⟩
set_option maxRecDepth 20000 in
theorem lp_Mo_strip2 (S : SS) (σ : SM) (hI : RI S σ) (pl sh i n : Int) (hpl : 0 ≤ pl ∧ pl ≤ 9) (hsh : 0 ≤ sh ∧ sh ≤ 7) (hnn : 1 ≤ n ∧ n ≤ 20) (l : Int) (m : Nat) (f : Nat → Int) (hS : S.1 sh.toNat = some (l, m, f)) (hm1 : m ≤ 100) (hi0 : 0 ≤ i) (him : i + n ≤ m) (hit : ∀ i, i < m → σ 2 (100 * sh.toNat + i) = f i) (sz : Nat) : ∀ (c p : Nat) (kk : Int) (x : Option MV) (τ : SM), (p : Int) + c = n → kk = p → τ 5 10 = n → KN σ τ → (∀ q, q < p → τ 6 (400 + q) = f (i.toNat + q)) → (∀ v : Nat, v < n.toNat → (τ 18 v ≠ 0 ↔ ∃ q, q < p ∧ f (i.toNat + q) = v)) → (∀ q, q < p → 0 ≤ f (i.toNat + q) ∧ f (i.toNat + q) < n) → (∀ q, q < p → ∀ r, r < q → f (i.toNat + q) ≠ f (i.toNat + r)) →
    V M_Mo_strip 3 108 [some (vR 8), some (vI pl), some (vI sh), some (vI i), some (vI n), some (vI kk), x] [] (hM τ) sz 0 0 (QX (sp_strip S pl sh i n) sz) := by
  intro c
  induction c with
  | zero =>
    intro p kk x τ hc hkk h5 hkn ho hm hz hj
    refine V.iload (pc := 108) d_Mo_strip_108 rfl ?_
    refine V.iload (pc := 110) d_Mo_strip_110 rfl ?_
    refine V.icmp_ge (tgt := 186) (pc := 112) d_Mo_strip_112 (by decide) (fun c_112 => ?_) (fun c_112 => ?_)
    · skip
      refine V.aload_n (pc := 186) 0 d_Mo_strip_186 rfl rfl ?_
      refine V.iload_n (pc := 187) 1 d_Mo_strip_187 rfl rfl ?_
      refine V.bipush (pc := 188) d_Mo_strip_188 ⟨by decide, by decide⟩ ?_
      have epl : (vI pl : MV) = vI (pl.toNat : Int) := by rw [show ((pl.toNat : Nat) : Int) = pl by omega]
      rw [epl]
      have hpm : isPerm (fun q => f (i.toNat + q)) n.toNat := ⟨fun k hk => by have := hz k (by omega); dsimp only; omega, fun j hj1 k hk1 e => by
        dsimp only at e
        rcases Nat.lt_trichotomy j k with g | g | g
        · exact absurd e.symm (hj k (by omega) j g)
        · exact g
        · exact absurd e (hj j (by omega) k g)⟩
      refine V.cV2 (pc := 190) (kc2 := 0) (ks2 := 0) ml_Mo_157 (hM_o _) (ct_Mo_keepS τ pl.toNat (by omega) _ n.toNat rfl (by rw [h5]; omega) (by omega) (perm_cong (fun q hq => (ho q (by omega)).symm) hpm) _) d_Mo_strip_190 (Nat.le_of_ble_eq_true rfl) (Nat.le_of_ble_eq_true rfl) (Nat.le_of_ble_eq_true rfl) (Nat.le_of_ble_eq_true rfl) ?_
      rintro r9 h9 s9 ⟨rfl, k9, hk7, hk8, rfl, τ2, rfl, hkp, hone⟩
      dsimp only [Option.toList, List.cons_append, List.nil_append]
      refine V.ret (pc := 193) (r := some (vI _)) d_Mo_strip_193 (Or.inl rfl) rfl ?_
      have hc9 : ∀ q, q < n.toNat → (fun q => τ 6 (400 + q)) q = (fun q => f (i.toNat + q)) q := fun q hq => ho q (by omega)
      exact qx_of ((sp_strip_some (by omega) hS).mpr (by rw [if_pos (by omega), if_pos hpm]; exact ⟨k9, isStripK_cong hc9 ⟨hk7, hk8⟩, rfl⟩)) (RI.put (hI.kn hkn) (by omega) hkp (R_one_strip hk7 hc9 hone))
    · skip
      exfalso; omega
  | succ c ih =>
    intro p kk x τ hc hkk h5 hkn ho hm hz hj
    refine V.iload (pc := 108) d_Mo_strip_108 rfl ?_
    refine V.iload (pc := 110) d_Mo_strip_110 rfl ?_
    refine V.icmp_ge (tgt := 186) (pc := 112) d_Mo_strip_112 (by decide) (fun c_112 => ?_) (fun c_112 => ?_)
    · skip
      exfalso; omega
    · skip
      refine V.aload_n (pc := 115) 0 d_Mo_strip_115 rfl rfl ?_
      refine V.getf (pc := 116) 2 cl_Mo fl_Mo_16_Mo d_Mo_strip_116 (hM_o _) (Nat.le_of_ble_eq_true rfl) rfl ?_
      refine V.bipush (pc := 119) d_Mo_strip_119 ⟨by decide, by decide⟩ ?_
      refine V.iload_n (pc := 121) 2 d_Mo_strip_121 rfl rfl ?_
      refine V.imul (pc := 122) d_Mo_strip_122 ⟨by omega, by omega⟩ ?_
      refine V.iload_n (pc := 123) 3 d_Mo_strip_123 rfl rfl ?_
      refine V.iadd (pc := 124) d_Mo_strip_124 ⟨by omega, by omega⟩ ?_
      refine V.iload (pc := 125) d_Mo_strip_125 rfl ?_
      refine V.iadd (pc := 127) d_Mo_strip_127 ⟨by omega, by omega⟩ ?_
      refine V.iald (pc := 128) d_Mo_strip_128 (ar_item _).1 (by omega) (by omega) ?_
      try simp (disch := omega) only [sset_n, sset_e]
      rw [hkn.1 2 (by omega), show (100 * sh + i + kk).toNat = 100 * sh.toNat + (i.toNat + p) by omega, hit _ (by omega)]
      refine V.istore (pc := 129) d_Mo_strip_129 (Nat.le_of_ble_eq_true rfl) rfl ?_
      dsimp only [put]
      refine V.iload (pc := 131) d_Mo_strip_131 rfl ?_
      refine V.i2l (pc := 133) d_Mo_strip_133 ?_
      refine V.lconst0 (pc := 134) d_Mo_strip_134 ?_
      refine V.iload (pc := 135) d_Mo_strip_135 rfl ?_
      refine V.iconst (pc := 137) d_Mo_strip_137 ⟨by decide, by decide⟩ ?_
      refine V.isub (pc := 138) d_Mo_strip_138 ⟨by omega, by omega⟩ ?_
      refine V.i2l (pc := 139) d_Mo_strip_139 ?_
      refine V.cS3 (pc := 140) (kc2 := 0) (ks2 := 0) ml_Mo_102 (ct_Mo_in _ _ _ _ _) d_Mo_strip_140 (Nat.le_of_ble_eq_true rfl) (Nat.le_of_ble_eq_true rfl) (Nat.le_of_ble_eq_true rfl) (Nat.le_of_ble_eq_true rfl) ?_
      rintro _ _ _ ⟨rfl, rfl, rfl⟩
      dsimp only [Option.toList, List.cons_append, List.nil_append]
      refine V.ifB_eq (tgt := 156) (pc := 143) d_Mo_strip_143 (by decide) (fun c_143 => ?_) (fun c_143 => ?_)
      · skip
        refine V.ldc (pc := 156) (-1000001) ck_Mo_112 rfl ⟨by decide, by decide⟩ d_Mo_strip_156 ?_
        refine V.ret (pc := 158) (r := some (vI _)) d_Mo_strip_158 (Or.inl rfl) rfl ?_
        refine qx_of (S2 := S) ((sp_strip_some (by omega) hS).mpr (by rw [if_pos (by omega), if_neg]; intro z; have z1 := z.1 p (by omega); dsimp only at z1; omega)) (hI.kn hkn)
      · skip
        refine V.aload_n (pc := 146) 0 d_Mo_strip_146 rfl rfl ?_
        refine V.getf (pc := 147) 18 cl_Mo fl_Mo_52_Mo d_Mo_strip_147 (hM_o _) (Nat.le_of_ble_eq_true rfl) rfl ?_
        refine V.iload (pc := 150) d_Mo_strip_150 rfl ?_
        refine V.zald (pc := 152) d_Mo_strip_152 (ar_met _).1 (by omega) (by omega) ?_
        try simp (disch := omega) only [sset_n, sset_e]
        refine V.if_eq (tgt := 159) (pc := 153) d_Mo_strip_153 (by decide) (fun c_153 => ?_) (fun c_153 => ?_)
        · skip
          refine V.aload_n (pc := 159) 0 d_Mo_strip_159 rfl rfl ?_
          refine V.getf (pc := 160) 18 cl_Mo fl_Mo_52_Mo d_Mo_strip_160 (hM_o _) (Nat.le_of_ble_eq_true rfl) rfl ?_
          refine V.iload (pc := 163) d_Mo_strip_163 rfl ?_
          refine V.iconst (pc := 165) d_Mo_strip_165 ⟨by decide, by decide⟩ ?_
          refine V.zast (pc := 166) d_Mo_strip_166 (ar_met _).1 (by omega) (by omega) (by omega) ?_
          rw [(ar_met _).2]
          refine V.aload_n (pc := 167) 0 d_Mo_strip_167 rfl rfl ?_
          refine V.getf (pc := 168) 6 cl_Mo fl_Mo_28_Mo d_Mo_strip_168 (hM_o _) (Nat.le_of_ble_eq_true rfl) rfl ?_
          refine V.sipush (pc := 171) d_Mo_strip_171 ⟨by decide, by decide⟩ ?_
          refine V.iload (pc := 174) d_Mo_strip_174 rfl ?_
          refine V.iadd (pc := 176) d_Mo_strip_176 ⟨by omega, by omega⟩ ?_
          refine V.iload (pc := 177) d_Mo_strip_177 rfl ?_
          refine V.iast (pc := 179) d_Mo_strip_179 (ar_one _).1 (by omega) (by omega) ?_
          rw [(ar_one _).2]
          refine V.iinc (pc := 180) d_Mo_strip_180 rfl ⟨by omega, by omega⟩ (Nat.le_of_ble_eq_true rfl) rfl ?_
          dsimp only [put]
          refine V.goto (tgt := 108) (pc := 183) d_Mo_strip_183 (by decide) ?_
          refine ih (p + 1) _ _ _ (by omega) (by omega) ?_ ?_ (fun q hq => ?_) (fun v hv => ?_) (fun q hq => ?_) (fun q hq r hr => ?_)
          · rw [sset_n (by omega), sset_n (by omega)]; exact h5
          · exact (hkn.updx (Or.inr (by omega)) _).upd6
          · rw [sset_e, show ((400 : Int) + kk).toNat = 400 + p by omega]
            by_cases e : q = p
            · rw [e, upf_e]
            · rw [upf_n (by omega), sset_n (by omega)]; exact ho q (by omega)
          · rw [sset_n (by omega), sset_e]
            by_cases e : v = (f (i.toNat + p)).toNat
            · rw [e, upf_e]; exact ⟨fun _ => ⟨p, by omega, by omega⟩, fun _ => by decide⟩
            · rw [upf_n e, hm v hv]
              refine ⟨fun ⟨q, h1, h2⟩ => ⟨q, by omega, h2⟩, fun ⟨q, h1, h2⟩ => ?_⟩
              by_cases e2 : q = p
              · rw [e2] at h2; exact absurd (by omega) e
              · exact ⟨q, by omega, h2⟩
          · by_cases e : q = p
            · rw [e]; omega
            · exact hz q (by omega)
          · by_cases e : q = p
            · rw [e]; intro e2; rw [e] at hr; exact absurd c_153 ((hm _ (by omega)).mpr ⟨r, hr, by omega⟩)
            · exact hj q (by omega) r hr
        · skip
          refine V.ldc (pc := 156) (-1000001) ck_Mo_112 rfl ⟨by decide, by decide⟩ d_Mo_strip_156 ?_
          refine V.ret (pc := 158) (r := some (vI _)) d_Mo_strip_158 (Or.inl rfl) rfl ?_
          obtain ⟨r, hr, er⟩ := (hm (f (i.toNat + p)).toNat (by omega)).mp c_153
          refine qx_of (S2 := S) ((sp_strip_some (by omega) hS).mpr (by rw [if_pos (by omega), if_neg]; intro z; have z1 := z.2 r (by omega) p (by omega) (by dsimp only; omega); omega)) (hI.kn hkn)
set_option maxRecDepth 20000 in
theorem lp_Mo_strip1 (S : SS) (σ : SM) (hI : RI S σ) (pl sh i n : Int) (hpl : 0 ≤ pl ∧ pl ≤ 9) (hsh : 0 ≤ sh ∧ sh ≤ 7) (hnn : 1 ≤ n ∧ n ≤ 20) (l : Int) (m : Nat) (f : Nat → Int) (hS : S.1 sh.toNat = some (l, m, f)) (hm1 : m ≤ 100) (hi0 : 0 ≤ i) (him : i + n ≤ m) (hit : ∀ i, i < m → σ 2 (100 * sh.toNat + i) = f i) (sz : Nat) : ∀ (c p : Nat) (kk : Int) (x : Option MV) (τ : SM), (p : Int) + c = n → kk = p → KN σ τ → (∀ v : Nat, v < p → τ 18 v = 0) →
    V M_Mo_strip 3 75 [some (vR 8), some (vI pl), some (vI sh), some (vI i), some (vI n), some (vI kk), x] [] (hM τ) sz 0 0 (QX (sp_strip S pl sh i n) sz) := by
  intro c
  induction c with
  | zero =>
    intro p kk x τ hc hkk hkn hm
    refine V.iload (pc := 75) d_Mo_strip_75 rfl ?_
    refine V.iload (pc := 77) d_Mo_strip_77 rfl ?_
    refine V.icmp_ge (tgt := 96) (pc := 79) d_Mo_strip_79 (by decide) (fun c_79 => ?_) (fun c_79 => ?_)
    · skip
      refine V.aload_n (pc := 96) 0 d_Mo_strip_96 rfl rfl ?_
      refine V.getf (pc := 97) 5 cl_Mo fl_Mo_25_Mo d_Mo_strip_97 (hM_o _) (Nat.le_of_ble_eq_true rfl) rfl ?_
      refine V.bipush (pc := 100) d_Mo_strip_100 ⟨by decide, by decide⟩ ?_
      refine V.iload (pc := 102) d_Mo_strip_102 rfl ?_
      refine V.iast (pc := 104) d_Mo_strip_104 (ar_many _).1 (by omega) (by omega) ?_
      rw [(ar_many _).2]
      refine V.iconst (pc := 105) d_Mo_strip_105 ⟨by decide, by decide⟩ ?_
      refine V.istore (pc := 106) d_Mo_strip_106 (Nat.le_of_ble_eq_true rfl) rfl ?_
      dsimp only [put]
      refine lp_Mo_strip2 S σ hI pl sh i n hpl hsh hnn l m f hS hm1 hi0 him hit _ n.toNat 0 0 _ _ (by omega) rfl ?_ (hkn.upd5 n) (fun q hq => by omega) (fun v hv => ?_) (fun q hq => by omega) (fun q hq => by omega)
      · rw [sset_e]; exact upf_e
      · rw [sset_n (by omega), hm v (by omega)]
        exact ⟨fun z => absurd rfl z, fun ⟨q, h1, _⟩ => by omega⟩
    · skip
      exfalso; omega
  | succ c ih =>
    intro p kk x τ hc hkk hkn hm
    refine V.iload (pc := 75) d_Mo_strip_75 rfl ?_
    refine V.iload (pc := 77) d_Mo_strip_77 rfl ?_
    refine V.icmp_ge (tgt := 96) (pc := 79) d_Mo_strip_79 (by decide) (fun c_79 => ?_) (fun c_79 => ?_)
    · skip
      exfalso; omega
    · skip
      refine V.aload_n (pc := 82) 0 d_Mo_strip_82 rfl rfl ?_
      refine V.getf (pc := 83) 18 cl_Mo fl_Mo_52_Mo d_Mo_strip_83 (hM_o _) (Nat.le_of_ble_eq_true rfl) rfl ?_
      refine V.iload (pc := 86) d_Mo_strip_86 rfl ?_
      refine V.iconst (pc := 88) d_Mo_strip_88 ⟨by decide, by decide⟩ ?_
      refine V.zast (pc := 89) d_Mo_strip_89 (ar_met _).1 (by omega) (by omega) (by omega) ?_
      rw [(ar_met _).2]
      refine V.iinc (pc := 90) d_Mo_strip_90 rfl ⟨by omega, by omega⟩ (Nat.le_of_ble_eq_true rfl) rfl ?_
      dsimp only [put]
      refine V.goto (tgt := 75) (pc := 93) d_Mo_strip_93 (by decide) ?_
      refine ih (p + 1) _ _ _ (by omega) (by omega) (hkn.updx (Or.inr (by omega)) _) (fun v hv => ?_)
      rw [sset_e]
      by_cases e : v = kk.toNat
      · rw [e, upf_e]
      · rw [upf_n e]; exact hm v (by omega)
set_option maxRecDepth 20000 in
theorem cs_Mo_strip (S : SS) (σ : SM) (hI : RI S σ) (pl sh i n : Int) (sz : Nat) : Ct M_Mo_strip 3 0 0 [vR 8, vI pl, vI sh, vI i, vI n] (hM σ) sz (QX (sp_strip S pl sh i n) sz) := by
  refine Ct.of rfl (Nat.le_of_ble_eq_true rfl) ?_
  dsimp only [lsOf]
  refine V.iload_n (pc := 0) 1 d_Mo_strip_0 rfl rfl ?_
  refine V.cS1 (pc := 1) (kc2 := 0) (ks2 := 0) ml_Mo_152 (ct_Mo_isPlace _ _ _) d_Mo_strip_1 (Nat.le_of_ble_eq_true rfl) (Nat.le_of_ble_eq_true rfl) (Nat.le_of_ble_eq_true rfl) (Nat.le_of_ble_eq_true rfl) ?_
  rintro _ _ _ ⟨rfl, rfl, rfl⟩
  dsimp only [Option.toList, List.cons_append, List.nil_append]
  refine V.ifB_eq (tgt := 27) (pc := 4) d_Mo_strip_4 (by decide) (fun c_4 => ?_) (fun c_4 => ?_)
  · skip
    refine V.ldc (pc := 27) (-1000001) ck_Mo_112 rfl ⟨by decide, by decide⟩ d_Mo_strip_27 ?_
    refine V.ret (pc := 29) (r := some (vI _)) d_Mo_strip_29 (Or.inl rfl) rfl ?_
    exact qx_of (by unfold sp_strip; rw [if_neg (by omega)]) hI
  · skip
    refine V.iload_n (pc := 7) 2 d_Mo_strip_7 rfl rfl ?_
    refine V.cS1 (pc := 8) (kc2 := 0) (ks2 := 0) ml_Mo_106 (ct_Mo_isSheet _ _ _) d_Mo_strip_8 (Nat.le_of_ble_eq_true rfl) (Nat.le_of_ble_eq_true rfl) (Nat.le_of_ble_eq_true rfl) (Nat.le_of_ble_eq_true rfl) ?_
    rintro _ _ _ ⟨rfl, rfl, rfl⟩
    dsimp only [Option.toList, List.cons_append, List.nil_append]
    refine V.ifB_eq (tgt := 27) (pc := 11) d_Mo_strip_11 (by decide) (fun c_11 => ?_) (fun c_11 => ?_)
    · skip
      refine V.ldc (pc := 27) (-1000001) ck_Mo_112 rfl ⟨by decide, by decide⟩ d_Mo_strip_27 ?_
      refine V.ret (pc := 29) (r := some (vI _)) d_Mo_strip_29 (Or.inl rfl) rfl ?_
      exact qx_of (by unfold sp_strip; rw [if_neg (by omega)]) hI
    · skip
      refine V.iload (pc := 14) d_Mo_strip_14 rfl ?_
      refine V.i2l (pc := 16) d_Mo_strip_16 ?_
      refine V.lconst1 (pc := 17) d_Mo_strip_17 ?_
      refine V.ldc2 (pc := 18) (20) ck_Mo_155 rfl ⟨by decide, by decide⟩ d_Mo_strip_18 ?_
      refine V.cS3 (pc := 21) (kc2 := 0) (ks2 := 0) ml_Mo_102 (ct_Mo_in _ _ _ _ _) d_Mo_strip_21 (Nat.le_of_ble_eq_true rfl) (Nat.le_of_ble_eq_true rfl) (Nat.le_of_ble_eq_true rfl) (Nat.le_of_ble_eq_true rfl) ?_
      rintro _ _ _ ⟨rfl, rfl, rfl⟩
      dsimp only [Option.toList, List.cons_append, List.nil_append]
      refine V.ifB_ne (tgt := 30) (pc := 24) d_Mo_strip_24 (by decide) (fun c_24 => ?_) (fun c_24 => ?_)
      · skip
        rcases sh_cases hI.1 (show sh.toNat < 8 by omega) with ⟨hS, hk⟩ | ⟨l, m, f, hS, hl1, hl2, hn1, hk, hn, hit⟩
        · skip
          refine V.aload_n (pc := 30) 0 d_Mo_strip_30 rfl rfl ?_
          refine V.getf (pc := 31) 0 cl_Mo fl_Mo_7_Mo d_Mo_strip_31 (hM_o _) (Nat.le_of_ble_eq_true rfl) rfl ?_
          refine V.iload_n (pc := 34) 2 d_Mo_strip_34 rfl rfl ?_
          refine V.iald (pc := 35) d_Mo_strip_35 (ar_lane _).1 (by omega) (by omega) ?_
          try simp (disch := omega) only [sset_n, sset_e]
          refine V.if_ne (tgt := 45) (pc := 36) d_Mo_strip_36 (by decide) (fun c_36 => ?_) (fun c_36 => ?_)
          · skip
            exfalso; omega
          · skip
            refine V.aload_n (pc := 39) 0 d_Mo_strip_39 rfl rfl ?_
            refine V.iconst (pc := 40) d_Mo_strip_40 ⟨by decide, by decide⟩ ?_
            refine V.cV1 (pc := 41) (kc2 := 0) (ks2 := 0) ml_Mo_113 (hM_o _) (ct_Mo_finds _ (by omega) _ _) d_Mo_strip_41 (Nat.le_of_ble_eq_true rfl) (Nat.le_of_ble_eq_true rfl) (Nat.le_of_ble_eq_true rfl) (Nat.le_of_ble_eq_true rfl) ?_
            rintro _ _ _ ⟨rfl, rfl, rfl⟩
            dsimp only [Option.toList, List.cons_append, List.nil_append]
            first | rw [fi1] | rw [fi2] | rw [fi3] | rw [fi4] | rw [fi5]
            refine V.ret (pc := 44) (r := some (vI _)) d_Mo_strip_44 (Or.inl rfl) rfl ?_
            exact qx_of ((sp_strip_none (by omega) hS).mpr rfl) (hI.st 1)
        · skip
          refine V.aload_n (pc := 30) 0 d_Mo_strip_30 rfl rfl ?_
          refine V.getf (pc := 31) 0 cl_Mo fl_Mo_7_Mo d_Mo_strip_31 (hM_o _) (Nat.le_of_ble_eq_true rfl) rfl ?_
          refine V.iload_n (pc := 34) 2 d_Mo_strip_34 rfl rfl ?_
          refine V.iald (pc := 35) d_Mo_strip_35 (ar_lane _).1 (by omega) (by omega) ?_
          try simp (disch := omega) only [sset_n, sset_e]
          refine V.if_ne (tgt := 45) (pc := 36) d_Mo_strip_36 (by decide) (fun c_36 => ?_) (fun c_36 => ?_)
          · skip
            refine V.iload_n (pc := 45) 3 d_Mo_strip_45 rfl rfl ?_
            refine V.if_lt (tgt := 66) (pc := 46) d_Mo_strip_46 (by decide) (fun c_46 => ?_) (fun c_46 => ?_)
            · skip
              refine V.aload_n (pc := 66) 0 d_Mo_strip_66 rfl rfl ?_
              refine V.iconst (pc := 67) d_Mo_strip_67 ⟨by decide, by decide⟩ ?_
              refine V.cV1 (pc := 68) (kc2 := 0) (ks2 := 0) ml_Mo_113 (hM_o _) (ct_Mo_finds _ (by omega) _ _) d_Mo_strip_68 (Nat.le_of_ble_eq_true rfl) (Nat.le_of_ble_eq_true rfl) (Nat.le_of_ble_eq_true rfl) (Nat.le_of_ble_eq_true rfl) ?_
              rintro _ _ _ ⟨rfl, rfl, rfl⟩
              dsimp only [Option.toList, List.cons_append, List.nil_append]
              first | rw [fi1] | rw [fi2] | rw [fi3] | rw [fi4] | rw [fi5]
              refine V.ret (pc := 71) (r := some (vI _)) d_Mo_strip_71 (Or.inl rfl) rfl ?_
              (try simp only [lc_gt] at c_63)
              exact qx_of ((sp_strip_some (by omega) hS).mpr (by rw [if_neg (by omega)])) (hI.st 2)
            · skip
              refine V.lrng 3 rfl (fun hri => ?_)
              obtain ⟨hri1, hri2⟩ := hri
              refine V.iload_n (pc := 49) 3 d_Mo_strip_49 rfl rfl ?_
              refine V.i2l (pc := 50) d_Mo_strip_50 ?_
              refine V.iload (pc := 51) d_Mo_strip_51 rfl ?_
              refine V.i2l (pc := 53) d_Mo_strip_53 ?_
              refine V.ladd (pc := 54) d_Mo_strip_54 ⟨by omega, by omega⟩ ?_
              refine V.aload_n (pc := 55) 0 d_Mo_strip_55 rfl rfl ?_
              refine V.getf (pc := 56) 1 cl_Mo fl_Mo_13_Mo d_Mo_strip_56 (hM_o _) (Nat.le_of_ble_eq_true rfl) rfl ?_
              refine V.iload_n (pc := 59) 2 d_Mo_strip_59 rfl rfl ?_
              refine V.iald (pc := 60) d_Mo_strip_60 (ar_size _).1 (by omega) (by omega) ?_
              try simp (disch := omega) only [sset_n, sset_e]
              rw [hn]
              refine V.i2l (pc := 61) d_Mo_strip_61 ?_
              refine V.lcmp (pc := 62) d_Mo_strip_62 ?_
              refine V.if_le (tgt := 72) (pc := 63) d_Mo_strip_63 (by decide) (fun c_63 => ?_) (fun c_63 => ?_)
              · skip
                refine V.iconst (pc := 72) d_Mo_strip_72 ⟨by decide, by decide⟩ ?_
                refine V.istore (pc := 73) d_Mo_strip_73 (Nat.le_of_ble_eq_true rfl) rfl ?_
                dsimp only [put]
                refine V.pad ?_
                exact lp_Mo_strip1 S σ hI pl sh i n (by omega) (by omega) (by omega) l m f hS hn1 (by omega) (by simp only [lc_le] at c_63; omega) hit _ n.toNat 0 0 none _ (by omega) rfl (KN.rf σ) (fun v hv => by omega)
              · skip
                refine V.aload_n (pc := 66) 0 d_Mo_strip_66 rfl rfl ?_
                refine V.iconst (pc := 67) d_Mo_strip_67 ⟨by decide, by decide⟩ ?_
                refine V.cV1 (pc := 68) (kc2 := 0) (ks2 := 0) ml_Mo_113 (hM_o _) (ct_Mo_finds _ (by omega) _ _) d_Mo_strip_68 (Nat.le_of_ble_eq_true rfl) (Nat.le_of_ble_eq_true rfl) (Nat.le_of_ble_eq_true rfl) (Nat.le_of_ble_eq_true rfl) ?_
                rintro _ _ _ ⟨rfl, rfl, rfl⟩
                dsimp only [Option.toList, List.cons_append, List.nil_append]
                first | rw [fi1] | rw [fi2] | rw [fi3] | rw [fi4] | rw [fi5]
                refine V.ret (pc := 71) (r := some (vI _)) d_Mo_strip_71 (Or.inl rfl) rfl ?_
                (try simp only [lc_gt] at c_63)
                exact qx_of ((sp_strip_some (by omega) hS).mpr (by rw [if_neg (by omega)])) (hI.st 2)
          · skip
            exfalso; omega
      · skip
        refine V.ldc (pc := 27) (-1000001) ck_Mo_112 rfl ⟨by decide, by decide⟩ d_Mo_strip_27 ?_
        refine V.ret (pc := 29) (r := some (vI _)) d_Mo_strip_29 (Or.inl rfl) rfl ?_
        exact qx_of (by unfold sp_strip; rw [if_neg (by omega)]) hI
