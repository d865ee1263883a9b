/-! THE REFERENCE: way, printed by wip/whole/gen/refE.py -/
def clf (a b : Nat → Int) (n q : Nat) (x : Nat) : Int := if lab a b n x = lab a b n q then 1 else 0
theorem clf_rng (a b : Nat → Int) (n q x : Nat) : 0 ≤ clf a b n q x ∧ clf a b n q x ≤ 1 := by unfold clf; split <;> omega
def sp_way (S : SS) (p q k : Int) : Int × SS := if 0 ≤ p ∧ p ≤ 9 then (match S.2.1 p.toNat with
  | none => (-1000011, sSt S 1)
  | some (kd, n, a, b) => if isOf kd 5 then (if 0 ≤ q ∧ q < 2 * n then (if 0 ≤ k ∧ k < cn (clf a b n q.toNat) (2 * n) then ((wk (pt a n) (pt b n) q.toNat k.toNat : Int), sSt S 0) else (-1000000, sSt S 0)) else (-1000001, S)) else (-1000013, sSt S 3)) else (-1000001, S)
set_option maxRecDepth 20000 in
theorem lp_Mo_way2 (S : SS) (σ : SM) (hI : RI S σ) (p q k : Int) (hp : 0 ≤ p ∧ p ≤ 9) (kd : Int) (n : Nat) (a b : Nat → Int) (hS : S.2.1 p.toNat = some (kd, n, a, b)) (hof : isOf kd 5) (hn : σ 5 p.toNat = n) (hn20 : 1 ≤ n ∧ n ≤ 20) (h6 : ∀ x, x < 2 * n → σ 8 (40 * p.toNat + x) = pt a n x) (h5 : ∀ x, x < 2 * n → σ 9 (40 * p.toNat + x) = pt b n x) (har : arch a n) (hbr : arch b n) (hq : 0 ≤ q ∧ q < 2 * n) (fl : Nat → Int) (hfl : ∀ x, x < 2 * n → fl x = lab a b n x) (hk : 0 ≤ k ∧ k < cn (clf a b n q.toNat) (2 * n)) (sz : Nat) : ∀ (c i : Nat) (ii : Int) (x2 x4 x5 : Option MV) (x6 : Int) (cw : Nat), (i : Int) + c = k → ii = i → wk (pt a n) (pt b n) q.toNat i = cw → cw < 2 * n →
    V M_Mo_way 2 134 [some (vR 8), some (vI p), x2, some (vI k), x4, x5, some (vI x6), some (vI (cw : Nat)), some (vI ii)] [] (hM (sset σ 14 fl)) sz 0 0 (QS (sp_way S p q k) sz) := by
  intro c
  induction c with
  | zero =>
    intro i ii x2 x4 x5 x6 cw hc hii hcw hlt
    refine V.iload (pc := 134) d_Mo_way_134 rfl ?_
    refine V.iload_n (pc := 136) 3 d_Mo_way_136 rfl rfl ?_
    refine V.icmp_ge (tgt := 182) (pc := 137) d_Mo_way_137 (by decide) (fun c_137 => ?_) (fun c_137 => ?_)
    · skip
      refine V.aload_n (pc := 182) 0 d_Mo_way_182 rfl rfl ?_
      refine V.iload (pc := 183) d_Mo_way_183 rfl ?_
      refine V.cV1 (pc := 185) (kc2 := 0) (ks2 := 0) ml_Mo_117 (hM_o _) (ct_Mo_well _ _ _) d_Mo_way_185 (Nat.le_of_ble_eq_true rfl) (Nat.le_of_ble_eq_true rfl) (Nat.le_of_ble_eq_true rfl) (Nat.le_of_ble_eq_true rfl) ?_
      rintro _ _ _ ⟨rfl, rfl, rfl⟩
      dsimp only [Option.toList, List.cons_append, List.nil_append]
      refine V.ret (pc := 188) (r := some (vI _)) d_Mo_way_188 (Or.inl rfl) rfl ?_
      refine qs_of (S2 := sSt S 0) ?_ (hI.lf fl 0)
      unfold sp_way; rw [if_pos (by omega)]; simp only [hS]; rw [if_pos hof, if_pos hq]; rw [if_pos hk, show k.toNat = i by omega, hcw]
    · skip
      exfalso; omega
  | succ c ih =>
    intro i ii x2 x4 x5 x6 cw hc hii hcw hlt
    refine V.iload (pc := 134) d_Mo_way_134 rfl ?_
    refine V.iload_n (pc := 136) 3 d_Mo_way_136 rfl rfl ?_
    have hrg := cn_rng (clf_rng a b n q.toNat) (2 * n)
    refine V.icmp_ge (tgt := 182) (pc := 137) d_Mo_way_137 (by decide) (fun c_137 => ?_) (fun c_137 => ?_)
    · skip
      exfalso; omega
    · skip
      refine V.iload (pc := 140) d_Mo_way_140 rfl ?_
      refine V.iconst (pc := 142) d_Mo_way_142 ⟨by decide, by decide⟩ ?_
      refine V.irem (pc := 143) d_Mo_way_143 (by omega) (by omega) ?_
      refine V.if_ne (tgt := 162) (pc := 144) d_Mo_way_144 (by decide) (fun c_144 => ?_) (fun c_144 => ?_)
      · skip
        refine V.aload_n (pc := 162) 0 d_Mo_way_162 rfl rfl ?_
        refine V.getf (pc := 163) 9 cl_Mo fl_Mo_37_Mo d_Mo_way_163 (hM_o _) (Nat.le_of_ble_eq_true rfl) rfl ?_
        refine V.bipush (pc := 166) d_Mo_way_166 ⟨by decide, by decide⟩ ?_
        refine V.iload_n (pc := 168) 1 d_Mo_way_168 rfl rfl ?_
        refine V.imul (pc := 169) d_Mo_way_169 ⟨by omega, by omega⟩ ?_
        refine V.iload (pc := 170) d_Mo_way_170 rfl ?_
        refine V.iadd (pc := 172) d_Mo_way_172 ⟨by omega, by omega⟩ ?_
        refine V.iald (pc := 173) d_Mo_way_173 (ar_under _).1 (by omega) (by omega) ?_
        try simp (disch := omega) only [sset_n, sset_e]
        rw [show (40 * p + (cw : Int)).toNat = 40 * p.toNat + cw by omega, h5 cw hlt]
        obtain ⟨r, k1, k2, -⟩ := pt_pair hbr hlt
        rw [k1]
        refine V.istore (pc := 174) d_Mo_way_174 (Nat.le_of_ble_eq_true rfl) rfl ?_
        dsimp only [put]
        refine V.iinc (pc := 176) d_Mo_way_176 rfl ⟨by omega, by omega⟩ (Nat.le_of_ble_eq_true rfl) rfl ?_
        dsimp only [put]
        refine V.goto (tgt := 134) (pc := 179) d_Mo_way_179 (by decide) ?_
        refine ih (i + 1) _ _ _ _ _ _ (by omega) (by omega) ?_ k2
        show (if i % 2 = 0 then (pt a n (wk (pt a n) (pt b n) q.toNat i)).toNat else (pt b n (wk (pt a n) (pt b n) q.toNat i)).toNat) = _
        rw [if_neg (by omega), hcw, k1, Int.toNat_natCast]
      · skip
        refine V.aload_n (pc := 147) 0 d_Mo_way_147 rfl rfl ?_
        refine V.getf (pc := 148) 8 cl_Mo fl_Mo_34_Mo d_Mo_way_148 (hM_o _) (Nat.le_of_ble_eq_true rfl) rfl ?_
        refine V.bipush (pc := 151) d_Mo_way_151 ⟨by decide, by decide⟩ ?_
        refine V.iload_n (pc := 153) 1 d_Mo_way_153 rfl rfl ?_
        refine V.imul (pc := 154) d_Mo_way_154 ⟨by omega, by omega⟩ ?_
        refine V.iload (pc := 155) d_Mo_way_155 rfl ?_
        refine V.iadd (pc := 157) d_Mo_way_157 ⟨by omega, by omega⟩ ?_
        refine V.iald (pc := 158) d_Mo_way_158 (ar_over _).1 (by omega) (by omega) ?_
        try simp (disch := omega) only [sset_n, sset_e]
        rw [show (40 * p + (cw : Int)).toNat = 40 * p.toNat + cw by omega, h6 cw hlt]
        obtain ⟨r, k1, k2, -⟩ := pt_pair har hlt
        rw [k1]
        refine V.goto (tgt := 174) (pc := 159) d_Mo_way_159 (by decide) ?_
        refine V.istore (pc := 174) d_Mo_way_174 (Nat.le_of_ble_eq_true rfl) rfl ?_
        dsimp only [put]
        refine V.iinc (pc := 176) d_Mo_way_176 rfl ⟨by omega, by omega⟩ (Nat.le_of_ble_eq_true rfl) rfl ?_
        dsimp only [put]
        refine V.goto (tgt := 134) (pc := 179) d_Mo_way_179 (by decide) ?_
        refine ih (i + 1) _ _ _ _ _ _ (by omega) (by omega) ?_ k2
        show (if i % 2 = 0 then (pt a n (wk (pt a n) (pt b n) q.toNat i)).toNat else (pt b n (wk (pt a n) (pt b n) q.toNat i)).toNat) = _
        rw [if_pos (by omega), hcw, k1, Int.toNat_natCast]
set_option maxRecDepth 20000 in
theorem lp_Mo_way1 (S : SS) (σ : SM) (hI : RI S σ) (p q k : Int) (hp : 0 ≤ p ∧ p ≤ 9) (kd : Int) (n : Nat) (a b : Nat → Int) (hS : S.2.1 p.toNat = some (kd, n, a, b)) (hof : isOf kd 5) (hn : σ 5 p.toNat = n) (hn20 : 1 ≤ n ∧ n ≤ 20) (h6 : ∀ x, x < 2 * n → σ 8 (40 * p.toNat + x) = pt a n x) (h5 : ∀ x, x < 2 * n → σ 9 (40 * p.toNat + x) = pt b n x) (har : arch a n) (hbr : arch b n) (hq : 0 ≤ q ∧ q < 2 * n) (fl : Nat → Int) (hfl : ∀ x, x < 2 * n → fl x = lab a b n x) (sz : Nat) : ∀ (c j : Nat) (jj acc : Int) (x4 : Option MV) (x5 : Int) (x8 : Option MV), j + c = 2 * n → jj = j → acc = cn (clf a b n q.toNat) j →
    V M_Mo_way 2 62 [some (vR 8), some (vI p), some (vI q), some (vI k), x4, some (vI x5), some (vI acc), some (vI jj), x8] [] (hM (sset σ 14 fl)) sz 0 0 (QS (sp_way S p q k) sz) := by
  intro c
  induction c with
  | zero =>
    intro j jj acc x4 x5 x8 hc hjj hacc
    have hrg := cn_rng (clf_rng a b n q.toNat) j
    refine V.iload (pc := 62) d_Mo_way_62 rfl ?_
    refine V.iconst (pc := 64) d_Mo_way_64 ⟨by decide, by decide⟩ ?_
    refine V.aload_n (pc := 65) 0 d_Mo_way_65 rfl rfl ?_
    refine V.getf (pc := 66) 5 cl_Mo fl_Mo_25_Mo d_Mo_way_66 (hM_o _) (Nat.le_of_ble_eq_true rfl) rfl ?_
    refine V.iload_n (pc := 69) 1 d_Mo_way_69 rfl rfl ?_
    refine V.iald (pc := 70) d_Mo_way_70 (ar_many _).1 (by omega) (by omega) ?_
    try simp (disch := omega) only [sset_n, sset_e]
    rw [hn]
    refine V.imul (pc := 71) d_Mo_way_71 ⟨by omega, by omega⟩ ?_
    refine V.icmp_ge (tgt := 107) (pc := 72) d_Mo_way_72 (by decide) (fun c_72 => ?_) (fun c_72 => ?_)
    · skip
      refine V.iload_n (pc := 107) 3 d_Mo_way_107 rfl rfl ?_
      refine V.i2l (pc := 108) d_Mo_way_108 ?_
      refine V.lconst0 (pc := 109) d_Mo_way_109 ?_
      refine V.iload (pc := 110) d_Mo_way_110 rfl ?_
      refine V.iconst (pc := 112) d_Mo_way_112 ⟨by decide, by decide⟩ ?_
      refine V.isub (pc := 113) d_Mo_way_113 ⟨by omega, by omega⟩ ?_
      refine V.i2l (pc := 114) d_Mo_way_114 ?_
      refine V.cS3 (pc := 115) (kc2 := 0) (ks2 := 0) ml_Mo_102 (ct_Mo_in _ _ _ _ _) d_Mo_way_115 (Nat.le_of_ble_eq_true rfl) (Nat.le_of_ble_eq_true rfl) (Nat.le_of_ble_eq_true rfl) (Nat.le_of_ble_eq_true rfl) ?_
      rintro _ _ _ ⟨rfl, rfl, rfl⟩
      dsimp only [Option.toList, List.cons_append, List.nil_append]
      refine V.ifB_ne (tgt := 128) (pc := 118) d_Mo_way_118 (by decide) (fun c_118 => ?_) (fun c_118 => ?_)
      · skip
        refine V.iload_n (pc := 128) 2 d_Mo_way_128 rfl rfl ?_
        refine V.istore (pc := 129) d_Mo_way_129 (Nat.le_of_ble_eq_true rfl) rfl ?_
        dsimp only [put]
        refine V.iconst (pc := 131) d_Mo_way_131 ⟨by decide, by decide⟩ ?_
        refine V.istore (pc := 132) d_Mo_way_132 (Nat.le_of_ble_eq_true rfl) rfl ?_
        dsimp only [put]
        have eq9 : (vI q : MV) = vI ((q.toNat : Nat) : Int) := by rw [show ((q.toNat : Nat) : Int) = q by omega]
        rw [eq9]
        refine lp_Mo_way2 S σ hI p q k hp kd n a b hS hof hn hn20 h6 h5 har hbr hq fl hfl ?_ _ k.toNat 0 0 _ _ _ _ q.toNat (by omega) rfl rfl (by omega)
        rw [show 2 * n = j by omega, ← hacc]; omega
      · skip
        refine V.aload_n (pc := 121) 0 d_Mo_way_121 rfl rfl ?_
        refine V.ldc (pc := 122) (-1000000) ck_Mo_136 rfl ⟨by decide, by decide⟩ d_Mo_way_122 ?_
        refine V.cV1 (pc := 124) (kc2 := 0) (ks2 := 0) ml_Mo_117 (hM_o _) (ct_Mo_well _ _ _) d_Mo_way_124 (Nat.le_of_ble_eq_true rfl) (Nat.le_of_ble_eq_true rfl) (Nat.le_of_ble_eq_true rfl) (Nat.le_of_ble_eq_true rfl) ?_
        rintro _ _ _ ⟨rfl, rfl, rfl⟩
        dsimp only [Option.toList, List.cons_append, List.nil_append]
        refine V.ret (pc := 127) (r := some (vI _)) d_Mo_way_127 (Or.inl rfl) rfl ?_
        refine qs_of (S2 := sSt S 0) ?_ (hI.lf fl 0)
        unfold sp_way; rw [if_pos (by omega)]; simp only [hS]; rw [if_pos hof, if_pos hq]; rw [if_neg (by rw [show 2 * n = j by omega, ← hacc]; omega)]
    · skip
      exfalso; omega
  | succ c ih =>
    intro j jj acc x4 x5 x8 hc hjj hacc
    have hrg := cn_rng (clf_rng a b n q.toNat) j
    refine V.iload (pc := 62) d_Mo_way_62 rfl ?_
    refine V.iconst (pc := 64) d_Mo_way_64 ⟨by decide, by decide⟩ ?_
    refine V.aload_n (pc := 65) 0 d_Mo_way_65 rfl rfl ?_
    refine V.getf (pc := 66) 5 cl_Mo fl_Mo_25_Mo d_Mo_way_66 (hM_o _) (Nat.le_of_ble_eq_true rfl) rfl ?_
    refine V.iload_n (pc := 69) 1 d_Mo_way_69 rfl rfl ?_
    refine V.iald (pc := 70) d_Mo_way_70 (ar_many _).1 (by omega) (by omega) ?_
    try simp (disch := omega) only [sset_n, sset_e]
    rw [hn]
    refine V.imul (pc := 71) d_Mo_way_71 ⟨by omega, by omega⟩ ?_
    refine V.icmp_ge (tgt := 107) (pc := 72) d_Mo_way_72 (by decide) (fun c_72 => ?_) (fun c_72 => ?_)
    · skip
      exfalso; omega
    · skip
      refine V.iload (pc := 75) d_Mo_way_75 rfl ?_
      refine V.aload_n (pc := 77) 0 d_Mo_way_77 rfl rfl ?_
      refine V.getf (pc := 78) 14 cl_Mo fl_Mo_46_Mo d_Mo_way_78 (hM_o _) (Nat.le_of_ble_eq_true rfl) rfl ?_
      refine V.iload (pc := 81) d_Mo_way_81 rfl ?_
      refine V.iald (pc := 83) d_Mo_way_83 (ar_loopOf _).1 (by omega) (by omega) ?_
      try simp (disch := omega) only [sset_n, sset_e]
      rw [show jj.toNat = j by omega]
      refine V.aload_n (pc := 84) 0 d_Mo_way_84 rfl rfl ?_
      refine V.getf (pc := 85) 14 cl_Mo fl_Mo_46_Mo d_Mo_way_85 (hM_o _) (Nat.le_of_ble_eq_true rfl) rfl ?_
      refine V.iload_n (pc := 88) 2 d_Mo_way_88 rfl rfl ?_
      refine V.iald (pc := 89) d_Mo_way_89 (ar_loopOf _).1 (by omega) (by omega) ?_
      try simp (disch := omega) only [sset_n, sset_e]
      refine V.icmp_ne (tgt := 97) (pc := 90) d_Mo_way_90 (by decide) (fun c_90 => ?_) (fun c_90 => ?_)
      · skip
        refine V.iconst (pc := 97) d_Mo_way_97 ⟨by decide, by decide⟩ ?_
        refine V.iadd (pc := 98) d_Mo_way_98 ⟨by omega, by omega⟩ ?_
        refine V.istore (pc := 99) d_Mo_way_99 (Nat.le_of_ble_eq_true rfl) rfl ?_
        dsimp only [put]
        refine V.iinc (pc := 101) d_Mo_way_101 rfl ⟨by omega, by omega⟩ (Nat.le_of_ble_eq_true rfl) rfl ?_
        dsimp only [put]
        refine V.goto (tgt := 62) (pc := 104) d_Mo_way_104 (by decide) ?_
        have hrg := cn_rng (clf_rng a b n q.toNat) j
        refine ih (j + 1) _ _ _ _ _ (by omega) (by omega) ?_
        show _ = cn (clf a b n q.toNat) j + clf a b n q.toNat j
        rw [hacc]
        unfold clf
        rw [← hfl j (by omega), ← hfl q.toNat (by omega)]
        first | rw [if_pos (by omega)] | rw [if_neg (by omega)]
      · skip
        refine V.iconst (pc := 93) d_Mo_way_93 ⟨by decide, by decide⟩ ?_
        refine V.goto (tgt := 98) (pc := 94) d_Mo_way_94 (by decide) ?_
        refine V.iadd (pc := 98) d_Mo_way_98 ⟨by omega, by omega⟩ ?_
        refine V.istore (pc := 99) d_Mo_way_99 (Nat.le_of_ble_eq_true rfl) rfl ?_
        dsimp only [put]
        refine V.iinc (pc := 101) d_Mo_way_101 rfl ⟨by omega, by omega⟩ (Nat.le_of_ble_eq_true rfl) rfl ?_
        dsimp only [put]
        refine V.goto (tgt := 62) (pc := 104) d_Mo_way_104 (by decide) ?_
        have hrg := cn_rng (clf_rng a b n q.toNat) j
        refine ih (j + 1) _ _ _ _ _ (by omega) (by omega) ?_
        show _ = cn (clf a b n q.toNat) j + clf a b n q.toNat j
        rw [hacc]
        unfold clf
        rw [← hfl j (by omega), ← hfl q.toNat (by omega)]
        first | rw [if_pos (by omega)] | rw [if_neg (by omega)]
set_option maxRecDepth 20000 in
theorem cs_Mo_way (S : SS) (σ : SM) (hI : RI S σ) (p q k : Int) (sz : Nat) : Ct M_Mo_way 2 0 0 [vR 8, vI p, vI q, vI k] (hM σ) sz (QS (sp_way S p q k) sz) := by
  refine Ct.of rfl (Nat.le_of_ble_eq_true rfl) ?_
  dsimp only [lsOf]
  refine V.iload_n (pc := 0) 1 d_Mo_way_0 rfl rfl ?_
  refine V.cS1 (pc := 1) (kc2 := 0) (ks2 := 0) ml_Mo_152 (ct_Mo_isPlace _ _ _) d_Mo_way_1 (Nat.le_of_ble_eq_true rfl) (Nat.le_of_ble_eq_true rfl) (Nat.le_of_ble_eq_true rfl) (Nat.le_of_ble_eq_true rfl) ?_
  rintro _ _ _ ⟨rfl, rfl, rfl⟩
  dsimp only [Option.toList, List.cons_append, List.nil_append]
  refine V.ifB_ne (tgt := 10) (pc := 4) d_Mo_way_4 (by decide) (fun c_4 => ?_) (fun c_4 => ?_)
  · skip
    rcases th_cases hI.2.1 (show p.toNat < 10 by omega) with ⟨hS, hk⟩ | ⟨kd, n, a, b, hS, hone⟩
    rotate_left
    by_cases hof : isOf kd 5
    · skip
      obtain ⟨hw, hk, hn, h3, h4, h5, h6⟩ := id hone
      have hwk := wf_kind hw
      refine V.aload_n (pc := 10) 0 d_Mo_way_10 rfl rfl ?_
      refine V.iload_n (pc := 11) 1 d_Mo_way_11 rfl rfl ?_
      refine V.iconst (pc := 12) d_Mo_way_12 ⟨by decide, by decide⟩ ?_
      refine V.cV2 (pc := 13) (kc2 := 0) (ks2 := 0) ml_Mo_165 (hM_o _) (refY (by omega) (by omega) (by rw [hk]; exact hof) _) d_Mo_way_13 (Nat.le_of_ble_eq_true rfl) (Nat.le_of_ble_eq_true rfl) (Nat.le_of_ble_eq_true rfl) (Nat.le_of_ble_eq_true rfl) ?_
      rintro _ _ _ ⟨rfl, rfl, rfl⟩
      dsimp only [Option.toList, List.cons_append, List.nil_append]
      refine V.istore (pc := 16) d_Mo_way_16 (Nat.le_of_ble_eq_true rfl) rfl ?_
      dsimp only [put]
      refine V.iload (pc := 18) d_Mo_way_18 rfl ?_
      refine V.if_eq (tgt := 26) (pc := 20) d_Mo_way_20 (by decide) (fun c_20 => ?_) (fun c_20 => ?_)
      · skip
        refine V.iload_n (pc := 26) 2 d_Mo_way_26 rfl rfl ?_
        refine V.i2l (pc := 27) d_Mo_way_27 ?_
        refine V.lconst0 (pc := 28) d_Mo_way_28 ?_
        refine V.iconst (pc := 29) d_Mo_way_29 ⟨by decide, by decide⟩ ?_
        refine V.aload_n (pc := 30) 0 d_Mo_way_30 rfl rfl ?_
        refine V.getf (pc := 31) 5 cl_Mo fl_Mo_25_Mo d_Mo_way_31 (hM_o _) (Nat.le_of_ble_eq_true rfl) rfl ?_
        refine V.iload_n (pc := 34) 1 d_Mo_way_34 rfl rfl ?_
        refine V.iald (pc := 35) d_Mo_way_35 (ar_many _).1 (by omega) (by omega) ?_
        try simp (disch := omega) only [sset_n, sset_e]
        rw [hn]
        refine V.imul (pc := 36) d_Mo_way_36 ⟨by omega, by omega⟩ ?_
        refine V.iconst (pc := 37) d_Mo_way_37 ⟨by decide, by decide⟩ ?_
        refine V.isub (pc := 38) d_Mo_way_38 ⟨by omega, by omega⟩ ?_
        refine V.i2l (pc := 39) d_Mo_way_39 ?_
        refine V.cS3 (pc := 40) (kc2 := 0) (ks2 := 0) ml_Mo_102 (ct_Mo_in _ _ _ _ _) d_Mo_way_40 (Nat.le_of_ble_eq_true rfl) (Nat.le_of_ble_eq_true rfl) (Nat.le_of_ble_eq_true rfl) (Nat.le_of_ble_eq_true rfl) ?_
        rintro _ _ _ ⟨rfl, rfl, rfl⟩
        dsimp only [Option.toList, List.cons_append, List.nil_append]
        refine V.ifB_ne (tgt := 49) (pc := 43) d_Mo_way_43 (by decide) (fun c_43 => ?_) (fun c_43 => ?_)
        · skip
          obtain ⟨har, hbr⟩ := land_pr hw (by omega)
          refine V.aload_n (pc := 49) 0 d_Mo_way_49 rfl rfl ?_
          refine V.iload_n (pc := 50) 1 d_Mo_way_50 rfl rfl ?_
          refine V.cV1 (pc := 51) (kc2 := 0) (ks2 := 0) ml_Mo_141 (hM_o _) (ct_Mo_landLoops σ p.toNat n p (by omega) (by omega) hn (by omega) (pt a n) (pt b n) (fun q hq => h6 (by omega) (by omega) q hq) (fun q hq => (h5 (by omega) q hq).2) (PR_pt har) (PR_pt hbr) _) d_Mo_way_51 (Nat.le_of_ble_eq_true rfl) (Nat.le_of_ble_eq_true rfl) (Nat.le_of_ble_eq_true rfl) (Nat.le_of_ble_eq_true rfl) ?_
          rintro _ _ _ ⟨rfl, fl, rfl, rfl, hfl⟩
          dsimp only [Option.toList, List.cons_append, List.nil_append]
          refine V.istore (pc := 54) d_Mo_way_54 (Nat.le_of_ble_eq_true rfl) rfl ?_
          dsimp only [put]
          refine V.iconst (pc := 56) d_Mo_way_56 ⟨by decide, by decide⟩ ?_
          refine V.istore (pc := 57) d_Mo_way_57 (Nat.le_of_ble_eq_true rfl) rfl ?_
          dsimp only [put]
          refine V.iconst (pc := 59) d_Mo_way_59 ⟨by decide, by decide⟩ ?_
          refine V.istore (pc := 60) d_Mo_way_60 (Nat.le_of_ble_eq_true rfl) rfl ?_
          dsimp only [put]
          refine V.pad ?_
          exact lp_Mo_way1 S σ hI p q k (by omega) kd n a b hS hof hn (by omega) (fun x hx => h6 (by omega) (by omega) x hx) (fun x hx => (h5 (by omega) x hx).2) har hbr (by omega) fl hfl _ (2 * n) 0 0 0 _ _ none (by omega) rfl rfl
        · skip
          refine V.ldc (pc := 46) (-1000001) ck_Mo_112 rfl ⟨by decide, by decide⟩ d_Mo_way_46 ?_
          refine V.ret (pc := 48) (r := some (vI _)) d_Mo_way_48 (Or.inl rfl) rfl ?_
          exact qs_of (by unfold sp_way; rw [if_pos (by omega)]; simp only [hS]; rw [if_pos hof, if_neg (by omega)]) hI
      · skip
        exact absurd rfl c_20
    · skip
      obtain ⟨hw, hk, hn, h3, h4, h5, h6⟩ := id hone
      have hwk := wf_kind hw
      refine V.aload_n (pc := 10) 0 d_Mo_way_10 rfl rfl ?_
      refine V.iload_n (pc := 11) 1 d_Mo_way_11 rfl rfl ?_
      refine V.iconst (pc := 12) d_Mo_way_12 ⟨by decide, by decide⟩ ?_
      refine V.cV2 (pc := 13) (kc2 := 0) (ks2 := 0) ml_Mo_165 (hM_o _) (refK (by omega) (by omega) (by rw [hk]; exact hof) _) d_Mo_way_13 (Nat.le_of_ble_eq_true rfl) (Nat.le_of_ble_eq_true rfl) (Nat.le_of_ble_eq_true rfl) (Nat.le_of_ble_eq_true rfl) ?_
      rintro _ _ _ ⟨rfl, rfl, rfl⟩
      dsimp only [Option.toList, List.cons_append, List.nil_append]
      refine V.istore (pc := 16) d_Mo_way_16 (Nat.le_of_ble_eq_true rfl) rfl ?_
      dsimp only [put]
      refine V.iload (pc := 18) d_Mo_way_18 rfl ?_
      refine V.if_eq (tgt := 26) (pc := 20) d_Mo_way_20 (by decide) (fun c_20 => ?_) (fun c_20 => ?_)
      · skip
        exact absurd c_20 (by decide)
      · skip
        refine V.iload (pc := 23) d_Mo_way_23 rfl ?_
        refine V.ret (pc := 25) (r := some (vI _)) d_Mo_way_25 (Or.inl rfl) rfl ?_
        first
          | (refine qs_of (S2 := sSt S 1) ?_ (hI.st 1); unfold sp_way; rw [if_pos (by omega)]; simp only [hS]; done)
          | (refine qs_of (S2 := sSt S 3) ?_ (hI.st 3); unfold sp_way; rw [if_pos (by omega)]; simp only [hS]; rw [if_neg hof]; done)
    · skip
      refine V.aload_n (pc := 10) 0 d_Mo_way_10 rfl rfl ?_
      refine V.iload_n (pc := 11) 1 d_Mo_way_11 rfl rfl ?_
      refine V.iconst (pc := 12) d_Mo_way_12 ⟨by decide, by decide⟩ ?_
      refine V.cV2 (pc := 13) (kc2 := 0) (ks2 := 0) ml_Mo_165 (hM_o _) (refN (by omega) hk _) d_Mo_way_13 (Nat.le_of_ble_eq_true rfl) (Nat.le_of_ble_eq_true rfl) (Nat.le_of_ble_eq_true rfl) (Nat.le_of_ble_eq_true rfl) ?_
      rintro _ _ _ ⟨rfl, rfl, rfl⟩
      dsimp only [Option.toList, List.cons_append, List.nil_append]
      refine V.istore (pc := 16) d_Mo_way_16 (Nat.le_of_ble_eq_true rfl) rfl ?_
      dsimp only [put]
      refine V.iload (pc := 18) d_Mo_way_18 rfl ?_
      refine V.if_eq (tgt := 26) (pc := 20) d_Mo_way_20 (by decide) (fun c_20 => ?_) (fun c_20 => ?_)
      · skip
        exact absurd c_20 (by decide)
      · skip
        refine V.iload (pc := 23) d_Mo_way_23 rfl ?_
        refine V.ret (pc := 25) (r := some (vI _)) d_Mo_way_25 (Or.inl rfl) rfl ?_
        first
          | (refine qs_of (S2 := sSt S 1) ?_ (hI.st 1); unfold sp_way; rw [if_pos (by omega)]; simp only [hS]; done)
          | (refine qs_of (S2 := sSt S 3) ?_ (hI.st 3); unfold sp_way; rw [if_pos (by omega)]; simp only [hS]; rw [if_neg hof]; done)
  · skip
    refine V.ldc (pc := 7) (-1000001) ck_Mo_112 rfl ⟨by decide, by decide⟩ d_Mo_way_7 ?_
    refine V.ret (pc := 9) (r := some (vI _)) d_Mo_way_9 (Or.inl rfl) rfl ?_
    exact qs_of (by unfold sp_way; rw [if_neg (by omega)]) hI
