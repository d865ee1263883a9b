/-! THE REFERENCE: a thing is kept, printed by wip/whole/gen/ref5.py -/
/-- 40 places of f from 400 on, k of them copied to 40 t on -/
def blk (f : Nat → Int) (t k : Nat) : Nat → Int := fun i => if 40 * t ≤ i ∧ i < 40 * t + k then f (400 + (i - 40 * t)) else f i
theorem blk_succ (f : Nat → Int) {t k : Nat} (ht : t < 10) (hk : k < 40) : upf (blk f t k) (40 * t + k) (blk f t k (400 + k)) = blk f t (k + 1) := by
  funext i
  unfold upf blk
  by_cases h : i = 40 * t + k
  · rw [if_pos h, if_neg (by omega), if_pos (by omega)]; congr 1; omega
  · rw [if_neg h]
    by_cases h2 : 40 * t ≤ i ∧ i < 40 * t + k
    · rw [if_pos h2, if_pos (by omega)]
    · rw [if_neg h2, if_neg (by omega)]
theorem blk_0 (f : Nat → Int) (t : Nat) : blk f t 0 = f := by
  funext i; unfold blk; rw [if_neg (by omega)]
def cpI (σ : SM) (t k : Nat) (τ : SM) : Prop := ∀ j, τ j = if 6 ≤ j ∧ j ≤ 9 then blk (σ j) t k else σ j
def QC (σ : SM) (t sz : Nat) : QT := fun r h s => r = none ∧ s = sz ∧ ∃ τ, h = hM τ ∧ ∀ j, τ j = if j = 4 then upf (σ 4) t (σ 4 10) else if j = 5 then upf (σ 5) t (σ 5 10) else if 6 ≤ j ∧ j ≤ 9 then blk (σ j) t 40 else σ j
set_option maxRecDepth 20000 in
theorem lp_Mo_copyThing (σ : SM) (t : Nat) (ht : t < 10) (tt : Int) (htt : tt = t) (sz : Nat) (Q : QT) (hQ : ∀ τ, cpI σ t 40 τ → Q none (hM τ) sz) : ∀ (m k : Nat) (kk : Int) (τ : SM), k + m = 40 → kk = k → cpI σ t k τ →
    V M_Mo_copyThing 0 26 [some (vR 8), some (vI tt), some (vI 10), some (vI kk)] [] (hM τ) sz 0 0 Q := by
  intro m
  induction m with
  | zero =>
    intro k kk τ hm hkk hτ
    refine V.iload_n (pc := 26) 3 d_Mo_copyThing_26 rfl rfl ?_
    refine V.bipush (pc := 27) d_Mo_copyThing_27 ⟨by decide, by decide⟩ ?_
    refine V.icmp_ge (tgt := 126) (pc := 29) d_Mo_copyThing_29 (by decide) (fun c_29 => ?_) (fun c_29 => ?_)
    · skip
      refine V.ret (pc := 126) (r := none) d_Mo_copyThing_126 rfl rfl ?_
      have e : k = 40 := by omega
      subst e
      exact hQ _ hτ
    · skip
      exfalso; omega
  | succ m ih =>
    intro k kk τ hm hkk hτ
    refine V.iload_n (pc := 26) 3 d_Mo_copyThing_26 rfl rfl ?_
    refine V.bipush (pc := 27) d_Mo_copyThing_27 ⟨by decide, by decide⟩ ?_
    refine V.icmp_ge (tgt := 126) (pc := 29) d_Mo_copyThing_29 (by decide) (fun c_29 => ?_) (fun c_29 => ?_)
    · skip
      exfalso; omega
    · skip
      refine V.aload_n (pc := 32) 0 d_Mo_copyThing_32 rfl rfl ?_
      refine V.getf (pc := 33) 6 cl_Mo fl_Mo_28_Mo d_Mo_copyThing_33 (hM_o _) (Nat.le_of_ble_eq_true rfl) rfl ?_
      refine V.bipush (pc := 36) d_Mo_copyThing_36 ⟨by decide, by decide⟩ ?_
      refine V.iload_n (pc := 38) 1 d_Mo_copyThing_38 rfl rfl ?_
      refine V.imul (pc := 39) d_Mo_copyThing_39 ⟨by omega, by omega⟩ ?_
      refine V.iload_n (pc := 40) 3 d_Mo_copyThing_40 rfl rfl ?_
      refine V.iadd (pc := 41) d_Mo_copyThing_41 ⟨by omega, by omega⟩ ?_
      refine V.aload_n (pc := 42) 0 d_Mo_copyThing_42 rfl rfl ?_
      refine V.getf (pc := 43) 6 cl_Mo fl_Mo_28_Mo d_Mo_copyThing_43 (hM_o _) (Nat.le_of_ble_eq_true rfl) rfl ?_
      refine V.bipush (pc := 46) d_Mo_copyThing_46 ⟨by decide, by decide⟩ ?_
      refine V.iload_n (pc := 48) 2 d_Mo_copyThing_48 rfl rfl ?_
      refine V.imul (pc := 49) d_Mo_copyThing_49 ⟨by omega, by omega⟩ ?_
      refine V.iload_n (pc := 50) 3 d_Mo_copyThing_50 rfl rfl ?_
      refine V.iadd (pc := 51) d_Mo_copyThing_51 ⟨by omega, by omega⟩ ?_
      refine V.iald (pc := 52) d_Mo_copyThing_52 (ar_one _).1 (by omega) (by omega) ?_
      try simp (disch := omega) only [sset_n, sset_e]
      refine V.iast (pc := 53) d_Mo_copyThing_53 (ar_one _).1 (by omega) (by omega) ?_
      rw [(ar_one _).2]
      refine V.aload_n (pc := 54) 0 d_Mo_copyThing_54 rfl rfl ?_
      refine V.getf (pc := 55) 7 cl_Mo fl_Mo_31_Mo d_Mo_copyThing_55 (hM_o _) (Nat.le_of_ble_eq_true rfl) rfl ?_
      refine V.bipush (pc := 58) d_Mo_copyThing_58 ⟨by decide, by decide⟩ ?_
      refine V.iload_n (pc := 60) 1 d_Mo_copyThing_60 rfl rfl ?_
      refine V.imul (pc := 61) d_Mo_copyThing_61 ⟨by omega, by omega⟩ ?_
      refine V.iload_n (pc := 62) 3 d_Mo_copyThing_62 rfl rfl ?_
      refine V.iadd (pc := 63) d_Mo_copyThing_63 ⟨by omega, by omega⟩ ?_
      refine V.aload_n (pc := 64) 0 d_Mo_copyThing_64 rfl rfl ?_
      refine V.getf (pc := 65) 7 cl_Mo fl_Mo_31_Mo d_Mo_copyThing_65 (hM_o _) (Nat.le_of_ble_eq_true rfl) rfl ?_
      refine V.bipush (pc := 68) d_Mo_copyThing_68 ⟨by decide, by decide⟩ ?_
      refine V.iload_n (pc := 70) 2 d_Mo_copyThing_70 rfl rfl ?_
      refine V.imul (pc := 71) d_Mo_copyThing_71 ⟨by omega, by omega⟩ ?_
      refine V.iload_n (pc := 72) 3 d_Mo_copyThing_72 rfl rfl ?_
      refine V.iadd (pc := 73) d_Mo_copyThing_73 ⟨by omega, by omega⟩ ?_
      refine V.iald (pc := 74) d_Mo_copyThing_74 (ar_two _).1 (by omega) (by omega) ?_
      try simp (disch := omega) only [sset_n, sset_e]
      refine V.iast (pc := 75) d_Mo_copyThing_75 (ar_two _).1 (by omega) (by omega) ?_
      rw [(ar_two _).2]
      refine V.aload_n (pc := 76) 0 d_Mo_copyThing_76 rfl rfl ?_
      refine V.getf (pc := 77) 8 cl_Mo fl_Mo_34_Mo d_Mo_copyThing_77 (hM_o _) (Nat.le_of_ble_eq_true rfl) rfl ?_
      refine V.bipush (pc := 80) d_Mo_copyThing_80 ⟨by decide, by decide⟩ ?_
      refine V.iload_n (pc := 82) 1 d_Mo_copyThing_82 rfl rfl ?_
      refine V.imul (pc := 83) d_Mo_copyThing_83 ⟨by omega, by omega⟩ ?_
      refine V.iload_n (pc := 84) 3 d_Mo_copyThing_84 rfl rfl ?_
      refine V.iadd (pc := 85) d_Mo_copyThing_85 ⟨by omega, by omega⟩ ?_
      refine V.aload_n (pc := 86) 0 d_Mo_copyThing_86 rfl rfl ?_
      refine V.getf (pc := 87) 8 cl_Mo fl_Mo_34_Mo d_Mo_copyThing_87 (hM_o _) (Nat.le_of_ble_eq_true rfl) rfl ?_
      refine V.bipush (pc := 90) d_Mo_copyThing_90 ⟨by decide, by decide⟩ ?_
      refine V.iload_n (pc := 92) 2 d_Mo_copyThing_92 rfl rfl ?_
      refine V.imul (pc := 93) d_Mo_copyThing_93 ⟨by omega, by omega⟩ ?_
      refine V.iload_n (pc := 94) 3 d_Mo_copyThing_94 rfl rfl ?_
      refine V.iadd (pc := 95) d_Mo_copyThing_95 ⟨by omega, by omega⟩ ?_
      refine V.iald (pc := 96) d_Mo_copyThing_96 (ar_over _).1 (by omega) (by omega) ?_
      try simp (disch := omega) only [sset_n, sset_e]
      refine V.iast (pc := 97) d_Mo_copyThing_97 (ar_over _).1 (by omega) (by omega) ?_
      rw [(ar_over _).2]
      refine V.aload_n (pc := 98) 0 d_Mo_copyThing_98 rfl rfl ?_
      refine V.getf (pc := 99) 9 cl_Mo fl_Mo_37_Mo d_Mo_copyThing_99 (hM_o _) (Nat.le_of_ble_eq_true rfl) rfl ?_
      refine V.bipush (pc := 102) d_Mo_copyThing_102 ⟨by decide, by decide⟩ ?_
      refine V.iload_n (pc := 104) 1 d_Mo_copyThing_104 rfl rfl ?_
      refine V.imul (pc := 105) d_Mo_copyThing_105 ⟨by omega, by omega⟩ ?_
      refine V.iload_n (pc := 106) 3 d_Mo_copyThing_106 rfl rfl ?_
      refine V.iadd (pc := 107) d_Mo_copyThing_107 ⟨by omega, by omega⟩ ?_
      refine V.aload_n (pc := 108) 0 d_Mo_copyThing_108 rfl rfl ?_
      refine V.getf (pc := 109) 9 cl_Mo fl_Mo_37_Mo d_Mo_copyThing_109 (hM_o _) (Nat.le_of_ble_eq_true rfl) rfl ?_
      refine V.bipush (pc := 112) d_Mo_copyThing_112 ⟨by decide, by decide⟩ ?_
      refine V.iload_n (pc := 114) 2 d_Mo_copyThing_114 rfl rfl ?_
      refine V.imul (pc := 115) d_Mo_copyThing_115 ⟨by omega, by omega⟩ ?_
      refine V.iload_n (pc := 116) 3 d_Mo_copyThing_116 rfl rfl ?_
      refine V.iadd (pc := 117) d_Mo_copyThing_117 ⟨by omega, by omega⟩ ?_
      refine V.iald (pc := 118) d_Mo_copyThing_118 (ar_under _).1 (by omega) (by omega) ?_
      try simp (disch := omega) only [sset_n, sset_e]
      refine V.iast (pc := 119) d_Mo_copyThing_119 (ar_under _).1 (by omega) (by omega) ?_
      rw [(ar_under _).2]
      refine V.iinc (pc := 120) d_Mo_copyThing_120 rfl ⟨by omega, by omega⟩ (Nat.le_of_ble_eq_true rfl) rfl ?_
      dsimp only [put]
      refine V.goto (tgt := 26) (pc := 123) d_Mo_copyThing_123 (by decide) ?_
      refine ih (k + 1) _ _ (by omega) (by omega) (fun j => ?_)
      simp only [show (40 * tt + kk).toNat = 40 * t + k by omega, show (40 * 10 + kk).toNat = 400 + k by omega]
      by_cases j9 : j = 9
      · subst j9; simp only [sset_e, sset_n (show (9 : Nat) ≠ 8 by decide), sset_n (show (9 : Nat) ≠ 7 by decide), sset_n (show (9 : Nat) ≠ 6 by decide), hτ 9]; exact blk_succ _ ht (by omega)
      rw [sset_n j9]
      by_cases j8 : j = 8
      · subst j8; simp only [sset_e, sset_n (show (8 : Nat) ≠ 7 by decide), sset_n (show (8 : Nat) ≠ 6 by decide), hτ 8]; exact blk_succ _ ht (by omega)
      rw [sset_n j8]
      by_cases j7 : j = 7
      · subst j7; simp only [sset_e, sset_n (show (7 : Nat) ≠ 6 by decide), hτ 7]; exact blk_succ _ ht (by omega)
      rw [sset_n j7]
      by_cases j6 : j = 6
      · subst j6; simp only [sset_e, hτ 6]; exact blk_succ _ ht (by omega)
      rw [sset_n j6, hτ j, if_neg (by omega), if_neg (by omega)]
set_option maxRecDepth 20000 in
theorem ct_Mo_copyThing (σ : SM) (t : Nat) (ht : t < 10) (sz : Nat) : Ct M_Mo_copyThing 0 0 0 [vR 8, vI t, vI 10] (hM σ) sz (QC σ t sz) := by
  refine Ct.of rfl (Nat.le_of_ble_eq_true rfl) ?_
  dsimp only [lsOf]
  refine V.aload_n (pc := 0) 0 d_Mo_copyThing_0 rfl rfl ?_
  refine V.getf (pc := 1) 4 cl_Mo fl_Mo_22_Mo d_Mo_copyThing_1 (hM_o _) (Nat.le_of_ble_eq_true rfl) rfl ?_
  refine V.iload_n (pc := 4) 1 d_Mo_copyThing_4 rfl rfl ?_
  refine V.aload_n (pc := 5) 0 d_Mo_copyThing_5 rfl rfl ?_
  refine V.getf (pc := 6) 4 cl_Mo fl_Mo_22_Mo d_Mo_copyThing_6 (hM_o _) (Nat.le_of_ble_eq_true rfl) rfl ?_
  refine V.iload_n (pc := 9) 2 d_Mo_copyThing_9 rfl rfl ?_
  refine V.iald (pc := 10) d_Mo_copyThing_10 (ar_kinds _).1 (by omega) (by omega) ?_
  try simp (disch := omega) only [sset_n, sset_e]
  refine V.iast (pc := 11) d_Mo_copyThing_11 (ar_kinds _).1 (by omega) (by omega) ?_
  rw [(ar_kinds _).2]
  refine V.aload_n (pc := 12) 0 d_Mo_copyThing_12 rfl rfl ?_
  refine V.getf (pc := 13) 5 cl_Mo fl_Mo_25_Mo d_Mo_copyThing_13 (hM_o _) (Nat.le_of_ble_eq_true rfl) rfl ?_
  refine V.iload_n (pc := 16) 1 d_Mo_copyThing_16 rfl rfl ?_
  refine V.aload_n (pc := 17) 0 d_Mo_copyThing_17 rfl rfl ?_
  refine V.getf (pc := 18) 5 cl_Mo fl_Mo_25_Mo d_Mo_copyThing_18 (hM_o _) (Nat.le_of_ble_eq_true rfl) rfl ?_
  refine V.iload_n (pc := 21) 2 d_Mo_copyThing_21 rfl rfl ?_
  refine V.iald (pc := 22) d_Mo_copyThing_22 (ar_many _).1 (by omega) (by omega) ?_
  try simp (disch := omega) only [sset_n, sset_e]
  refine V.iast (pc := 23) d_Mo_copyThing_23 (ar_many _).1 (by omega) (by omega) ?_
  rw [(ar_many _).2]
  refine V.iconst (pc := 24) d_Mo_copyThing_24 ⟨by decide, by decide⟩ ?_
  refine V.istore_n (pc := 25) 3 d_Mo_copyThing_25 rfl (Nat.le_of_ble_eq_true rfl) rfl ?_
  dsimp only [put]
  refine lp_Mo_copyThing (sset (sset σ 4 (upf (σ 4) t (σ 4 10))) 5 (upf (σ 5) t (σ 5 10))) t ht t rfl sz _ ?_ 40 0 0 _ rfl rfl (fun j => ?_)
  · intro τ hτ
    refine ⟨rfl, rfl, τ, rfl, fun j => ?_⟩
    rw [hτ j]
    by_cases j4 : j = 4
    · subst j4; rfl
    · by_cases j5 : j = 5
      · subst j5; rfl
      · simp only [if_neg j4, if_neg j5]
        by_cases j6 : 6 ≤ j ∧ j ≤ 9
        · rw [if_pos j6, if_pos j6, sset_n j5, sset_n j4]
        · rw [if_neg j6, if_neg j6, sset_n j5, sset_n j4]
  · split
    · rw [blk_0]; rfl
    · rfl
set_option maxRecDepth 20000 in
theorem lp_Mo_rowKind (σ τ : SM) (a : Nat → Int) (N : Nat) (ha : a = fun q => σ 6 (400 + q)) (h6 : τ 6 = σ 6) (hN : N ≤ 20) (hsg : ∀ q, q < 2 * N → a q = 1 ∨ a q = -1) (sz : Nat) (Q : QT) (hQ : Q (some (vI (if peaks a N then 4 else if nest a N then 3 else 2))) (hM τ) sz) : ∀ (m p : Nat) (pk ns pp : Int), p + m = 2 * N → pp = p → (pk = 0 ∨ pk = 1) → (ns = 0 ∨ ns = 1) → (pk = 1 ↔ ∀ q, q < p → (0 < a q ↔ q % 2 = 0)) → (ns = 1 ↔ ∀ q, q < p → (0 < a q ↔ q < N)) →
    V M_Mo_rowKind 1 39 [some (vR 8), some (vI 400), some (vI N), some (vI pk), some (vI ns), some (vI pp)] [] (hM τ) sz 0 0 Q := by
  intro m
  induction m with
  | zero =>
    intro p pk ns pp hm hpp h01 h02 hpk hns
    refine V.iload (pc := 39) d_Mo_rowKind_39 rfl ?_
    refine V.iconst (pc := 41) d_Mo_rowKind_41 ⟨by decide, by decide⟩ ?_
    refine V.iload_n (pc := 42) 2 d_Mo_rowKind_42 rfl rfl ?_
    refine V.imul (pc := 43) d_Mo_rowKind_43 ⟨by omega, by omega⟩ ?_
    refine V.icmp_ge (tgt := 122) (pc := 44) d_Mo_rowKind_44 (by decide) (fun c_44 => ?_) (fun c_44 => ?_)
    · skip
      refine V.iload_n (pc := 122) 3 d_Mo_rowKind_122 rfl rfl ?_
      refine V.if_eq (tgt := 130) (pc := 123) d_Mo_rowKind_123 (by decide) (fun c_123 => ?_) (fun c_123 => ?_)
      · skip
        refine V.iload (pc := 130) d_Mo_rowKind_130 rfl ?_
        refine V.if_eq (tgt := 139) (pc := 132) d_Mo_rowKind_132 (by decide) (fun c_132 => ?_) (fun c_132 => ?_)
        · skip
          refine V.iconst (pc := 139) d_Mo_rowKind_139 ⟨by decide, by decide⟩ ?_
          refine V.ret (pc := 140) (r := some (vI _)) d_Mo_rowKind_140 (Or.inl rfl) rfl ?_
          have hp2 : p = 2 * N := by omega
          subst hp2
          first
            | (rw [if_pos (hpk.mp (by omega))] at hQ; exact hQ)
            | (rw [if_neg (fun z => by have := hpk.mpr z; omega), if_pos (hns.mp (by omega))] at hQ; exact hQ)
            | (rw [if_neg (fun z => by have := hpk.mpr z; omega), if_neg (fun z => by have := hns.mpr z; omega)] at hQ; exact hQ)
        · skip
          refine V.iconst (pc := 135) d_Mo_rowKind_135 ⟨by decide, by decide⟩ ?_
          refine V.goto (tgt := 140) (pc := 136) d_Mo_rowKind_136 (by decide) ?_
          refine V.ret (pc := 140) (r := some (vI _)) d_Mo_rowKind_140 (Or.inl rfl) rfl ?_
          have hp2 : p = 2 * N := by omega
          subst hp2
          first
            | (rw [if_pos (hpk.mp (by omega))] at hQ; exact hQ)
            | (rw [if_neg (fun z => by have := hpk.mpr z; omega), if_pos (hns.mp (by omega))] at hQ; exact hQ)
            | (rw [if_neg (fun z => by have := hpk.mpr z; omega), if_neg (fun z => by have := hns.mpr z; omega)] at hQ; exact hQ)
      · skip
        refine V.iconst (pc := 126) d_Mo_rowKind_126 ⟨by decide, by decide⟩ ?_
        refine V.goto (tgt := 140) (pc := 127) d_Mo_rowKind_127 (by decide) ?_
        refine V.ret (pc := 140) (r := some (vI _)) d_Mo_rowKind_140 (Or.inl rfl) rfl ?_
        have hp2 : p = 2 * N := by omega
        subst hp2
        first
          | (rw [if_pos (hpk.mp (by omega))] at hQ; exact hQ)
          | (rw [if_neg (fun z => by have := hpk.mpr z; omega), if_pos (hns.mp (by omega))] at hQ; exact hQ)
          | (rw [if_neg (fun z => by have := hpk.mpr z; omega), if_neg (fun z => by have := hns.mpr z; omega)] at hQ; exact hQ)
    · skip
      exfalso; omega
  | succ m ih =>
    intro p pk ns pp hm hpp h01 h02 hpk hns
    have hap := hsg p (by omega)
    refine V.iload (pc := 39) d_Mo_rowKind_39 rfl ?_
    refine V.iconst (pc := 41) d_Mo_rowKind_41 ⟨by decide, by decide⟩ ?_
    refine V.iload_n (pc := 42) 2 d_Mo_rowKind_42 rfl rfl ?_
    refine V.imul (pc := 43) d_Mo_rowKind_43 ⟨by omega, by omega⟩ ?_
    refine V.icmp_ge (tgt := 122) (pc := 44) d_Mo_rowKind_44 (by decide) (fun c_44 => ?_) (fun c_44 => ?_)
    · skip
      exfalso; omega
    · skip
      refine V.iload_n (pc := 47) 3 d_Mo_rowKind_47 rfl rfl ?_
      refine V.if_eq (tgt := 79) (pc := 48) d_Mo_rowKind_48 (by decide) (fun c_48 => ?_) (fun c_48 => ?_)
      · skip
        refine V.iconst (pc := 79) d_Mo_rowKind_79 ⟨by decide, by decide⟩ ?_
        refine V.istore_n (pc := 80) 3 d_Mo_rowKind_80 rfl (Nat.le_of_ble_eq_true rfl) rfl ?_
        dsimp only [put]
        refine V.iload (pc := 81) d_Mo_rowKind_81 rfl ?_
        refine V.if_eq (tgt := 113) (pc := 83) d_Mo_rowKind_83 (by decide) (fun c_83 => ?_) (fun c_83 => ?_)
        · skip
          refine V.iconst (pc := 113) d_Mo_rowKind_113 ⟨by decide, by decide⟩ ?_
          refine V.istore (pc := 114) d_Mo_rowKind_114 (Nat.le_of_ble_eq_true rfl) rfl ?_
          dsimp only [put]
          refine V.iinc (pc := 116) d_Mo_rowKind_116 rfl ⟨by omega, by omega⟩ (Nat.le_of_ble_eq_true rfl) rfl ?_
          dsimp only [put]
          refine V.goto (tgt := 39) (pc := 119) d_Mo_rowKind_119 (by decide) ?_
          refine ih (p + 1) _ _ _ (by omega) (by omega) (by omega) (by omega) ?_ ?_
          · first | exact al_1 hpk (by omega) (by omega) | exact al_0 hpk (Or.inl (by omega)) | exact al_0 hpk (Or.inr (by omega))
          · first | exact al_1 hns (by omega) (by omega) | exact al_0 hns (Or.inl (by omega)) | exact al_0 hns (Or.inr (by omega))
        · skip
          refine V.aload_n (pc := 86) 0 d_Mo_rowKind_86 rfl rfl ?_
          refine V.getf (pc := 87) 6 cl_Mo fl_Mo_28_Mo d_Mo_rowKind_87 (hM_o _) (Nat.le_of_ble_eq_true rfl) rfl ?_
          refine V.iload_n (pc := 90) 1 d_Mo_rowKind_90 rfl rfl ?_
          refine V.iload (pc := 91) d_Mo_rowKind_91 rfl ?_
          refine V.iadd (pc := 93) d_Mo_rowKind_93 ⟨by omega, by omega⟩ ?_
          refine V.iald (pc := 94) d_Mo_rowKind_94 (ar_one _).1 (by omega) (by omega) ?_
          try simp (disch := omega) only [sset_n, sset_e]
          rw [h6, show ((400 : Int) + pp).toNat = 400 + p by omega, show σ 6 (400 + p) = a p by rw [ha]]
          refine V.iload (pc := 95) d_Mo_rowKind_95 rfl ?_
          refine V.iload_n (pc := 97) 2 d_Mo_rowKind_97 rfl rfl ?_
          refine V.icmp_ge (tgt := 105) (pc := 98) d_Mo_rowKind_98 (by decide) (fun c_98 => ?_) (fun c_98 => ?_)
          · skip
            refine V.iconst (pc := 105) d_Mo_rowKind_105 ⟨by decide, by decide⟩ ?_
            refine V.icmp_ne (tgt := 113) (pc := 106) d_Mo_rowKind_106 (by decide) (fun c_106 => ?_) (fun c_106 => ?_)
            · skip
              refine V.iconst (pc := 113) d_Mo_rowKind_113 ⟨by decide, by decide⟩ ?_
              refine V.istore (pc := 114) d_Mo_rowKind_114 (Nat.le_of_ble_eq_true rfl) rfl ?_
              dsimp only [put]
              refine V.iinc (pc := 116) d_Mo_rowKind_116 rfl ⟨by omega, by omega⟩ (Nat.le_of_ble_eq_true rfl) rfl ?_
              dsimp only [put]
              refine V.goto (tgt := 39) (pc := 119) d_Mo_rowKind_119 (by decide) ?_
              refine ih (p + 1) _ _ _ (by omega) (by omega) (by omega) (by omega) ?_ ?_
              · first | exact al_1 hpk (by omega) (by omega) | exact al_0 hpk (Or.inl (by omega)) | exact al_0 hpk (Or.inr (by omega))
              · first | exact al_1 hns (by omega) (by omega) | exact al_0 hns (Or.inl (by omega)) | exact al_0 hns (Or.inr (by omega))
            · skip
              refine V.iconst (pc := 109) d_Mo_rowKind_109 ⟨by decide, by decide⟩ ?_
              refine V.goto (tgt := 114) (pc := 110) d_Mo_rowKind_110 (by decide) ?_
              refine V.istore (pc := 114) d_Mo_rowKind_114 (Nat.le_of_ble_eq_true rfl) rfl ?_
              dsimp only [put]
              refine V.iinc (pc := 116) d_Mo_rowKind_116 rfl ⟨by omega, by omega⟩ (Nat.le_of_ble_eq_true rfl) rfl ?_
              dsimp only [put]
              refine V.goto (tgt := 39) (pc := 119) d_Mo_rowKind_119 (by decide) ?_
              refine ih (p + 1) _ _ _ (by omega) (by omega) (by omega) (by omega) ?_ ?_
              · first | exact al_1 hpk (by omega) (by omega) | exact al_0 hpk (Or.inl (by omega)) | exact al_0 hpk (Or.inr (by omega))
              · first | exact al_1 hns (by omega) (by omega) | exact al_0 hns (Or.inl (by omega)) | exact al_0 hns (Or.inr (by omega))
          · skip
            refine V.iconst (pc := 101) d_Mo_rowKind_101 ⟨by decide, by decide⟩ ?_
            refine V.goto (tgt := 106) (pc := 102) d_Mo_rowKind_102 (by decide) ?_
            refine V.icmp_ne (tgt := 113) (pc := 106) d_Mo_rowKind_106 (by decide) (fun c_106 => ?_) (fun c_106 => ?_)
            · skip
              refine V.iconst (pc := 113) d_Mo_rowKind_113 ⟨by decide, by decide⟩ ?_
              refine V.istore (pc := 114) d_Mo_rowKind_114 (Nat.le_of_ble_eq_true rfl) rfl ?_
              dsimp only [put]
              refine V.iinc (pc := 116) d_Mo_rowKind_116 rfl ⟨by omega, by omega⟩ (Nat.le_of_ble_eq_true rfl) rfl ?_
              dsimp only [put]
              refine V.goto (tgt := 39) (pc := 119) d_Mo_rowKind_119 (by decide) ?_
              refine ih (p + 1) _ _ _ (by omega) (by omega) (by omega) (by omega) ?_ ?_
              · first | exact al_1 hpk (by omega) (by omega) | exact al_0 hpk (Or.inl (by omega)) | exact al_0 hpk (Or.inr (by omega))
              · first | exact al_1 hns (by omega) (by omega) | exact al_0 hns (Or.inl (by omega)) | exact al_0 hns (Or.inr (by omega))
            · skip
              refine V.iconst (pc := 109) d_Mo_rowKind_109 ⟨by decide, by decide⟩ ?_
              refine V.goto (tgt := 114) (pc := 110) d_Mo_rowKind_110 (by decide) ?_
              refine V.istore (pc := 114) d_Mo_rowKind_114 (Nat.le_of_ble_eq_true rfl) rfl ?_
              dsimp only [put]
              refine V.iinc (pc := 116) d_Mo_rowKind_116 rfl ⟨by omega, by omega⟩ (Nat.le_of_ble_eq_true rfl) rfl ?_
              dsimp only [put]
              refine V.goto (tgt := 39) (pc := 119) d_Mo_rowKind_119 (by decide) ?_
              refine ih (p + 1) _ _ _ (by omega) (by omega) (by omega) (by omega) ?_ ?_
              · first | exact al_1 hpk (by omega) (by omega) | exact al_0 hpk (Or.inl (by omega)) | exact al_0 hpk (Or.inr (by omega))
              · first | exact al_1 hns (by omega) (by omega) | exact al_0 hns (Or.inl (by omega)) | exact al_0 hns (Or.inr (by omega))
      · skip
        refine V.aload_n (pc := 51) 0 d_Mo_rowKind_51 rfl rfl ?_
        refine V.getf (pc := 52) 6 cl_Mo fl_Mo_28_Mo d_Mo_rowKind_52 (hM_o _) (Nat.le_of_ble_eq_true rfl) rfl ?_
        refine V.iload_n (pc := 55) 1 d_Mo_rowKind_55 rfl rfl ?_
        refine V.iload (pc := 56) d_Mo_rowKind_56 rfl ?_
        refine V.iadd (pc := 58) d_Mo_rowKind_58 ⟨by omega, by omega⟩ ?_
        refine V.iald (pc := 59) d_Mo_rowKind_59 (ar_one _).1 (by omega) (by omega) ?_
        try simp (disch := omega) only [sset_n, sset_e]
        rw [h6, show ((400 : Int) + pp).toNat = 400 + p by omega, show σ 6 (400 + p) = a p by rw [ha]]
        refine V.iload (pc := 60) d_Mo_rowKind_60 rfl ?_
        refine V.iconst (pc := 62) d_Mo_rowKind_62 ⟨by decide, by decide⟩ ?_
        refine V.irem (pc := 63) d_Mo_rowKind_63 (by omega) (by omega) ?_
        refine V.if_ne (tgt := 71) (pc := 64) d_Mo_rowKind_64 (by decide) (fun c_64 => ?_) (fun c_64 => ?_)
        · skip
          refine V.iconst (pc := 71) d_Mo_rowKind_71 ⟨by decide, by decide⟩ ?_
          refine V.icmp_ne (tgt := 79) (pc := 72) d_Mo_rowKind_72 (by decide) (fun c_72 => ?_) (fun c_72 => ?_)
          · skip
            refine V.iconst (pc := 79) d_Mo_rowKind_79 ⟨by decide, by decide⟩ ?_
            refine V.istore_n (pc := 80) 3 d_Mo_rowKind_80 rfl (Nat.le_of_ble_eq_true rfl) rfl ?_
            dsimp only [put]
            refine V.iload (pc := 81) d_Mo_rowKind_81 rfl ?_
            refine V.if_eq (tgt := 113) (pc := 83) d_Mo_rowKind_83 (by decide) (fun c_83 => ?_) (fun c_83 => ?_)
            · skip
              refine V.iconst (pc := 113) d_Mo_rowKind_113 ⟨by decide, by decide⟩ ?_
              refine V.istore (pc := 114) d_Mo_rowKind_114 (Nat.le_of_ble_eq_true rfl) rfl ?_
              dsimp only [put]
              refine V.iinc (pc := 116) d_Mo_rowKind_116 rfl ⟨by omega, by omega⟩ (Nat.le_of_ble_eq_true rfl) rfl ?_
              dsimp only [put]
              refine V.goto (tgt := 39) (pc := 119) d_Mo_rowKind_119 (by decide) ?_
              refine ih (p + 1) _ _ _ (by omega) (by omega) (by omega) (by omega) ?_ ?_
              · first | exact al_1 hpk (by omega) (by omega) | exact al_0 hpk (Or.inl (by omega)) | exact al_0 hpk (Or.inr (by omega))
              · first | exact al_1 hns (by omega) (by omega) | exact al_0 hns (Or.inl (by omega)) | exact al_0 hns (Or.inr (by omega))
            · skip
              refine V.aload_n (pc := 86) 0 d_Mo_rowKind_86 rfl rfl ?_
              refine V.getf (pc := 87) 6 cl_Mo fl_Mo_28_Mo d_Mo_rowKind_87 (hM_o _) (Nat.le_of_ble_eq_true rfl) rfl ?_
              refine V.iload_n (pc := 90) 1 d_Mo_rowKind_90 rfl rfl ?_
              refine V.iload (pc := 91) d_Mo_rowKind_91 rfl ?_
              refine V.iadd (pc := 93) d_Mo_rowKind_93 ⟨by omega, by omega⟩ ?_
              refine V.iald (pc := 94) d_Mo_rowKind_94 (ar_one _).1 (by omega) (by omega) ?_
              try simp (disch := omega) only [sset_n, sset_e]
              rw [h6, show ((400 : Int) + pp).toNat = 400 + p by omega, show σ 6 (400 + p) = a p by rw [ha]]
              refine V.iload (pc := 95) d_Mo_rowKind_95 rfl ?_
              refine V.iload_n (pc := 97) 2 d_Mo_rowKind_97 rfl rfl ?_
              refine V.icmp_ge (tgt := 105) (pc := 98) d_Mo_rowKind_98 (by decide) (fun c_98 => ?_) (fun c_98 => ?_)
              · skip
                refine V.iconst (pc := 105) d_Mo_rowKind_105 ⟨by decide, by decide⟩ ?_
                refine V.icmp_ne (tgt := 113) (pc := 106) d_Mo_rowKind_106 (by decide) (fun c_106 => ?_) (fun c_106 => ?_)
                · skip
                  refine V.iconst (pc := 113) d_Mo_rowKind_113 ⟨by decide, by decide⟩ ?_
                  refine V.istore (pc := 114) d_Mo_rowKind_114 (Nat.le_of_ble_eq_true rfl) rfl ?_
                  dsimp only [put]
                  refine V.iinc (pc := 116) d_Mo_rowKind_116 rfl ⟨by omega, by omega⟩ (Nat.le_of_ble_eq_true rfl) rfl ?_
                  dsimp only [put]
                  refine V.goto (tgt := 39) (pc := 119) d_Mo_rowKind_119 (by decide) ?_
                  refine ih (p + 1) _ _ _ (by omega) (by omega) (by omega) (by omega) ?_ ?_
                  · first | exact al_1 hpk (by omega) (by omega) | exact al_0 hpk (Or.inl (by omega)) | exact al_0 hpk (Or.inr (by omega))
                  · first | exact al_1 hns (by omega) (by omega) | exact al_0 hns (Or.inl (by omega)) | exact al_0 hns (Or.inr (by omega))
                · skip
                  refine V.iconst (pc := 109) d_Mo_rowKind_109 ⟨by decide, by decide⟩ ?_
                  refine V.goto (tgt := 114) (pc := 110) d_Mo_rowKind_110 (by decide) ?_
                  refine V.istore (pc := 114) d_Mo_rowKind_114 (Nat.le_of_ble_eq_true rfl) rfl ?_
                  dsimp only [put]
                  refine V.iinc (pc := 116) d_Mo_rowKind_116 rfl ⟨by omega, by omega⟩ (Nat.le_of_ble_eq_true rfl) rfl ?_
                  dsimp only [put]
                  refine V.goto (tgt := 39) (pc := 119) d_Mo_rowKind_119 (by decide) ?_
                  refine ih (p + 1) _ _ _ (by omega) (by omega) (by omega) (by omega) ?_ ?_
                  · first | exact al_1 hpk (by omega) (by omega) | exact al_0 hpk (Or.inl (by omega)) | exact al_0 hpk (Or.inr (by omega))
                  · first | exact al_1 hns (by omega) (by omega) | exact al_0 hns (Or.inl (by omega)) | exact al_0 hns (Or.inr (by omega))
              · skip
                refine V.iconst (pc := 101) d_Mo_rowKind_101 ⟨by decide, by decide⟩ ?_
                refine V.goto (tgt := 106) (pc := 102) d_Mo_rowKind_102 (by decide) ?_
                refine V.icmp_ne (tgt := 113) (pc := 106) d_Mo_rowKind_106 (by decide) (fun c_106 => ?_) (fun c_106 => ?_)
                · skip
                  refine V.iconst (pc := 113) d_Mo_rowKind_113 ⟨by decide, by decide⟩ ?_
                  refine V.istore (pc := 114) d_Mo_rowKind_114 (Nat.le_of_ble_eq_true rfl) rfl ?_
                  dsimp only [put]
                  refine V.iinc (pc := 116) d_Mo_rowKind_116 rfl ⟨by omega, by omega⟩ (Nat.le_of_ble_eq_true rfl) rfl ?_
                  dsimp only [put]
                  refine V.goto (tgt := 39) (pc := 119) d_Mo_rowKind_119 (by decide) ?_
                  refine ih (p + 1) _ _ _ (by omega) (by omega) (by omega) (by omega) ?_ ?_
                  · first | exact al_1 hpk (by omega) (by omega) | exact al_0 hpk (Or.inl (by omega)) | exact al_0 hpk (Or.inr (by omega))
                  · first | exact al_1 hns (by omega) (by omega) | exact al_0 hns (Or.inl (by omega)) | exact al_0 hns (Or.inr (by omega))
                · skip
                  refine V.iconst (pc := 109) d_Mo_rowKind_109 ⟨by decide, by decide⟩ ?_
                  refine V.goto (tgt := 114) (pc := 110) d_Mo_rowKind_110 (by decide) ?_
                  refine V.istore (pc := 114) d_Mo_rowKind_114 (Nat.le_of_ble_eq_true rfl) rfl ?_
                  dsimp only [put]
                  refine V.iinc (pc := 116) d_Mo_rowKind_116 rfl ⟨by omega, by omega⟩ (Nat.le_of_ble_eq_true rfl) rfl ?_
                  dsimp only [put]
                  refine V.goto (tgt := 39) (pc := 119) d_Mo_rowKind_119 (by decide) ?_
                  refine ih (p + 1) _ _ _ (by omega) (by omega) (by omega) (by omega) ?_ ?_
                  · first | exact al_1 hpk (by omega) (by omega) | exact al_0 hpk (Or.inl (by omega)) | exact al_0 hpk (Or.inr (by omega))
                  · first | exact al_1 hns (by omega) (by omega) | exact al_0 hns (Or.inl (by omega)) | exact al_0 hns (Or.inr (by omega))
          · skip
            refine V.iconst (pc := 75) d_Mo_rowKind_75 ⟨by decide, by decide⟩ ?_
            refine V.goto (tgt := 80) (pc := 76) d_Mo_rowKind_76 (by decide) ?_
            refine V.istore_n (pc := 80) 3 d_Mo_rowKind_80 rfl (Nat.le_of_ble_eq_true rfl) rfl ?_
            dsimp only [put]
            refine V.iload (pc := 81) d_Mo_rowKind_81 rfl ?_
            refine V.if_eq (tgt := 113) (pc := 83) d_Mo_rowKind_83 (by decide) (fun c_83 => ?_) (fun c_83 => ?_)
            · skip
              refine V.iconst (pc := 113) d_Mo_rowKind_113 ⟨by decide, by decide⟩ ?_
              refine V.istore (pc := 114) d_Mo_rowKind_114 (Nat.le_of_ble_eq_true rfl) rfl ?_
              dsimp only [put]
              refine V.iinc (pc := 116) d_Mo_rowKind_116 rfl ⟨by omega, by omega⟩ (Nat.le_of_ble_eq_true rfl) rfl ?_
              dsimp only [put]
              refine V.goto (tgt := 39) (pc := 119) d_Mo_rowKind_119 (by decide) ?_
              refine ih (p + 1) _ _ _ (by omega) (by omega) (by omega) (by omega) ?_ ?_
              · first | exact al_1 hpk (by omega) (by omega) | exact al_0 hpk (Or.inl (by omega)) | exact al_0 hpk (Or.inr (by omega))
              · first | exact al_1 hns (by omega) (by omega) | exact al_0 hns (Or.inl (by omega)) | exact al_0 hns (Or.inr (by omega))
            · skip
              refine V.aload_n (pc := 86) 0 d_Mo_rowKind_86 rfl rfl ?_
              refine V.getf (pc := 87) 6 cl_Mo fl_Mo_28_Mo d_Mo_rowKind_87 (hM_o _) (Nat.le_of_ble_eq_true rfl) rfl ?_
              refine V.iload_n (pc := 90) 1 d_Mo_rowKind_90 rfl rfl ?_
              refine V.iload (pc := 91) d_Mo_rowKind_91 rfl ?_
              refine V.iadd (pc := 93) d_Mo_rowKind_93 ⟨by omega, by omega⟩ ?_
              refine V.iald (pc := 94) d_Mo_rowKind_94 (ar_one _).1 (by omega) (by omega) ?_
              try simp (disch := omega) only [sset_n, sset_e]
              rw [h6, show ((400 : Int) + pp).toNat = 400 + p by omega, show σ 6 (400 + p) = a p by rw [ha]]
              refine V.iload (pc := 95) d_Mo_rowKind_95 rfl ?_
              refine V.iload_n (pc := 97) 2 d_Mo_rowKind_97 rfl rfl ?_
              refine V.icmp_ge (tgt := 105) (pc := 98) d_Mo_rowKind_98 (by decide) (fun c_98 => ?_) (fun c_98 => ?_)
              · skip
                refine V.iconst (pc := 105) d_Mo_rowKind_105 ⟨by decide, by decide⟩ ?_
                refine V.icmp_ne (tgt := 113) (pc := 106) d_Mo_rowKind_106 (by decide) (fun c_106 => ?_) (fun c_106 => ?_)
                · skip
                  refine V.iconst (pc := 113) d_Mo_rowKind_113 ⟨by decide, by decide⟩ ?_
                  refine V.istore (pc := 114) d_Mo_rowKind_114 (Nat.le_of_ble_eq_true rfl) rfl ?_
                  dsimp only [put]
                  refine V.iinc (pc := 116) d_Mo_rowKind_116 rfl ⟨by omega, by omega⟩ (Nat.le_of_ble_eq_true rfl) rfl ?_
                  dsimp only [put]
                  refine V.goto (tgt := 39) (pc := 119) d_Mo_rowKind_119 (by decide) ?_
                  refine ih (p + 1) _ _ _ (by omega) (by omega) (by omega) (by omega) ?_ ?_
                  · first | exact al_1 hpk (by omega) (by omega) | exact al_0 hpk (Or.inl (by omega)) | exact al_0 hpk (Or.inr (by omega))
                  · first | exact al_1 hns (by omega) (by omega) | exact al_0 hns (Or.inl (by omega)) | exact al_0 hns (Or.inr (by omega))
                · skip
                  refine V.iconst (pc := 109) d_Mo_rowKind_109 ⟨by decide, by decide⟩ ?_
                  refine V.goto (tgt := 114) (pc := 110) d_Mo_rowKind_110 (by decide) ?_
                  refine V.istore (pc := 114) d_Mo_rowKind_114 (Nat.le_of_ble_eq_true rfl) rfl ?_
                  dsimp only [put]
                  refine V.iinc (pc := 116) d_Mo_rowKind_116 rfl ⟨by omega, by omega⟩ (Nat.le_of_ble_eq_true rfl) rfl ?_
                  dsimp only [put]
                  refine V.goto (tgt := 39) (pc := 119) d_Mo_rowKind_119 (by decide) ?_
                  refine ih (p + 1) _ _ _ (by omega) (by omega) (by omega) (by omega) ?_ ?_
                  · first | exact al_1 hpk (by omega) (by omega) | exact al_0 hpk (Or.inl (by omega)) | exact al_0 hpk (Or.inr (by omega))
                  · first | exact al_1 hns (by omega) (by omega) | exact al_0 hns (Or.inl (by omega)) | exact al_0 hns (Or.inr (by omega))
              · skip
                refine V.iconst (pc := 101) d_Mo_rowKind_101 ⟨by decide, by decide⟩ ?_
                refine V.goto (tgt := 106) (pc := 102) d_Mo_rowKind_102 (by decide) ?_
                refine V.icmp_ne (tgt := 113) (pc := 106) d_Mo_rowKind_106 (by decide) (fun c_106 => ?_) (fun c_106 => ?_)
                · skip
                  refine V.iconst (pc := 113) d_Mo_rowKind_113 ⟨by decide, by decide⟩ ?_
                  refine V.istore (pc := 114) d_Mo_rowKind_114 (Nat.le_of_ble_eq_true rfl) rfl ?_
                  dsimp only [put]
                  refine V.iinc (pc := 116) d_Mo_rowKind_116 rfl ⟨by omega, by omega⟩ (Nat.le_of_ble_eq_true rfl) rfl ?_
                  dsimp only [put]
                  refine V.goto (tgt := 39) (pc := 119) d_Mo_rowKind_119 (by decide) ?_
                  refine ih (p + 1) _ _ _ (by omega) (by omega) (by omega) (by omega) ?_ ?_
                  · first | exact al_1 hpk (by omega) (by omega) | exact al_0 hpk (Or.inl (by omega)) | exact al_0 hpk (Or.inr (by omega))
                  · first | exact al_1 hns (by omega) (by omega) | exact al_0 hns (Or.inl (by omega)) | exact al_0 hns (Or.inr (by omega))
                · skip
                  refine V.iconst (pc := 109) d_Mo_rowKind_109 ⟨by decide, by decide⟩ ?_
                  refine V.goto (tgt := 114) (pc := 110) d_Mo_rowKind_110 (by decide) ?_
                  refine V.istore (pc := 114) d_Mo_rowKind_114 (Nat.le_of_ble_eq_true rfl) rfl ?_
                  dsimp only [put]
                  refine V.iinc (pc := 116) d_Mo_rowKind_116 rfl ⟨by omega, by omega⟩ (Nat.le_of_ble_eq_true rfl) rfl ?_
                  dsimp only [put]
                  refine V.goto (tgt := 39) (pc := 119) d_Mo_rowKind_119 (by decide) ?_
                  refine ih (p + 1) _ _ _ (by omega) (by omega) (by omega) (by omega) ?_ ?_
                  · first | exact al_1 hpk (by omega) (by omega) | exact al_0 hpk (Or.inl (by omega)) | exact al_0 hpk (Or.inr (by omega))
                  · first | exact al_1 hns (by omega) (by omega) | exact al_0 hns (Or.inl (by omega)) | exact al_0 hns (Or.inr (by omega))
        · skip
          refine V.iconst (pc := 67) d_Mo_rowKind_67 ⟨by decide, by decide⟩ ?_
          refine V.goto (tgt := 72) (pc := 68) d_Mo_rowKind_68 (by decide) ?_
          refine V.icmp_ne (tgt := 79) (pc := 72) d_Mo_rowKind_72 (by decide) (fun c_72 => ?_) (fun c_72 => ?_)
          · skip
            refine V.iconst (pc := 79) d_Mo_rowKind_79 ⟨by decide, by decide⟩ ?_
            refine V.istore_n (pc := 80) 3 d_Mo_rowKind_80 rfl (Nat.le_of_ble_eq_true rfl) rfl ?_
            dsimp only [put]
            refine V.iload (pc := 81) d_Mo_rowKind_81 rfl ?_
            refine V.if_eq (tgt := 113) (pc := 83) d_Mo_rowKind_83 (by decide) (fun c_83 => ?_) (fun c_83 => ?_)
            · skip
              refine V.iconst (pc := 113) d_Mo_rowKind_113 ⟨by decide, by decide⟩ ?_
              refine V.istore (pc := 114) d_Mo_rowKind_114 (Nat.le_of_ble_eq_true rfl) rfl ?_
              dsimp only [put]
              refine V.iinc (pc := 116) d_Mo_rowKind_116 rfl ⟨by omega, by omega⟩ (Nat.le_of_ble_eq_true rfl) rfl ?_
              dsimp only [put]
              refine V.goto (tgt := 39) (pc := 119) d_Mo_rowKind_119 (by decide) ?_
              refine ih (p + 1) _ _ _ (by omega) (by omega) (by omega) (by omega) ?_ ?_
              · first | exact al_1 hpk (by omega) (by omega) | exact al_0 hpk (Or.inl (by omega)) | exact al_0 hpk (Or.inr (by omega))
              · first | exact al_1 hns (by omega) (by omega) | exact al_0 hns (Or.inl (by omega)) | exact al_0 hns (Or.inr (by omega))
            · skip
              refine V.aload_n (pc := 86) 0 d_Mo_rowKind_86 rfl rfl ?_
              refine V.getf (pc := 87) 6 cl_Mo fl_Mo_28_Mo d_Mo_rowKind_87 (hM_o _) (Nat.le_of_ble_eq_true rfl) rfl ?_
              refine V.iload_n (pc := 90) 1 d_Mo_rowKind_90 rfl rfl ?_
              refine V.iload (pc := 91) d_Mo_rowKind_91 rfl ?_
              refine V.iadd (pc := 93) d_Mo_rowKind_93 ⟨by omega, by omega⟩ ?_
              refine V.iald (pc := 94) d_Mo_rowKind_94 (ar_one _).1 (by omega) (by omega) ?_
              try simp (disch := omega) only [sset_n, sset_e]
              rw [h6, show ((400 : Int) + pp).toNat = 400 + p by omega, show σ 6 (400 + p) = a p by rw [ha]]
              refine V.iload (pc := 95) d_Mo_rowKind_95 rfl ?_
              refine V.iload_n (pc := 97) 2 d_Mo_rowKind_97 rfl rfl ?_
              refine V.icmp_ge (tgt := 105) (pc := 98) d_Mo_rowKind_98 (by decide) (fun c_98 => ?_) (fun c_98 => ?_)
              · skip
                refine V.iconst (pc := 105) d_Mo_rowKind_105 ⟨by decide, by decide⟩ ?_
                refine V.icmp_ne (tgt := 113) (pc := 106) d_Mo_rowKind_106 (by decide) (fun c_106 => ?_) (fun c_106 => ?_)
                · skip
                  refine V.iconst (pc := 113) d_Mo_rowKind_113 ⟨by decide, by decide⟩ ?_
                  refine V.istore (pc := 114) d_Mo_rowKind_114 (Nat.le_of_ble_eq_true rfl) rfl ?_
                  dsimp only [put]
                  refine V.iinc (pc := 116) d_Mo_rowKind_116 rfl ⟨by omega, by omega⟩ (Nat.le_of_ble_eq_true rfl) rfl ?_
                  dsimp only [put]
                  refine V.goto (tgt := 39) (pc := 119) d_Mo_rowKind_119 (by decide) ?_
                  refine ih (p + 1) _ _ _ (by omega) (by omega) (by omega) (by omega) ?_ ?_
                  · first | exact al_1 hpk (by omega) (by omega) | exact al_0 hpk (Or.inl (by omega)) | exact al_0 hpk (Or.inr (by omega))
                  · first | exact al_1 hns (by omega) (by omega) | exact al_0 hns (Or.inl (by omega)) | exact al_0 hns (Or.inr (by omega))
                · skip
                  refine V.iconst (pc := 109) d_Mo_rowKind_109 ⟨by decide, by decide⟩ ?_
                  refine V.goto (tgt := 114) (pc := 110) d_Mo_rowKind_110 (by decide) ?_
                  refine V.istore (pc := 114) d_Mo_rowKind_114 (Nat.le_of_ble_eq_true rfl) rfl ?_
                  dsimp only [put]
                  refine V.iinc (pc := 116) d_Mo_rowKind_116 rfl ⟨by omega, by omega⟩ (Nat.le_of_ble_eq_true rfl) rfl ?_
                  dsimp only [put]
                  refine V.goto (tgt := 39) (pc := 119) d_Mo_rowKind_119 (by decide) ?_
                  refine ih (p + 1) _ _ _ (by omega) (by omega) (by omega) (by omega) ?_ ?_
                  · first | exact al_1 hpk (by omega) (by omega) | exact al_0 hpk (Or.inl (by omega)) | exact al_0 hpk (Or.inr (by omega))
                  · first | exact al_1 hns (by omega) (by omega) | exact al_0 hns (Or.inl (by omega)) | exact al_0 hns (Or.inr (by omega))
              · skip
                refine V.iconst (pc := 101) d_Mo_rowKind_101 ⟨by decide, by decide⟩ ?_
                refine V.goto (tgt := 106) (pc := 102) d_Mo_rowKind_102 (by decide) ?_
                refine V.icmp_ne (tgt := 113) (pc := 106) d_Mo_rowKind_106 (by decide) (fun c_106 => ?_) (fun c_106 => ?_)
                · skip
                  refine V.iconst (pc := 113) d_Mo_rowKind_113 ⟨by decide, by decide⟩ ?_
                  refine V.istore (pc := 114) d_Mo_rowKind_114 (Nat.le_of_ble_eq_true rfl) rfl ?_
                  dsimp only [put]
                  refine V.iinc (pc := 116) d_Mo_rowKind_116 rfl ⟨by omega, by omega⟩ (Nat.le_of_ble_eq_true rfl) rfl ?_
                  dsimp only [put]
                  refine V.goto (tgt := 39) (pc := 119) d_Mo_rowKind_119 (by decide) ?_
                  refine ih (p + 1) _ _ _ (by omega) (by omega) (by omega) (by omega) ?_ ?_
                  · first | exact al_1 hpk (by omega) (by omega) | exact al_0 hpk (Or.inl (by omega)) | exact al_0 hpk (Or.inr (by omega))
                  · first | exact al_1 hns (by omega) (by omega) | exact al_0 hns (Or.inl (by omega)) | exact al_0 hns (Or.inr (by omega))
                · skip
                  refine V.iconst (pc := 109) d_Mo_rowKind_109 ⟨by decide, by decide⟩ ?_
                  refine V.goto (tgt := 114) (pc := 110) d_Mo_rowKind_110 (by decide) ?_
                  refine V.istore (pc := 114) d_Mo_rowKind_114 (Nat.le_of_ble_eq_true rfl) rfl ?_
                  dsimp only [put]
                  refine V.iinc (pc := 116) d_Mo_rowKind_116 rfl ⟨by omega, by omega⟩ (Nat.le_of_ble_eq_true rfl) rfl ?_
                  dsimp only [put]
                  refine V.goto (tgt := 39) (pc := 119) d_Mo_rowKind_119 (by decide) ?_
                  refine ih (p + 1) _ _ _ (by omega) (by omega) (by omega) (by omega) ?_ ?_
                  · first | exact al_1 hpk (by omega) (by omega) | exact al_0 hpk (Or.inl (by omega)) | exact al_0 hpk (Or.inr (by omega))
                  · first | exact al_1 hns (by omega) (by omega) | exact al_0 hns (Or.inl (by omega)) | exact al_0 hns (Or.inr (by omega))
          · skip
            refine V.iconst (pc := 75) d_Mo_rowKind_75 ⟨by decide, by decide⟩ ?_
            refine V.goto (tgt := 80) (pc := 76) d_Mo_rowKind_76 (by decide) ?_
            refine V.istore_n (pc := 80) 3 d_Mo_rowKind_80 rfl (Nat.le_of_ble_eq_true rfl) rfl ?_
            dsimp only [put]
            refine V.iload (pc := 81) d_Mo_rowKind_81 rfl ?_
            refine V.if_eq (tgt := 113) (pc := 83) d_Mo_rowKind_83 (by decide) (fun c_83 => ?_) (fun c_83 => ?_)
            · skip
              refine V.iconst (pc := 113) d_Mo_rowKind_113 ⟨by decide, by decide⟩ ?_
              refine V.istore (pc := 114) d_Mo_rowKind_114 (Nat.le_of_ble_eq_true rfl) rfl ?_
              dsimp only [put]
              refine V.iinc (pc := 116) d_Mo_rowKind_116 rfl ⟨by omega, by omega⟩ (Nat.le_of_ble_eq_true rfl) rfl ?_
              dsimp only [put]
              refine V.goto (tgt := 39) (pc := 119) d_Mo_rowKind_119 (by decide) ?_
              refine ih (p + 1) _ _ _ (by omega) (by omega) (by omega) (by omega) ?_ ?_
              · first | exact al_1 hpk (by omega) (by omega) | exact al_0 hpk (Or.inl (by omega)) | exact al_0 hpk (Or.inr (by omega))
              · first | exact al_1 hns (by omega) (by omega) | exact al_0 hns (Or.inl (by omega)) | exact al_0 hns (Or.inr (by omega))
            · skip
              refine V.aload_n (pc := 86) 0 d_Mo_rowKind_86 rfl rfl ?_
              refine V.getf (pc := 87) 6 cl_Mo fl_Mo_28_Mo d_Mo_rowKind_87 (hM_o _) (Nat.le_of_ble_eq_true rfl) rfl ?_
              refine V.iload_n (pc := 90) 1 d_Mo_rowKind_90 rfl rfl ?_
              refine V.iload (pc := 91) d_Mo_rowKind_91 rfl ?_
              refine V.iadd (pc := 93) d_Mo_rowKind_93 ⟨by omega, by omega⟩ ?_
              refine V.iald (pc := 94) d_Mo_rowKind_94 (ar_one _).1 (by omega) (by omega) ?_
              try simp (disch := omega) only [sset_n, sset_e]
              rw [h6, show ((400 : Int) + pp).toNat = 400 + p by omega, show σ 6 (400 + p) = a p by rw [ha]]
              refine V.iload (pc := 95) d_Mo_rowKind_95 rfl ?_
              refine V.iload_n (pc := 97) 2 d_Mo_rowKind_97 rfl rfl ?_
              refine V.icmp_ge (tgt := 105) (pc := 98) d_Mo_rowKind_98 (by decide) (fun c_98 => ?_) (fun c_98 => ?_)
              · skip
                refine V.iconst (pc := 105) d_Mo_rowKind_105 ⟨by decide, by decide⟩ ?_
                refine V.icmp_ne (tgt := 113) (pc := 106) d_Mo_rowKind_106 (by decide) (fun c_106 => ?_) (fun c_106 => ?_)
                · skip
                  refine V.iconst (pc := 113) d_Mo_rowKind_113 ⟨by decide, by decide⟩ ?_
                  refine V.istore (pc := 114) d_Mo_rowKind_114 (Nat.le_of_ble_eq_true rfl) rfl ?_
                  dsimp only [put]
                  refine V.iinc (pc := 116) d_Mo_rowKind_116 rfl ⟨by omega, by omega⟩ (Nat.le_of_ble_eq_true rfl) rfl ?_
                  dsimp only [put]
                  refine V.goto (tgt := 39) (pc := 119) d_Mo_rowKind_119 (by decide) ?_
                  refine ih (p + 1) _ _ _ (by omega) (by omega) (by omega) (by omega) ?_ ?_
                  · first | exact al_1 hpk (by omega) (by omega) | exact al_0 hpk (Or.inl (by omega)) | exact al_0 hpk (Or.inr (by omega))
                  · first | exact al_1 hns (by omega) (by omega) | exact al_0 hns (Or.inl (by omega)) | exact al_0 hns (Or.inr (by omega))
                · skip
                  refine V.iconst (pc := 109) d_Mo_rowKind_109 ⟨by decide, by decide⟩ ?_
                  refine V.goto (tgt := 114) (pc := 110) d_Mo_rowKind_110 (by decide) ?_
                  refine V.istore (pc := 114) d_Mo_rowKind_114 (Nat.le_of_ble_eq_true rfl) rfl ?_
                  dsimp only [put]
                  refine V.iinc (pc := 116) d_Mo_rowKind_116 rfl ⟨by omega, by omega⟩ (Nat.le_of_ble_eq_true rfl) rfl ?_
                  dsimp only [put]
                  refine V.goto (tgt := 39) (pc := 119) d_Mo_rowKind_119 (by decide) ?_
                  refine ih (p + 1) _ _ _ (by omega) (by omega) (by omega) (by omega) ?_ ?_
                  · first | exact al_1 hpk (by omega) (by omega) | exact al_0 hpk (Or.inl (by omega)) | exact al_0 hpk (Or.inr (by omega))
                  · first | exact al_1 hns (by omega) (by omega) | exact al_0 hns (Or.inl (by omega)) | exact al_0 hns (Or.inr (by omega))
              · skip
                refine V.iconst (pc := 101) d_Mo_rowKind_101 ⟨by decide, by decide⟩ ?_
                refine V.goto (tgt := 106) (pc := 102) d_Mo_rowKind_102 (by decide) ?_
                refine V.icmp_ne (tgt := 113) (pc := 106) d_Mo_rowKind_106 (by decide) (fun c_106 => ?_) (fun c_106 => ?_)
                · skip
                  refine V.iconst (pc := 113) d_Mo_rowKind_113 ⟨by decide, by decide⟩ ?_
                  refine V.istore (pc := 114) d_Mo_rowKind_114 (Nat.le_of_ble_eq_true rfl) rfl ?_
                  dsimp only [put]
                  refine V.iinc (pc := 116) d_Mo_rowKind_116 rfl ⟨by omega, by omega⟩ (Nat.le_of_ble_eq_true rfl) rfl ?_
                  dsimp only [put]
                  refine V.goto (tgt := 39) (pc := 119) d_Mo_rowKind_119 (by decide) ?_
                  refine ih (p + 1) _ _ _ (by omega) (by omega) (by omega) (by omega) ?_ ?_
                  · first | exact al_1 hpk (by omega) (by omega) | exact al_0 hpk (Or.inl (by omega)) | exact al_0 hpk (Or.inr (by omega))
                  · first | exact al_1 hns (by omega) (by omega) | exact al_0 hns (Or.inl (by omega)) | exact al_0 hns (Or.inr (by omega))
                · skip
                  refine V.iconst (pc := 109) d_Mo_rowKind_109 ⟨by decide, by decide⟩ ?_
                  refine V.goto (tgt := 114) (pc := 110) d_Mo_rowKind_110 (by decide) ?_
                  refine V.istore (pc := 114) d_Mo_rowKind_114 (Nat.le_of_ble_eq_true rfl) rfl ?_
                  dsimp only [put]
                  refine V.iinc (pc := 116) d_Mo_rowKind_116 rfl ⟨by omega, by omega⟩ (Nat.le_of_ble_eq_true rfl) rfl ?_
                  dsimp only [put]
                  refine V.goto (tgt := 39) (pc := 119) d_Mo_rowKind_119 (by decide) ?_
                  refine ih (p + 1) _ _ _ (by omega) (by omega) (by omega) (by omega) ?_ ?_
                  · first | exact al_1 hpk (by omega) (by omega) | exact al_0 hpk (Or.inl (by omega)) | exact al_0 hpk (Or.inr (by omega))
                  · first | exact al_1 hns (by omega) (by omega) | exact al_0 hns (Or.inl (by omega)) | exact al_0 hns (Or.inr (by omega))
def QK (σ : SM) (a : Nat → Int) (N sz : Nat) : QT := fun r h s => s = sz ∧ ∃ fo ft : Nat → Int, h = hM (sset (sset σ 13 fo) 8 ft) ∧ (∀ i, i < 400 → ft i = σ 8 i) ∧ r = some (vI (rowKind a N)) ∧ (arch a N → ∀ q, q < 2 * N → ft (400 + q) = pt a N q)
set_option maxRecDepth 20000 in
theorem ct_Mo_rowKind (σ : SM) (a : Nat → Int) (N : Nat) (ha : a = fun q => σ 6 (400 + q)) (hN0 : σ 5 10 = N) (hN : 1 ≤ N ∧ N ≤ 20) (hsg : ∀ q, q < 2 * N → a q = 1 ∨ a q = -1) (sz : Nat) : Ct M_Mo_rowKind 1 0 0 [vR 8] (hM σ) sz (QK σ a N sz) := by
  refine Ct.of rfl (Nat.le_of_ble_eq_true rfl) ?_
  dsimp only [lsOf]
  refine V.sipush (pc := 0) d_Mo_rowKind_0 ⟨by decide, by decide⟩ ?_
  refine V.istore_n (pc := 3) 1 d_Mo_rowKind_3 rfl (Nat.le_of_ble_eq_true rfl) rfl ?_
  dsimp only [put]
  refine V.aload_n (pc := 4) 0 d_Mo_rowKind_4 rfl rfl ?_
  refine V.getf (pc := 5) 5 cl_Mo fl_Mo_25_Mo d_Mo_rowKind_5 (hM_o _) (Nat.le_of_ble_eq_true rfl) rfl ?_
  refine V.bipush (pc := 8) d_Mo_rowKind_8 ⟨by decide, by decide⟩ ?_
  refine V.iald (pc := 10) d_Mo_rowKind_10 (ar_many _).1 (by omega) (by omega) ?_
  try simp (disch := omega) only [sset_n, sset_e]
  rw [show (10 : Int).toNat = 10 from rfl, hN0]
  refine V.istore_n (pc := 11) 2 d_Mo_rowKind_11 rfl (Nat.le_of_ble_eq_true rfl) rfl ?_
  dsimp only [put]
  refine V.aload_n (pc := 12) 0 d_Mo_rowKind_12 rfl rfl ?_
  refine V.aload_n (pc := 13) 0 d_Mo_rowKind_13 rfl rfl ?_
  refine V.getf (pc := 14) 6 cl_Mo fl_Mo_28_Mo d_Mo_rowKind_14 (hM_o _) (Nat.le_of_ble_eq_true rfl) rfl ?_
  refine V.aload_n (pc := 17) 0 d_Mo_rowKind_17 rfl rfl ?_
  refine V.getf (pc := 18) 8 cl_Mo fl_Mo_34_Mo d_Mo_rowKind_18 (hM_o _) (Nat.le_of_ble_eq_true rfl) rfl ?_
  refine V.iload_n (pc := 21) 1 d_Mo_rowKind_21 rfl rfl ?_
  refine V.iload_n (pc := 22) 2 d_Mo_rowKind_22 rfl rfl ?_
  refine V.cV4 (pc := 23) (kc2 := 0) (ks2 := 0) ml_Mo_122 (hM_o _) (ct_Mo_joins ar_one ar_over (by decide) (by decide) (by decide) σ 400 N (by omega) (by omega) (by omega) (by omega) sz) d_Mo_rowKind_23 (Nat.le_of_ble_eq_true rfl) (Nat.le_of_ble_eq_true rfl) (Nat.le_of_ble_eq_true rfl) (Nat.le_of_ble_eq_true rfl) ?_
  rintro _ _ _ ⟨rfl, fo, ft, rfl, hft1, rfl, hft2⟩
  dsimp only [Option.toList, List.cons_append, List.nil_append]
  refine V.ifB_ne (tgt := 31) (pc := 26) d_Mo_rowKind_26 (by decide) (fun c_26 => ?_) (fun c_26 => ?_)
  · skip
    refine V.iconst (pc := 31) d_Mo_rowKind_31 ⟨by decide, by decide⟩ ?_
    refine V.istore_n (pc := 32) 3 d_Mo_rowKind_32 rfl (Nat.le_of_ble_eq_true rfl) rfl ?_
    dsimp only [put]
    refine V.iconst (pc := 33) d_Mo_rowKind_33 ⟨by decide, by decide⟩ ?_
    refine V.istore (pc := 34) d_Mo_rowKind_34 (Nat.le_of_ble_eq_true rfl) rfl ?_
    dsimp only [put]
    refine V.iconst (pc := 36) d_Mo_rowKind_36 ⟨by decide, by decide⟩ ?_
    refine V.istore (pc := 37) d_Mo_rowKind_37 (Nat.le_of_ble_eq_true rfl) rfl ?_
    dsimp only [put]
    refine lp_Mo_rowKind σ (sset (sset σ 13 fo) 8 ft) a N ha rfl (by omega) hsg _ _ ?_ (2 * N) 0 1 1 0 (by omega) rfl (Or.inr rfl) (Or.inr rfl) ⟨fun _ q hq => by omega, fun _ => rfl⟩ ⟨fun _ q hq => by omega, fun _ => rfl⟩
    refine ⟨rfl, fo, ft, rfl, fun i hi => hft1 i (Or.inl hi), ?_, fun g => by rw [ha]; exact hft2 (by rw [ha] at g; exact g)⟩
    rw [← ha] at c_26
    unfold rowKind; rw [if_pos c_26]
  · skip
    refine V.iconst (pc := 29) d_Mo_rowKind_29 ⟨by decide, by decide⟩ ?_
    refine V.ret (pc := 30) (r := some (vI _)) d_Mo_rowKind_30 (Or.inl rfl) rfl ?_
    refine ⟨rfl, fo, ft, rfl, fun i hi => hft1 i (Or.inl hi), ?_, fun g => absurd g (by rw [ha]; exact c_26)⟩
    rw [ha]; unfold rowKind; rw [if_neg c_26]
set_option maxRecDepth 20000 in
theorem ct_Mo_landLoops (σ : SM) (t N : Nat) (tt : Int) (htt : tt = t) (ht : t ≤ 10) (hmn : σ 5 tt.toNat = N) (hN : N ≤ 20) (f g : Nat → Int) (hfa : ∀ q, q < 2 * N → σ 8 (40 * t + q) = f q) (hgb : ∀ q, q < 2 * N → σ 9 (40 * t + q) = g q) (hf : PR f (2 * N)) (hg : PR g (2 * N)) (sz : Nat) : Ct M_Mo_landLoops 1 0 0 [vR 8, vI tt] (hM σ) sz (QL σ f g N sz) := by
  refine Ct.of rfl (Nat.le_of_ble_eq_true rfl) ?_
  dsimp only [lsOf]
  refine V.aload_n (pc := 0) 0 d_Mo_landLoops_0 rfl rfl ?_
  refine V.aload_n (pc := 1) 0 d_Mo_landLoops_1 rfl rfl ?_
  refine V.getf (pc := 2) 8 cl_Mo fl_Mo_34_Mo d_Mo_landLoops_2 (hM_o _) (Nat.le_of_ble_eq_true rfl) rfl ?_
  refine V.bipush (pc := 5) d_Mo_landLoops_5 ⟨by decide, by decide⟩ ?_
  refine V.iload_n (pc := 7) 1 d_Mo_landLoops_7 rfl rfl ?_
  refine V.imul (pc := 8) d_Mo_landLoops_8 ⟨by omega, by omega⟩ ?_
  refine V.aload_n (pc := 9) 0 d_Mo_landLoops_9 rfl rfl ?_
  refine V.getf (pc := 10) 9 cl_Mo fl_Mo_37_Mo d_Mo_landLoops_10 (hM_o _) (Nat.le_of_ble_eq_true rfl) rfl ?_
  refine V.bipush (pc := 13) d_Mo_landLoops_13 ⟨by decide, by decide⟩ ?_
  refine V.iload_n (pc := 15) 1 d_Mo_landLoops_15 rfl rfl ?_
  refine V.imul (pc := 16) d_Mo_landLoops_16 ⟨by omega, by omega⟩ ?_
  refine V.aload_n (pc := 17) 0 d_Mo_landLoops_17 rfl rfl ?_
  refine V.getf (pc := 18) 5 cl_Mo fl_Mo_25_Mo d_Mo_landLoops_18 (hM_o _) (Nat.le_of_ble_eq_true rfl) rfl ?_
  refine V.iload_n (pc := 21) 1 d_Mo_landLoops_21 rfl rfl ?_
  refine V.iald (pc := 22) d_Mo_landLoops_22 (ar_many _).1 (by omega) (by omega) ?_
  try simp (disch := omega) only [sset_n, sset_e]
  simp only [hmn, show (40 * tt : Int) = ((40 * t : Nat) : Int) by omega]
  refine V.cV5 (pc := 23) (kc2 := 0) (ks2 := 0) ml_Mo_126 (hM_o _) (ct_Mo_findLoops ar_over ar_under (by decide) (by decide) σ (40 * t) (40 * t) N (by omega) (by omega) (by omega) (by omega) (by omega) sz f g hfa hgb hf hg) d_Mo_landLoops_23 (Nat.le_of_ble_eq_true rfl) (Nat.le_of_ble_eq_true rfl) (Nat.le_of_ble_eq_true rfl) (Nat.le_of_ble_eq_true rfl) ?_
  rintro r9 h9 s9 hq9
  obtain ⟨fl, e1, e2, e3⟩ := hq9.2
  have e4 := hq9.1
  subst e4; subst e1; subst e2
  dsimp only [Option.toList, List.cons_append, List.nil_append]
  refine V.ret (pc := 26) (r := some (vI _)) d_Mo_landLoops_26 (Or.inl rfl) rfl ?_
  exact ⟨rfl, fl, rfl, rfl, e3⟩
