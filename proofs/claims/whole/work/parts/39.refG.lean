/-! THE REFERENCE: worth, printed by wip/whole/gen/refG.py -/
def plu (a : Nat → Int) (p : Nat) : Int := if 0 < a p then 1 else 0
def nxt (a : Nat → Int) (n p : Nat) : Int := if pt a n p = (p : Int) + 1 then 1 else 0
theorem plu_rng (a : Nat → Int) (p : Nat) : 0 ≤ plu a p ∧ plu a p ≤ 1 := by unfold plu; split <;> omega
theorem nxt_rng (a : Nat → Int) (n p : Nat) : 0 ≤ nxt a n p ∧ nxt a n p ≤ 1 := by unfold nxt; split <;> omega
set_option maxRecDepth 20000 in
theorem lp_Mo_worthR (σ τ : SM) (l : List Int) (htr : TR σ τ l) (t : Int) (ht : 0 ≤ t ∧ t ≤ 9) (n : Nat) (hn : σ 5 t.toNat = n) (hn20 : 1 ≤ n ∧ n ≤ 20) (a : Nat → Int) (ha : ∀ x, x < 2 * n → σ 6 (40 * t.toNat + x) = a x) (own : Int) (sz : Nat) : ∀ (c p : Nat) (pp v : Int), p + c = 2 * n → pp = p → v = cn (plu a) p →
    V M_Mo_worth 2 23 [some (vR 8), some (vI t), some (vI own), some (vI v), some (vI pp)] [] (hM τ) sz 0 0 (QZ σ (cn (plu a) (2 * n)) l sz) := by
  intro c
  induction c with
  | zero =>
    intro p pp v hc hpp hv
    refine V.iload (pc := 23) d_Mo_worth_23 rfl ?_
    refine V.iconst (pc := 25) d_Mo_worth_25 ⟨by decide, by decide⟩ ?_
    refine V.aload_n (pc := 26) 0 d_Mo_worth_26 rfl rfl ?_
    refine V.getf (pc := 27) 5 cl_Mo fl_Mo_25_Mo d_Mo_worth_27 (hM_o _) (Nat.le_of_ble_eq_true rfl) rfl ?_
    refine V.iload_n (pc := 30) 1 d_Mo_worth_30 rfl rfl ?_
    refine V.iald (pc := 31) d_Mo_worth_31 (ar_many _).1 (by omega) (by omega) ?_
    try simp (disch := omega) only [sset_n, sset_e]
    rw [htr.1 5 (by omega) (by omega) (by omega)]
    rw [hn]
    refine V.imul (pc := 32) d_Mo_worth_32 ⟨by omega, by omega⟩ ?_
    refine V.icmp_ge (tgt := 65) (pc := 33) d_Mo_worth_33 (by decide) (fun c_33 => ?_) (fun c_33 => ?_)
    · skip
      refine V.iload_n (pc := 65) 3 d_Mo_worth_65 rfl rfl ?_
      refine V.ret (pc := 66) (r := some (vI _)) d_Mo_worth_66 (Or.inl rfl) rfl ?_
      exact ⟨rfl, by rw [hv, show p = 2 * n by omega], τ, rfl, htr⟩
    · skip
      exfalso; omega
  | succ c ih =>
    intro p pp v hc hpp hv
    have hrg := cn_rng (plu_rng a) p
    refine V.iload (pc := 23) d_Mo_worth_23 rfl ?_
    refine V.iconst (pc := 25) d_Mo_worth_25 ⟨by decide, by decide⟩ ?_
    refine V.aload_n (pc := 26) 0 d_Mo_worth_26 rfl rfl ?_
    refine V.getf (pc := 27) 5 cl_Mo fl_Mo_25_Mo d_Mo_worth_27 (hM_o _) (Nat.le_of_ble_eq_true rfl) rfl ?_
    refine V.iload_n (pc := 30) 1 d_Mo_worth_30 rfl rfl ?_
    refine V.iald (pc := 31) d_Mo_worth_31 (ar_many _).1 (by omega) (by omega) ?_
    try simp (disch := omega) only [sset_n, sset_e]
    rw [htr.1 5 (by omega) (by omega) (by omega)]
    rw [hn]
    refine V.imul (pc := 32) d_Mo_worth_32 ⟨by omega, by omega⟩ ?_
    refine V.icmp_ge (tgt := 65) (pc := 33) d_Mo_worth_33 (by decide) (fun c_33 => ?_) (fun c_33 => ?_)
    · skip
      exfalso; omega
    · skip
      refine V.iload_n (pc := 36) 3 d_Mo_worth_36 rfl rfl ?_
      refine V.aload_n (pc := 37) 0 d_Mo_worth_37 rfl rfl ?_
      refine V.getf (pc := 38) 6 cl_Mo fl_Mo_28_Mo d_Mo_worth_38 (hM_o _) (Nat.le_of_ble_eq_true rfl) rfl ?_
      refine V.bipush (pc := 41) d_Mo_worth_41 ⟨by decide, by decide⟩ ?_
      refine V.iload_n (pc := 43) 1 d_Mo_worth_43 rfl rfl ?_
      refine V.imul (pc := 44) d_Mo_worth_44 ⟨by omega, by omega⟩ ?_
      refine V.iload (pc := 45) d_Mo_worth_45 rfl ?_
      refine V.iadd (pc := 47) d_Mo_worth_47 ⟨by omega, by omega⟩ ?_
      refine V.iald (pc := 48) d_Mo_worth_48 (ar_one _).1 (by omega) (by omega) ?_
      try simp (disch := omega) only [sset_n, sset_e]
      rw [htr.1 6 (by omega) (by omega) (by omega), show (40 * t + pp).toNat = 40 * t.toNat + p by omega, ha p (by omega)]
      refine V.if_le (tgt := 56) (pc := 49) d_Mo_worth_49 (by decide) (fun c_49 => ?_) (fun c_49 => ?_)
      · skip
        refine V.iconst (pc := 56) d_Mo_worth_56 ⟨by decide, by decide⟩ ?_
        refine V.iadd (pc := 57) d_Mo_worth_57 ⟨by omega, by omega⟩ ?_
        refine V.istore_n (pc := 58) 3 d_Mo_worth_58 rfl (Nat.le_of_ble_eq_true rfl) rfl ?_
        dsimp only [put]
        refine V.iinc (pc := 59) d_Mo_worth_59 rfl ⟨by omega, by omega⟩ (Nat.le_of_ble_eq_true rfl) rfl ?_
        dsimp only [put]
        refine V.goto (tgt := 23) (pc := 62) d_Mo_worth_62 (by decide) ?_
        have hrg := cn_rng (plu_rng a) p
        refine ih (p + 1) _ _ (by omega) (by omega) ?_
        show _ = cn (plu a) p + plu a p
        rw [hv]
        unfold plu
        first | rw [if_pos (by omega)] | rw [if_neg (by omega)]
      · skip
        refine V.iconst (pc := 52) d_Mo_worth_52 ⟨by decide, by decide⟩ ?_
        refine V.goto (tgt := 57) (pc := 53) d_Mo_worth_53 (by decide) ?_
        refine V.iadd (pc := 57) d_Mo_worth_57 ⟨by omega, by omega⟩ ?_
        refine V.istore_n (pc := 58) 3 d_Mo_worth_58 rfl (Nat.le_of_ble_eq_true rfl) rfl ?_
        dsimp only [put]
        refine V.iinc (pc := 59) d_Mo_worth_59 rfl ⟨by omega, by omega⟩ (Nat.le_of_ble_eq_true rfl) rfl ?_
        dsimp only [put]
        refine V.goto (tgt := 23) (pc := 62) d_Mo_worth_62 (by decide) ?_
        have hrg := cn_rng (plu_rng a) p
        refine ih (p + 1) _ _ (by omega) (by omega) ?_
        show _ = cn (plu a) p + plu a p
        rw [hv]
        unfold plu
        first | rw [if_pos (by omega)] | rw [if_neg (by omega)]
theorem szV3 (n : Int) : szV 3 n = n := by unfold szV; rw [if_neg (by decide)]
theorem szL3 : szL 3 = [10] := by unfold szL; rw [if_neg (by decide)]
set_option maxRecDepth 20000 in
theorem lp_Mo_worthA (σ τ : SM) (l : List Int) (htr : TR σ τ l) (t : Int) (ht : 0 ≤ t ∧ t ≤ 9) (n : Nat) (hn : σ 5 t.toNat = n) (hn20 : 1 ≤ n ∧ n ≤ 20) (a : Nat → Int) (hl : l.length < 14) (ha : ∀ x, x < 2 * n → σ 8 (40 * t.toNat + x) = pt a n x) (own : Int) (hk : σ 4 t.toNat = own) (sz : Nat) : ∀ (c p : Nat) (pp v : Int), p + 1 + c = 2 * n → pp = p → v = cn (nxt a n) p →
    V M_Mo_worth 2 92 [some (vR 8), some (vI t), some (vI own), some (vI v), some (vI pp)] [] (hM τ) sz 0 0 (QZ σ (if own = 3 then cn (nxt a n) (2 * n - 1) + n else cn (nxt a n) (2 * n - 1)) (if own = 3 then l ++ [10] else l) sz) := by
  intro c
  induction c with
  | zero =>
    intro p pp v hc hpp hv
    have hrg := cn_rng (nxt_rng a n) p
    refine V.iload (pc := 92) d_Mo_worth_92 rfl ?_
    refine V.iconst (pc := 94) d_Mo_worth_94 ⟨by decide, by decide⟩ ?_
    refine V.iadd (pc := 95) d_Mo_worth_95 ⟨by omega, by omega⟩ ?_
    refine V.iconst (pc := 96) d_Mo_worth_96 ⟨by decide, by decide⟩ ?_
    refine V.aload_n (pc := 97) 0 d_Mo_worth_97 rfl rfl ?_
    refine V.getf (pc := 98) 5 cl_Mo fl_Mo_25_Mo d_Mo_worth_98 (hM_o _) (Nat.le_of_ble_eq_true rfl) rfl ?_
    refine V.iload_n (pc := 101) 1 d_Mo_worth_101 rfl rfl ?_
    refine V.iald (pc := 102) d_Mo_worth_102 (ar_many _).1 (by omega) (by omega) ?_
    try simp (disch := omega) only [sset_n, sset_e]
    rw [htr.1 5 (by omega) (by omega) (by omega)]
    rw [hn]
    refine V.imul (pc := 103) d_Mo_worth_103 ⟨by omega, by omega⟩ ?_
    refine V.icmp_ge (tgt := 140) (pc := 104) d_Mo_worth_104 (by decide) (fun c_104 => ?_) (fun c_104 => ?_)
    · skip
      refine V.iload_n (pc := 140) 2 d_Mo_worth_140 rfl rfl ?_
      refine V.iconst (pc := 141) d_Mo_worth_141 ⟨by decide, by decide⟩ ?_
      refine V.icmp_ne (tgt := 155) (pc := 142) d_Mo_worth_142 (by decide) (fun c_142 => ?_) (fun c_142 => ?_)
      · skip
        refine V.iload_n (pc := 155) 3 d_Mo_worth_155 rfl rfl ?_
        refine V.ret (pc := 156) (r := some (vI _)) d_Mo_worth_156 (Or.inl rfl) rfl ?_
        refine ⟨rfl, ?_, τ, rfl, ?_⟩
        · rw [if_neg (by omega), hv, show p = 2 * n - 1 by omega]
        · rw [if_neg (by omega)]; exact htr
      · skip
        have hown3 : own = 3 := by omega
        refine V.iload_n (pc := 145) 3 d_Mo_worth_145 rfl rfl ?_
        refine V.aload_n (pc := 146) 0 d_Mo_worth_146 rfl rfl ?_
        refine V.iload_n (pc := 147) 1 d_Mo_worth_147 rfl rfl ?_
        refine V.cV1 (pc := 148) (kc2 := 0) (ks2 := 0) ml_Mo_197 (hM_o _) (ct_Mo_sizeOf σ τ l htr hl t ht (by rw [hn]; omega) _) d_Mo_worth_148 (Nat.le_of_ble_eq_true rfl) (Nat.le_of_ble_eq_true rfl) (Nat.le_of_ble_eq_true rfl) (Nat.le_of_ble_eq_true rfl) ?_
        rintro _ _ _ ⟨rfl, rfl, t2, rfl, htr2⟩
        dsimp only [Option.toList, List.cons_append, List.nil_append]
        rw [hk] at htr2 ⊢
        rw [hn, show szV own n = n by rw [hown3]; exact szV3 n]
        refine V.iadd (pc := 151) d_Mo_worth_151 ⟨by omega, by omega⟩ ?_
        refine V.goto (tgt := 156) (pc := 152) d_Mo_worth_152 (by decide) ?_
        refine V.ret (pc := 156) (r := some (vI _)) d_Mo_worth_156 (Or.inl rfl) rfl ?_
        refine ⟨rfl, ?_, t2, rfl, ?_⟩
        · rw [if_pos hown3, hv, show p = 2 * n - 1 by omega]
        · rw [if_pos hown3]; rw [show szL own = [10] by rw [hown3]; exact szL3] at htr2; exact htr2
    · skip
      exfalso; omega
  | succ c ih =>
    intro p pp v hc hpp hv
    have hrg := cn_rng (nxt_rng a n) p
    refine V.iload (pc := 92) d_Mo_worth_92 rfl ?_
    refine V.iconst (pc := 94) d_Mo_worth_94 ⟨by decide, by decide⟩ ?_
    refine V.iadd (pc := 95) d_Mo_worth_95 ⟨by omega, by omega⟩ ?_
    refine V.iconst (pc := 96) d_Mo_worth_96 ⟨by decide, by decide⟩ ?_
    refine V.aload_n (pc := 97) 0 d_Mo_worth_97 rfl rfl ?_
    refine V.getf (pc := 98) 5 cl_Mo fl_Mo_25_Mo d_Mo_worth_98 (hM_o _) (Nat.le_of_ble_eq_true rfl) rfl ?_
    refine V.iload_n (pc := 101) 1 d_Mo_worth_101 rfl rfl ?_
    refine V.iald (pc := 102) d_Mo_worth_102 (ar_many _).1 (by omega) (by omega) ?_
    try simp (disch := omega) only [sset_n, sset_e]
    rw [htr.1 5 (by omega) (by omega) (by omega)]
    rw [hn]
    refine V.imul (pc := 103) d_Mo_worth_103 ⟨by omega, by omega⟩ ?_
    refine V.icmp_ge (tgt := 140) (pc := 104) d_Mo_worth_104 (by decide) (fun c_104 => ?_) (fun c_104 => ?_)
    · skip
      exfalso; omega
    · skip
      refine V.iload_n (pc := 107) 3 d_Mo_worth_107 rfl rfl ?_
      refine V.aload_n (pc := 108) 0 d_Mo_worth_108 rfl rfl ?_
      refine V.getf (pc := 109) 8 cl_Mo fl_Mo_34_Mo d_Mo_worth_109 (hM_o _) (Nat.le_of_ble_eq_true rfl) rfl ?_
      refine V.bipush (pc := 112) d_Mo_worth_112 ⟨by decide, by decide⟩ ?_
      refine V.iload_n (pc := 114) 1 d_Mo_worth_114 rfl rfl ?_
      refine V.imul (pc := 115) d_Mo_worth_115 ⟨by omega, by omega⟩ ?_
      refine V.iload (pc := 116) d_Mo_worth_116 rfl ?_
      refine V.iadd (pc := 118) d_Mo_worth_118 ⟨by omega, by omega⟩ ?_
      refine V.iald (pc := 119) d_Mo_worth_119 (ar_over _).1 (by omega) (by omega) ?_
      try simp (disch := omega) only [sset_n, sset_e]
      rw [htr.1 8 (by omega) (by omega) (by omega), show (40 * t + pp).toNat = 40 * t.toNat + p by omega, ha p (by omega)]
      refine V.iload (pc := 120) d_Mo_worth_120 rfl ?_
      refine V.iconst (pc := 122) d_Mo_worth_122 ⟨by decide, by decide⟩ ?_
      refine V.iadd (pc := 123) d_Mo_worth_123 ⟨by omega, by omega⟩ ?_
      refine V.icmp_ne (tgt := 131) (pc := 124) d_Mo_worth_124 (by decide) (fun c_124 => ?_) (fun c_124 => ?_)
      · skip
        refine V.iconst (pc := 131) d_Mo_worth_131 ⟨by decide, by decide⟩ ?_
        refine V.iadd (pc := 132) d_Mo_worth_132 ⟨by omega, by omega⟩ ?_
        refine V.istore_n (pc := 133) 3 d_Mo_worth_133 rfl (Nat.le_of_ble_eq_true rfl) rfl ?_
        dsimp only [put]
        refine V.iinc (pc := 134) d_Mo_worth_134 rfl ⟨by omega, by omega⟩ (Nat.le_of_ble_eq_true rfl) rfl ?_
        dsimp only [put]
        refine V.goto (tgt := 92) (pc := 137) d_Mo_worth_137 (by decide) ?_
        have hrg := cn_rng (nxt_rng a n) p
        refine ih (p + 1) _ _ (by omega) (by omega) ?_
        show _ = cn (nxt a n) p + nxt a n p
        rw [hv]
        unfold nxt
        first | rw [if_pos (by omega)] | rw [if_neg (by omega)]
      · skip
        refine V.iconst (pc := 127) d_Mo_worth_127 ⟨by decide, by decide⟩ ?_
        refine V.goto (tgt := 132) (pc := 128) d_Mo_worth_128 (by decide) ?_
        refine V.iadd (pc := 132) d_Mo_worth_132 ⟨by omega, by omega⟩ ?_
        refine V.istore_n (pc := 133) 3 d_Mo_worth_133 rfl (Nat.le_of_ble_eq_true rfl) rfl ?_
        dsimp only [put]
        refine V.iinc (pc := 134) d_Mo_worth_134 rfl ⟨by omega, by omega⟩ (Nat.le_of_ble_eq_true rfl) rfl ?_
        dsimp only [put]
        refine V.goto (tgt := 92) (pc := 137) d_Mo_worth_137 (by decide) ?_
        have hrg := cn_rng (nxt_rng a n) p
        refine ih (p + 1) _ _ (by omega) (by omega) ?_
        show _ = cn (nxt a n) p + nxt a n p
        rw [hv]
        unfold nxt
        first | rw [if_pos (by omega)] | rw [if_neg (by omega)]
