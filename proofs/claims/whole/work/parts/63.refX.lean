/-! THE REFERENCE: nextOrder, printed by wip/whole/gen/refX.py -/
theorem piK_hi {n i j k : Nat} (h : i < k) : piK n i j k = if n + i - k = j then i else n + i - k := by unfold piK; rw [if_neg (by omega), if_neg (by omega)]
theorem piK_lo {n i j k : Nat} (h : k < i) : piK n i j k = k := by unfold piK; rw [if_pos h]
theorem piK_eq {n i j : Nat} : piK n i j i = j := by unfold piK; rw [if_neg (by omega), if_pos rfl]
def QN (σ : SM) (n P sz : Nat) : QT := fun r h s => s = sz ∧ ((pvK P (n - 1) = 0 ∧ r = some (vI 0) ∧ h = hM σ) ∨ (pvK P (n - 1) ≠ 0 ∧ r = some (vI 1) ∧ ∃ g : Nat → Int, h = hM (sset σ 33 g) ∧ ∀ k, k < n → g k = (dg (nxK n P) k : Int)))
set_option maxRecDepth 20000 in
theorem lp_Mo_next3 (σ : SM) (n P : Nat) (hn : 1 ≤ n ∧ n ≤ 8) (i j : Nat) (hij : i < j ∧ j < n) (ii jj : Int) (sz : Nat) (hpv : pvK P (n - 1) = i + 1) (hls : lsK P (dg P i) (n - 1) = j) : ∀ (c a b : Nat) (v aa bb : Int) (g : Nat → Int), b < a + c → a + b = n + i → i + 1 ≤ a → b < n → (aa = a ∧ bb = b ∧ a ≤ b + 1) → (∀ k, k < n → (k < a ∨ b < k) → g k = (dg P (piK n i j k) : Int)) → (∀ k, k < n → (a ≤ k ∧ k ≤ b) → g k = (dg P (if k = j then i else k) : Int)) →
    V M_Mo_nextOrder 0 100 [some (vR 8), some (vI (n : Nat)), some (vI ii), some (vI jj), some (vI v), some (vI aa), some (vI bb)] [] (hM (sset σ 33 g)) sz 0 0 (QN σ n P sz) := by
  have FIN : ∀ (g : Nat → Int), (∀ k, k < n → g k = (dg P (piK n i j k) : Int)) → QN σ n P sz (some (vI 1)) (hM (sset σ 33 g)) sz := fun g hg => ⟨rfl, Or.inr ⟨by omega, rfl, g, rfl, fun k hk => by rw [nxK_dg hn.2 k hk, hpv, Nat.add_sub_cancel, hls]; exact hg k hk⟩⟩
  intro c
  induction c with
  | zero =>
    intro a b v aa bb g hc hab hia hbn hh hg hm
    obtain ⟨haa, hbb, hba⟩ := hh
    refine V.iload (pc := 100) d_Mo_nextOrder_100 rfl ?_
    refine V.iload (pc := 102) d_Mo_nextOrder_102 rfl ?_
    refine V.icmp_ge (tgt := 148) (pc := 104) d_Mo_nextOrder_104 (by decide) (fun c_104 => ?_) (fun c_104 => ?_)
    · skip
      refine V.iconst (pc := 148) d_Mo_nextOrder_148 ⟨by decide, by decide⟩ ?_
      refine V.ret (pc := 149) (r := some (vI _)) d_Mo_nextOrder_149 (Or.inr ⟨rfl, Or.inr rfl⟩) rfl ?_
      refine FIN g (fun k hk => ?_)
      by_cases e : k < a ∨ b < k
      · exact hg k hk e
      · rw [hm k hk (by omega)]
        rw [piK_hi (by omega), show n + i - k = k by omega]
    · skip
      exfalso; omega
  | succ c ih =>
    intro a b v aa bb g hc hab hia hbn hh hg hm
    obtain ⟨haa, hbb, hba⟩ := hh
    refine V.iload (pc := 100) d_Mo_nextOrder_100 rfl ?_
    refine V.iload (pc := 102) d_Mo_nextOrder_102 rfl ?_
    refine V.icmp_ge (tgt := 148) (pc := 104) d_Mo_nextOrder_104 (by decide) (fun c_104 => ?_) (fun c_104 => ?_)
    · skip
      refine V.iconst (pc := 148) d_Mo_nextOrder_148 ⟨by decide, by decide⟩ ?_
      refine V.ret (pc := 149) (r := some (vI _)) d_Mo_nextOrder_149 (Or.inr ⟨rfl, Or.inr rfl⟩) rfl ?_
      refine FIN g (fun k hk => ?_)
      by_cases e : k < a ∨ b < k
      · exact hg k hk e
      · rw [hm k hk (by omega)]
        rw [piK_hi (by omega), show n + i - k = k by omega]
    · skip
      refine V.aload_n (pc := 107) 0 d_Mo_nextOrder_107 rfl rfl ?_
      refine V.getf (pc := 108) 33 cl_Mo fl_Mo_92_Mo d_Mo_nextOrder_108 (hM_o _) (Nat.le_of_ble_eq_true rfl) rfl ?_
      refine V.iload (pc := 111) d_Mo_nextOrder_111 rfl ?_
      refine V.iald (pc := 113) d_Mo_nextOrder_113 (ar_order _).1 (by omega) (by omega) ?_
      try simp (disch := omega) only [sset_n, sset_e]
      rw [show aa.toNat = a by omega, hm a (by omega) (by omega)]
      refine V.istore (pc := 114) d_Mo_nextOrder_114 (Nat.le_of_ble_eq_true rfl) rfl ?_
      dsimp only [put]
      refine V.aload_n (pc := 116) 0 d_Mo_nextOrder_116 rfl rfl ?_
      refine V.getf (pc := 117) 33 cl_Mo fl_Mo_92_Mo d_Mo_nextOrder_117 (hM_o _) (Nat.le_of_ble_eq_true rfl) rfl ?_
      refine V.iload (pc := 120) d_Mo_nextOrder_120 rfl ?_
      refine V.aload_n (pc := 122) 0 d_Mo_nextOrder_122 rfl rfl ?_
      refine V.getf (pc := 123) 33 cl_Mo fl_Mo_92_Mo d_Mo_nextOrder_123 (hM_o _) (Nat.le_of_ble_eq_true rfl) rfl ?_
      refine V.iload (pc := 126) d_Mo_nextOrder_126 rfl ?_
      refine V.iald (pc := 128) d_Mo_nextOrder_128 (ar_order _).1 (by omega) (by omega) ?_
      try simp (disch := omega) only [sset_n, sset_e]
      rw [show bb.toNat = b by omega, hm b (by omega) (by omega)]
      refine V.iast (pc := 129) d_Mo_nextOrder_129 (ar_order _).1 (by omega) (by omega) ?_
      rw [(ar_order _).2]
      refine V.aload_n (pc := 130) 0 d_Mo_nextOrder_130 rfl rfl ?_
      refine V.getf (pc := 131) 33 cl_Mo fl_Mo_92_Mo d_Mo_nextOrder_131 (hM_o _) (Nat.le_of_ble_eq_true rfl) rfl ?_
      refine V.iload (pc := 134) d_Mo_nextOrder_134 rfl ?_
      refine V.iload (pc := 136) d_Mo_nextOrder_136 rfl ?_
      refine V.iast (pc := 138) d_Mo_nextOrder_138 (ar_order _).1 (by omega) (by omega) ?_
      rw [(ar_order _).2]
      refine V.iinc (pc := 139) d_Mo_nextOrder_139 rfl ⟨by omega, by omega⟩ (Nat.le_of_ble_eq_true rfl) rfl ?_
      dsimp only [put]
      refine V.iinc (pc := 142) d_Mo_nextOrder_142 rfl ⟨by omega, by omega⟩ (Nat.le_of_ble_eq_true rfl) rfl ?_
      dsimp only [put]
      refine V.goto (tgt := 100) (pc := 145) d_Mo_nextOrder_145 (by decide) ?_
      try simp only [sset_tw, sset_e]
      rw [show bb.toNat = b by omega, show aa.toNat = a by omega]
      refine ih (a + 1) (b - 1) _ _ _ _ (by omega) (by omega) (by omega) (by omega) (by omega) (fun k hk h => ?_) (fun k hk h => ?_)
      · by_cases e1 : k = b
        · rw [e1, upf_e]
          rw [piK_hi (by omega), show n + i - b = a by omega]
        · rw [upf_n e1]
          by_cases e2 : k = a
          · rw [e2, upf_e]
            rw [piK_hi (by omega), show n + i - a = b by omega]
          · rw [upf_n e2]; exact hg k hk (by omega)
      · rw [upf_n (by omega), upf_n (by omega)]; exact hm k hk (by omega)
set_option maxRecDepth 20000 in
theorem lp_Mo_next2 (σ : SM) (n P : Nat) (hn : 1 ≤ n ∧ n ≤ 8) (ho : ∀ k, k < n → σ 33 k = (dg P k : Int)) (i : Nat) (hi : i + 1 < n) (hle : dg P i ≤ dg P (i + 1)) (ii : Int) (hii : ii = i) (sz : Nat) (hpv : pvK P (n - 1) = i + 1) : ∀ (c j : Nat) (jj : Int), j = i + 1 + c → j < n → jj = j → lsK P (dg P i) (n - 1) = lsK P (dg P i) j →
    V M_Mo_nextOrder 0 41 [some (vR 8), some (vI (n : Nat)), some (vI ii), some (vI jj)] [] (hM σ) sz 0 0 (QN σ n P sz) := by
  intro c
  induction c with
  | zero =>
    intro j jj hc hj hjj hls
    have hle2 : dg P i ≤ dg P j := by rw [hc]; exact hle
    refine V.aload_n (pc := 41) 0 d_Mo_nextOrder_41 rfl rfl ?_
    refine V.getf (pc := 42) 33 cl_Mo fl_Mo_92_Mo d_Mo_nextOrder_42 (hM_o _) (Nat.le_of_ble_eq_true rfl) rfl ?_
    refine V.iload_n (pc := 45) 3 d_Mo_nextOrder_45 rfl rfl ?_
    refine V.iald (pc := 46) d_Mo_nextOrder_46 (ar_order _).1 (by omega) (by omega) ?_
    try simp (disch := omega) only [sset_n, sset_e]
    refine V.aload_n (pc := 47) 0 d_Mo_nextOrder_47 rfl rfl ?_
    refine V.getf (pc := 48) 33 cl_Mo fl_Mo_92_Mo d_Mo_nextOrder_48 (hM_o _) (Nat.le_of_ble_eq_true rfl) rfl ?_
    refine V.iload_n (pc := 51) 2 d_Mo_nextOrder_51 rfl rfl ?_
    refine V.iald (pc := 52) d_Mo_nextOrder_52 (ar_order _).1 (by omega) (by omega) ?_
    try simp (disch := omega) only [sset_n, sset_e]
    rw [show jj.toNat = j by omega, show ii.toNat = i by omega, ho j (by omega), ho i (by omega)]
    refine V.icmp_ge (tgt := 62) (pc := 53) d_Mo_nextOrder_53 (by decide) (fun c_53 => ?_) (fun c_53 => ?_)
    · skip
      refine V.aload_n (pc := 62) 0 d_Mo_nextOrder_62 rfl rfl ?_
      refine V.getf (pc := 63) 33 cl_Mo fl_Mo_92_Mo d_Mo_nextOrder_63 (hM_o _) (Nat.le_of_ble_eq_true rfl) rfl ?_
      refine V.iload_n (pc := 66) 2 d_Mo_nextOrder_66 rfl rfl ?_
      refine V.iald (pc := 67) d_Mo_nextOrder_67 (ar_order _).1 (by omega) (by omega) ?_
      try simp (disch := omega) only [sset_n, sset_e]
      rw [show ii.toNat = i by omega, ho i (by omega)]
      refine V.istore (pc := 68) d_Mo_nextOrder_68 (Nat.le_of_ble_eq_true rfl) rfl ?_
      dsimp only [put]
      refine V.aload_n (pc := 70) 0 d_Mo_nextOrder_70 rfl rfl ?_
      refine V.getf (pc := 71) 33 cl_Mo fl_Mo_92_Mo d_Mo_nextOrder_71 (hM_o _) (Nat.le_of_ble_eq_true rfl) rfl ?_
      refine V.iload_n (pc := 74) 2 d_Mo_nextOrder_74 rfl rfl ?_
      refine V.aload_n (pc := 75) 0 d_Mo_nextOrder_75 rfl rfl ?_
      refine V.getf (pc := 76) 33 cl_Mo fl_Mo_92_Mo d_Mo_nextOrder_76 (hM_o _) (Nat.le_of_ble_eq_true rfl) rfl ?_
      refine V.iload_n (pc := 79) 3 d_Mo_nextOrder_79 rfl rfl ?_
      refine V.iald (pc := 80) d_Mo_nextOrder_80 (ar_order _).1 (by omega) (by omega) ?_
      try simp (disch := omega) only [sset_n, sset_e]
      rw [show jj.toNat = j by omega, ho j (by omega)]
      refine V.iast (pc := 81) d_Mo_nextOrder_81 (ar_order _).1 (by omega) (by omega) ?_
      rw [(ar_order _).2]
      refine V.aload_n (pc := 82) 0 d_Mo_nextOrder_82 rfl rfl ?_
      refine V.getf (pc := 83) 33 cl_Mo fl_Mo_92_Mo d_Mo_nextOrder_83 (hM_o _) (Nat.le_of_ble_eq_true rfl) rfl ?_
      refine V.iload_n (pc := 86) 3 d_Mo_nextOrder_86 rfl rfl ?_
      refine V.iload (pc := 87) d_Mo_nextOrder_87 rfl ?_
      refine V.iast (pc := 89) d_Mo_nextOrder_89 (ar_order _).1 (by omega) (by omega) ?_
      rw [(ar_order _).2]
      refine V.iload_n (pc := 90) 2 d_Mo_nextOrder_90 rfl rfl ?_
      refine V.iconst (pc := 91) d_Mo_nextOrder_91 ⟨by decide, by decide⟩ ?_
      refine V.iadd (pc := 92) d_Mo_nextOrder_92 ⟨by omega, by omega⟩ ?_
      refine V.istore (pc := 93) d_Mo_nextOrder_93 (Nat.le_of_ble_eq_true rfl) rfl ?_
      dsimp only [put]
      refine V.iload_n (pc := 95) 1 d_Mo_nextOrder_95 rfl rfl ?_
      refine V.iconst (pc := 96) d_Mo_nextOrder_96 ⟨by decide, by decide⟩ ?_
      refine V.isub (pc := 97) d_Mo_nextOrder_97 ⟨by omega, by omega⟩ ?_
      refine V.istore (pc := 98) d_Mo_nextOrder_98 (Nat.le_of_ble_eq_true rfl) rfl ?_
      dsimp only [put]
      try simp only [sset_tw, sset_e]
      rw [show jj.toNat = j by omega, show ii.toNat = i by omega]
      have hlj : lsK P (dg P i) (n - 1) = j := by
        rw [hls]
        obtain ⟨q, rfl⟩ : ∃ q, j = q + 1 := ⟨j - 1, by omega⟩
        rw [lsK_s, ble_t (by omega)]; rfl
      refine lp_Mo_next3 σ n P hn i j (by omega) ii jj _ hpv hlj n (i + 1) (n - 1) _ _ _ _ (by omega) (by omega) (by omega) (by omega) ⟨by omega, by omega, by omega⟩ (fun k hk h => ?_) (fun k hk h => ?_)
      · by_cases e : k = i
        · rw [e, upf_n (by omega), upf_e, piK_eq]
        · rw [upf_n (by omega), upf_n e, piK_lo (by omega)]; exact ho k hk
      · by_cases e : k = j
        · rw [e, upf_e, if_pos rfl]
        · rw [upf_n e, upf_n (by omega), if_neg e]; exact ho k hk
    · skip
      exfalso; omega
  | succ c ih =>
    intro j jj hc hj hjj hls
    refine V.aload_n (pc := 41) 0 d_Mo_nextOrder_41 rfl rfl ?_
    refine V.getf (pc := 42) 33 cl_Mo fl_Mo_92_Mo d_Mo_nextOrder_42 (hM_o _) (Nat.le_of_ble_eq_true rfl) rfl ?_
    refine V.iload_n (pc := 45) 3 d_Mo_nextOrder_45 rfl rfl ?_
    refine V.iald (pc := 46) d_Mo_nextOrder_46 (ar_order _).1 (by omega) (by omega) ?_
    try simp (disch := omega) only [sset_n, sset_e]
    refine V.aload_n (pc := 47) 0 d_Mo_nextOrder_47 rfl rfl ?_
    refine V.getf (pc := 48) 33 cl_Mo fl_Mo_92_Mo d_Mo_nextOrder_48 (hM_o _) (Nat.le_of_ble_eq_true rfl) rfl ?_
    refine V.iload_n (pc := 51) 2 d_Mo_nextOrder_51 rfl rfl ?_
    refine V.iald (pc := 52) d_Mo_nextOrder_52 (ar_order _).1 (by omega) (by omega) ?_
    try simp (disch := omega) only [sset_n, sset_e]
    rw [show jj.toNat = j by omega, show ii.toNat = i by omega, ho j (by omega), ho i (by omega)]
    refine V.icmp_ge (tgt := 62) (pc := 53) d_Mo_nextOrder_53 (by decide) (fun c_53 => ?_) (fun c_53 => ?_)
    · skip
      refine V.aload_n (pc := 62) 0 d_Mo_nextOrder_62 rfl rfl ?_
      refine V.getf (pc := 63) 33 cl_Mo fl_Mo_92_Mo d_Mo_nextOrder_63 (hM_o _) (Nat.le_of_ble_eq_true rfl) rfl ?_
      refine V.iload_n (pc := 66) 2 d_Mo_nextOrder_66 rfl rfl ?_
      refine V.iald (pc := 67) d_Mo_nextOrder_67 (ar_order _).1 (by omega) (by omega) ?_
      try simp (disch := omega) only [sset_n, sset_e]
      rw [show ii.toNat = i by omega, ho i (by omega)]
      refine V.istore (pc := 68) d_Mo_nextOrder_68 (Nat.le_of_ble_eq_true rfl) rfl ?_
      dsimp only [put]
      refine V.aload_n (pc := 70) 0 d_Mo_nextOrder_70 rfl rfl ?_
      refine V.getf (pc := 71) 33 cl_Mo fl_Mo_92_Mo d_Mo_nextOrder_71 (hM_o _) (Nat.le_of_ble_eq_true rfl) rfl ?_
      refine V.iload_n (pc := 74) 2 d_Mo_nextOrder_74 rfl rfl ?_
      refine V.aload_n (pc := 75) 0 d_Mo_nextOrder_75 rfl rfl ?_
      refine V.getf (pc := 76) 33 cl_Mo fl_Mo_92_Mo d_Mo_nextOrder_76 (hM_o _) (Nat.le_of_ble_eq_true rfl) rfl ?_
      refine V.iload_n (pc := 79) 3 d_Mo_nextOrder_79 rfl rfl ?_
      refine V.iald (pc := 80) d_Mo_nextOrder_80 (ar_order _).1 (by omega) (by omega) ?_
      try simp (disch := omega) only [sset_n, sset_e]
      rw [show jj.toNat = j by omega, ho j (by omega)]
      refine V.iast (pc := 81) d_Mo_nextOrder_81 (ar_order _).1 (by omega) (by omega) ?_
      rw [(ar_order _).2]
      refine V.aload_n (pc := 82) 0 d_Mo_nextOrder_82 rfl rfl ?_
      refine V.getf (pc := 83) 33 cl_Mo fl_Mo_92_Mo d_Mo_nextOrder_83 (hM_o _) (Nat.le_of_ble_eq_true rfl) rfl ?_
      refine V.iload_n (pc := 86) 3 d_Mo_nextOrder_86 rfl rfl ?_
      refine V.iload (pc := 87) d_Mo_nextOrder_87 rfl ?_
      refine V.iast (pc := 89) d_Mo_nextOrder_89 (ar_order _).1 (by omega) (by omega) ?_
      rw [(ar_order _).2]
      refine V.iload_n (pc := 90) 2 d_Mo_nextOrder_90 rfl rfl ?_
      refine V.iconst (pc := 91) d_Mo_nextOrder_91 ⟨by decide, by decide⟩ ?_
      refine V.iadd (pc := 92) d_Mo_nextOrder_92 ⟨by omega, by omega⟩ ?_
      refine V.istore (pc := 93) d_Mo_nextOrder_93 (Nat.le_of_ble_eq_true rfl) rfl ?_
      dsimp only [put]
      refine V.iload_n (pc := 95) 1 d_Mo_nextOrder_95 rfl rfl ?_
      refine V.iconst (pc := 96) d_Mo_nextOrder_96 ⟨by decide, by decide⟩ ?_
      refine V.isub (pc := 97) d_Mo_nextOrder_97 ⟨by omega, by omega⟩ ?_
      refine V.istore (pc := 98) d_Mo_nextOrder_98 (Nat.le_of_ble_eq_true rfl) rfl ?_
      dsimp only [put]
      try simp only [sset_tw, sset_e]
      rw [show jj.toNat = j by omega, show ii.toNat = i by omega]
      have hlj : lsK P (dg P i) (n - 1) = j := by
        rw [hls]
        obtain ⟨q, rfl⟩ : ∃ q, j = q + 1 := ⟨j - 1, by omega⟩
        rw [lsK_s, ble_t (by omega)]; rfl
      refine lp_Mo_next3 σ n P hn i j (by omega) ii jj _ hpv hlj n (i + 1) (n - 1) _ _ _ _ (by omega) (by omega) (by omega) (by omega) ⟨by omega, by omega, by omega⟩ (fun k hk h => ?_) (fun k hk h => ?_)
      · by_cases e : k = i
        · rw [e, upf_n (by omega), upf_e, piK_eq]
        · rw [upf_n (by omega), upf_n e, piK_lo (by omega)]; exact ho k hk
      · by_cases e : k = j
        · rw [e, upf_e, if_pos rfl]
        · rw [upf_n e, upf_n (by omega), if_neg e]; exact ho k hk
    · skip
      refine V.iinc (pc := 56) d_Mo_nextOrder_56 rfl ⟨by omega, by omega⟩ (Nat.le_of_ble_eq_true rfl) rfl ?_
      dsimp only [put]
      refine V.goto (tgt := 41) (pc := 59) d_Mo_nextOrder_59 (by decide) ?_
      refine ih (j - 1) _ (by omega) (by omega) (by omega) ?_
      rw [hls]
      obtain ⟨q, rfl⟩ : ∃ q, j = q + 1 := ⟨j - 1, by omega⟩
      rw [lsK_s, ble_f (by omega)]; rfl
set_option maxRecDepth 20000 in
theorem lp_Mo_next1 (σ : SM) (n P : Nat) (hn : 1 ≤ n ∧ n ≤ 8) (ho : ∀ k, k < n → σ 33 k = (dg P k : Int)) (sz : Nat) : ∀ (m : Nat) (ii : Int), m ≤ n - 1 → ii = (m : Int) - 1 → pvK P (n - 1) = pvK P m →
    V M_Mo_nextOrder 0 4 [some (vR 8), some (vI (n : Nat)), some (vI ii)] [] (hM σ) sz 0 0 (QN σ n P sz) := by
  intro m
  induction m with
  | zero =>
    intro ii hm hii hpv
    refine V.iload_n (pc := 4) 2 d_Mo_nextOrder_4 rfl rfl ?_
    refine V.if_lt (tgt := 31) (pc := 5) d_Mo_nextOrder_5 (by decide) (fun c_5 => ?_) (fun c_5 => ?_)
    · skip
      refine V.iload_n (pc := 31) 2 d_Mo_nextOrder_31 rfl rfl ?_
      refine V.if_ge (tgt := 37) (pc := 32) d_Mo_nextOrder_32 (by decide) (fun c_32 => ?_) (fun c_32 => ?_)
      · skip
        exfalso; omega
      · skip
        refine V.iconst (pc := 35) d_Mo_nextOrder_35 ⟨by decide, by decide⟩ ?_
        refine V.ret (pc := 36) (r := some (vI _)) d_Mo_nextOrder_36 (Or.inr ⟨rfl, Or.inl rfl⟩) rfl ?_
        exact ⟨rfl, Or.inl ⟨hpv, rfl, rfl⟩⟩
    · skip
      exfalso; omega
  | succ m ih =>
    intro ii hm hii hpv
    refine V.iload_n (pc := 4) 2 d_Mo_nextOrder_4 rfl rfl ?_
    refine V.if_lt (tgt := 31) (pc := 5) d_Mo_nextOrder_5 (by decide) (fun c_5 => ?_) (fun c_5 => ?_)
    · skip
      exfalso; omega
    · skip
      refine V.aload_n (pc := 8) 0 d_Mo_nextOrder_8 rfl rfl ?_
      refine V.getf (pc := 9) 33 cl_Mo fl_Mo_92_Mo d_Mo_nextOrder_9 (hM_o _) (Nat.le_of_ble_eq_true rfl) rfl ?_
      refine V.iload_n (pc := 12) 2 d_Mo_nextOrder_12 rfl rfl ?_
      refine V.iald (pc := 13) d_Mo_nextOrder_13 (ar_order _).1 (by omega) (by omega) ?_
      try simp (disch := omega) only [sset_n, sset_e]
      refine V.aload_n (pc := 14) 0 d_Mo_nextOrder_14 rfl rfl ?_
      refine V.getf (pc := 15) 33 cl_Mo fl_Mo_92_Mo d_Mo_nextOrder_15 (hM_o _) (Nat.le_of_ble_eq_true rfl) rfl ?_
      refine V.iload_n (pc := 18) 2 d_Mo_nextOrder_18 rfl rfl ?_
      refine V.iconst (pc := 19) d_Mo_nextOrder_19 ⟨by decide, by decide⟩ ?_
      refine V.iadd (pc := 20) d_Mo_nextOrder_20 ⟨by omega, by omega⟩ ?_
      refine V.iald (pc := 21) d_Mo_nextOrder_21 (ar_order _).1 (by omega) (by omega) ?_
      try simp (disch := omega) only [sset_n, sset_e]
      rw [show ii.toNat = m by omega, show (ii + 1).toNat = m + 1 by omega, ho m (by omega), ho (m + 1) (by omega)]
      refine V.icmp_le (tgt := 31) (pc := 22) d_Mo_nextOrder_22 (by decide) (fun c_22 => ?_) (fun c_22 => ?_)
      · skip
        refine V.iload_n (pc := 31) 2 d_Mo_nextOrder_31 rfl rfl ?_
        refine V.if_ge (tgt := 37) (pc := 32) d_Mo_nextOrder_32 (by decide) (fun c_32 => ?_) (fun c_32 => ?_)
        · skip
          refine V.iload_n (pc := 37) 1 d_Mo_nextOrder_37 rfl rfl ?_
          refine V.iconst (pc := 38) d_Mo_nextOrder_38 ⟨by decide, by decide⟩ ?_
          refine V.isub (pc := 39) d_Mo_nextOrder_39 ⟨by omega, by omega⟩ ?_
          refine V.istore_n (pc := 40) 3 d_Mo_nextOrder_40 rfl (Nat.le_of_ble_eq_true rfl) rfl ?_
          dsimp only [put]
          have hpv2 : pvK P (n - 1) = m + 1 := by rw [hpv, pvK_s, ble_t (by omega)]; rfl
          exact lp_Mo_next2 σ n P hn ho m (by omega) (by omega) ii (by omega) _ hpv2 (n - 1 - (m + 1)) (n - 1) _ (by omega) (by omega) (by omega) rfl
        · skip
          exfalso; omega
      · skip
        refine V.iinc (pc := 25) d_Mo_nextOrder_25 rfl ⟨by omega, by omega⟩ (Nat.le_of_ble_eq_true rfl) rfl ?_
        dsimp only [put]
        refine V.goto (tgt := 4) (pc := 28) d_Mo_nextOrder_28 (by decide) ?_
        refine ih _ (by omega) (by omega) ?_
        rw [hpv, pvK_s, ble_f (by omega)]; rfl
set_option maxRecDepth 20000 in
theorem ct_Mo_nextOrder (σ : SM) (n P : Nat) (hn : 1 ≤ n ∧ n ≤ 8) (ho : ∀ k, k < n → σ 33 k = (dg P k : Int)) (sz : Nat) : Ct M_Mo_nextOrder 0 0 0 [vR 8, vI (n : Nat)] (hM σ) sz (QN σ n P sz) := by
  refine Ct.of rfl (Nat.le_of_ble_eq_true rfl) ?_
  dsimp only [lsOf]
  refine V.iload_n (pc := 0) 1 d_Mo_nextOrder_0 rfl rfl ?_
  refine V.iconst (pc := 1) d_Mo_nextOrder_1 ⟨by decide, by decide⟩ ?_
  refine V.isub (pc := 2) d_Mo_nextOrder_2 ⟨by omega, by omega⟩ ?_
  refine V.istore_n (pc := 3) 2 d_Mo_nextOrder_3 rfl (Nat.le_of_ble_eq_true rfl) rfl ?_
  dsimp only [put]
  exact lp_Mo_next1 σ n P hn ho _ (n - 1) _ (Nat.le_refl _) (by omega) rfl
