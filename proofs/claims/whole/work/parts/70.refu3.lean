/-! THE REFERENCE: unlike, printed by wip/whole/gen/refu3.py -/
set_option maxRecDepth 20000 in
theorem lp_Mo_unl3 (σ : SM) (n : Nat) (hn : 1 ≤ n ∧ n ≤ 5) (al : Int) (hal : al = (EE n : Int)) (hA : EE n ≤ 42 ∧ 1 ≤ EE n) (x4 : Option MV) (τ : SM) (h1 : EU σ τ) (h2 : AJ n (EE n) (τ 22)) (h3 : UT n (EE n) τ) (h4 : τ 26 = upf (σ 26) n ((0 : Nat) : Int)) (sz : Nat) : ∀ (c k : Nat) (kk : Int) (g : Nat → Int), k + c = EE n * EE n → kk = k → (∀ y, y < k → g y = 0) →
    V M_Mo_unlike 3 130 [some (vR 8), some (vI (n : Nat)), some (vI al), some (vI kk), x4] [] (hM (sset τ 29 g)) sz 0 0 (QU σ n sz) := by
  intro c
  induction c with
  | zero =>
    intro k kk g hc hkk hg
    refine V.iload_n (pc := 130) 3 d_Mo_unlike_130 rfl rfl ?_
    refine V.iload_n (pc := 131) 2 d_Mo_unlike_131 rfl rfl ?_
    refine V.iload_n (pc := 132) 2 d_Mo_unlike_132 rfl rfl ?_
    have hmm := mb (x := al) (y := al) (by omega) (by omega)
    have hsq2 : al * al = ((EE n * EE n : Nat) : Int) := by rw [hal, Int.natCast_mul]
    have hsq : EE n * EE n ≤ 1764 := by have := Nat.mul_le_mul hA.1 hA.1; omega
    refine V.imul (pc := 133) d_Mo_unlike_133 ⟨by omega, by omega⟩ ?_
    refine V.icmp_ge (tgt := 150) (pc := 134) d_Mo_unlike_134 (by decide) (fun c_134 => ?_) (fun c_134 => ?_)
    · skip
      refine V.iconst (pc := 150) d_Mo_unlike_150 ⟨by decide, by decide⟩ ?_
      refine V.istore_n (pc := 151) 3 d_Mo_unlike_151 rfl (Nat.le_of_ble_eq_true rfl) rfl ?_
      dsimp only [put]
      obtain ⟨r, hr1, hr2⟩ := (UD hn.1 hn.2).2.1
      refine V.pad ?_
      refine V.pad ?_
      refine V.pad ?_
      refine V.pad ?_
      exact lp_Mo_unl2 σ n hn al hal hA r hr2 _ (EE n * EE n) 0 0 0 0 hr1 (by omega) rfl ⟨h1.put (by omega) g, h2, h3, by rw [sset_n (by decide)]; exact h4, fun y hy => by rw [sset_e, hg y (by omega), Nat.zero_testBit]; rfl, trivial⟩ (Nat.le_refl 0)
    · skip
      exfalso; omega
  | succ c ih =>
    intro k kk g hc hkk hg
    refine V.iload_n (pc := 130) 3 d_Mo_unlike_130 rfl rfl ?_
    refine V.iload_n (pc := 131) 2 d_Mo_unlike_131 rfl rfl ?_
    refine V.iload_n (pc := 132) 2 d_Mo_unlike_132 rfl rfl ?_
    have hmm := mb (x := al) (y := al) (by omega) (by omega)
    have hsq2 : al * al = ((EE n * EE n : Nat) : Int) := by rw [hal, Int.natCast_mul]
    have hsq : EE n * EE n ≤ 1764 := by have := Nat.mul_le_mul hA.1 hA.1; omega
    refine V.imul (pc := 133) d_Mo_unlike_133 ⟨by omega, by omega⟩ ?_
    refine V.icmp_ge (tgt := 150) (pc := 134) d_Mo_unlike_134 (by decide) (fun c_134 => ?_) (fun c_134 => ?_)
    · skip
      exfalso; omega
    · skip
      refine V.aload_n (pc := 137) 0 d_Mo_unlike_137 rfl rfl ?_
      refine V.getf (pc := 138) 29 cl_Mo fl_Mo_80_Mo d_Mo_unlike_138 (hM_o _) (Nat.le_of_ble_eq_true rfl) rfl ?_
      refine V.iload_n (pc := 141) 3 d_Mo_unlike_141 rfl rfl ?_
      refine V.iconst (pc := 142) d_Mo_unlike_142 ⟨by decide, by decide⟩ ?_
      refine V.zast (pc := 143) d_Mo_unlike_143 (ar_isDone _).1 (by omega) (by omega) (by omega) ?_
      rw [(ar_isDone _).2]
      refine V.iinc (pc := 144) d_Mo_unlike_144 rfl ⟨by omega, by omega⟩ (Nat.le_of_ble_eq_true rfl) rfl ?_
      dsimp only [put]
      refine V.goto (tgt := 130) (pc := 147) d_Mo_unlike_147 (by decide) ?_
      rw [sset_tw]
      refine ih (k + 1) _ _ (by omega) (by omega) (fun y hy => ?_)
      rw [show kk.toNat = k by omega]
      by_cases e : y = k
      · rw [e, upf_e]
      · rw [upf_n e]; exact hg y (by omega)
set_option maxRecDepth 20000 in
theorem lp_Mo_unl4 (σ : SM) (n : Nat) (hn : 1 ≤ n ∧ n ≤ 5) (al : Int) (hal : al = (EE n : Int)) (hA : EE n ≤ 42 ∧ 1 ≤ EE n) (sz : Nat) : ∀ (c i : Nat) (kk : Int) {x4 : Option MV} (τ : SM), EU σ τ → i + c = EE n → kk = i → AJ n (EE n) (τ 22) → UT n i τ → τ 26 = upf (σ 26) n ((0 : Nat) : Int) →
    V M_Mo_unlike 3 39 [some (vR 8), some (vI (n : Nat)), some (vI al), some (vI kk), x4] [] (hM τ) sz 0 0 (QU σ n sz) := by
  intro c
  induction c with
  | zero =>
    intro i kk x4 τ h1 hc hkk h2 h3 h4
    refine V.iload_n (pc := 39) 3 d_Mo_unlike_39 rfl rfl ?_
    refine V.iload_n (pc := 40) 2 d_Mo_unlike_40 rfl rfl ?_
    refine V.icmp_ge (tgt := 128) (pc := 41) d_Mo_unlike_41 (by decide) (fun c_41 => ?_) (fun c_41 => ?_)
    · skip
      refine V.iconst (pc := 128) d_Mo_unlike_128 ⟨by decide, by decide⟩ ?_
      refine V.istore_n (pc := 129) 3 d_Mo_unlike_129 rfl (Nat.le_of_ble_eq_true rfl) rfl ?_
      dsimp only [put]
      have e9 := fun s9 => lp_Mo_unl3 σ n hn al hal hA x4 τ h1 h2 (fun y hy => h3 y (by omega)) h4 s9 (EE n * EE n) 0 0 (τ 29) (by omega) rfl (fun y hy => by omega)
      rw [sset_id] at e9
      exact e9 _
    · skip
      exfalso; omega
  | succ c ih =>
    intro i kk x4 τ h1 hc hkk h2 h3 h4
    refine V.iload_n (pc := 39) 3 d_Mo_unlike_39 rfl rfl ?_
    refine V.iload_n (pc := 40) 2 d_Mo_unlike_40 rfl rfl ?_
    refine V.icmp_ge (tgt := 128) (pc := 41) d_Mo_unlike_41 (by decide) (fun c_41 => ?_) (fun c_41 => ?_)
    · skip
      exfalso; omega
    · skip
      have hEi := EE_int n
      have har := tls_arch (n := n) (i := (i : Int)) ⟨by omega, by omega⟩
      have e0 : (vI 0 : MV) = vI ((0 : Nat) : Int) := rfl
      have e14 : (vI (14 * kk) : MV) = vI ((14 * i : Nat) : Int) := by rw [show ((14 * i : Nat) : Int) = 14 * kk by omega]
      refine V.aload_n (pc := 44) 0 d_Mo_unlike_44 rfl rfl ?_
      refine V.aload_n (pc := 45) 0 d_Mo_unlike_45 rfl rfl ?_
      refine V.getf (pc := 46) 21 cl_Mo fl_Mo_59_Mo d_Mo_unlike_46 (hM_o _) (Nat.le_of_ble_eq_true rfl) rfl ?_
      refine V.iconst (pc := 49) d_Mo_unlike_49 ⟨by decide, by decide⟩ ?_
      refine V.aload_n (pc := 50) 0 d_Mo_unlike_50 rfl rfl ?_
      refine V.getf (pc := 51) 22 cl_Mo fl_Mo_62_Mo d_Mo_unlike_51 (hM_o _) (Nat.le_of_ble_eq_true rfl) rfl ?_
      refine V.bipush (pc := 54) d_Mo_unlike_54 ⟨by decide, by decide⟩ ?_
      refine V.iload_n (pc := 56) 3 d_Mo_unlike_56 rfl rfl ?_
      refine V.imul (pc := 57) d_Mo_unlike_57 ⟨by omega, by omega⟩ ?_
      refine V.iload_n (pc := 58) 1 d_Mo_unlike_58 rfl rfl ?_
      rw [e0, e14]
      refine V.cV5 (pc := 59) (kc2 := 0) (ks2 := 0) ml_Mo_181 (hM_o _) (ct_Mo_turnTo ar_allSigns ar_allJoined τ 0 (14 * i) n (by omega) (by decide) (by decide) (by omega) (by omega) (by decide) (fun q hq => by obtain ⟨r, k1, k2, -⟩ := pt_pair har hq; rw [h2 i (by omega) q hq, k1]; omega) _) d_Mo_unlike_59 (Nat.le_of_ble_eq_true rfl) (Nat.le_of_ble_eq_true rfl) (Nat.le_of_ble_eq_true rfl) (Nat.le_of_ble_eq_true rfl) ?_
      rintro _ _ _ ⟨rfl, rfl, g1, rfl, hg1, -⟩
      dsimp only [Option.toList, List.cons_append, List.nil_append]
      have hg1a : ∀ q, q < 2 * n → sset τ 21 g1 21 (0 + q) = tu (tls n (i : Int)) n q := fun q hq => by
        rw [sset_e, hg1 q hq, ← tuf_tu har hn.1 (fun p _ => tls_sg n i p) q hq]
        exact tuf_cong hn.1 (fun q hq => h2 i (by omega) q hq) hq
      have h1a := h1.put (k := 21) (by omega) g1
      refine V.aload_n (pc := 62) 0 d_Mo_unlike_62 rfl rfl ?_
      refine V.getf (pc := 63) 30 cl_Mo fl_Mo_83_Mo d_Mo_unlike_63 (hM_o _) (Nat.le_of_ble_eq_true rfl) rfl ?_
      refine V.iload_n (pc := 66) 3 d_Mo_unlike_66 rfl rfl ?_
      refine V.aload_n (pc := 67) 0 d_Mo_unlike_67 rfl rfl ?_
      refine V.aload_n (pc := 68) 0 d_Mo_unlike_68 rfl rfl ?_
      refine V.getf (pc := 69) 21 cl_Mo fl_Mo_59_Mo d_Mo_unlike_69 (hM_o _) (Nat.le_of_ble_eq_true rfl) rfl ?_
      refine V.iconst (pc := 72) d_Mo_unlike_72 ⟨by decide, by decide⟩ ?_
      refine V.iload_n (pc := 73) 1 d_Mo_unlike_73 rfl rfl ?_
      rw [e0]
      refine V.cV3 (pc := 74) (kc2 := 0) (ks2 := 0) ml_Mo_207 (hM_o _) (ct_Mo_rankOf ar_allSigns (by decide) (by decide) (by decide) (sset τ 21 g1) 0 n (by omega) (by omega) (tu (tls n (i : Int)) n) hg1a (arch_iff.mp (arch_tu har hn.1)).1 h1a.2 _) d_Mo_unlike_74 (Nat.le_of_ble_eq_true rfl) (Nat.le_of_ble_eq_true rfl) (Nat.le_of_ble_eq_true rfl) (Nat.le_of_ble_eq_true rfl) ?_
      rintro _ _ _ ⟨rfl, rfl, t2, rfl, hE2⟩
      dsimp only [Option.toList, List.cons_append, List.nil_append]
      rw [turn_rk hn.1 hn.2 (show i < EE n by omega)]
      have hu := (UD hn.1 hn.2).1 i (by omega)
      have h1b : EU σ t2 := ⟨fun j a1 a2 a3 a4 a5 a6 a7 a8 a9 a10 a11 a12 => (hE2.1 j a3 a4).trans (h1a.1 j a1 a2 a3 a4 a5 a6 a7 a8 a9 a10 a11 a12), hE2.2⟩
      have b22 : t2 22 = τ 22 := by rw [hE2.1 22 (by decide) (by decide), sset_n (by decide)]
      have b26 : t2 26 = τ 26 := by rw [hE2.1 26 (by decide) (by decide), sset_n (by decide)]
      have b30 : t2 30 = τ 30 := by rw [hE2.1 30 (by decide) (by decide), sset_n (by decide)]
      have b31 : t2 31 = τ 31 := by rw [hE2.1 31 (by decide) (by decide), sset_n (by decide)]
      refine V.iast (pc := 77) d_Mo_unlike_77 (ar_turned _).1 (by omega) (by omega) ?_
      rw [(ar_turned _).2]
      refine V.aload_n (pc := 78) 0 d_Mo_unlike_78 rfl rfl ?_
      refine V.aload_n (pc := 79) 0 d_Mo_unlike_79 rfl rfl ?_
      refine V.getf (pc := 80) 28 cl_Mo fl_Mo_77_Mo d_Mo_unlike_80 (hM_o _) (Nat.le_of_ble_eq_true rfl) rfl ?_
      refine V.iconst (pc := 83) d_Mo_unlike_83 ⟨by decide, by decide⟩ ?_
      refine V.iload_n (pc := 84) 1 d_Mo_unlike_84 rfl rfl ?_
      refine V.iload_n (pc := 85) 3 d_Mo_unlike_85 rfl rfl ?_
      rw [e0]
      refine V.cV4 (pc := 86) (kc2 := 0) (ks2 := 0) ml_Mo_177 (hM_o _) (ct_Mo_tell ar_open2 (by decide) (by decide) (by decide) _ 0 n (by omega) (by omega) kk (by rw [sset_n (by decide), sset_n (by decide)]; exact h1b.2) _) d_Mo_unlike_86 (Nat.le_of_ble_eq_true rfl) (Nat.le_of_ble_eq_true rfl) (Nat.le_of_ble_eq_true rfl) (Nat.le_of_ble_eq_true rfl) ?_
      rintro _ _ _ ⟨rfl, t3, rfl, hE3, hc3⟩
      rw [if_pos ⟨by omega, by omega⟩] at hc3
      obtain ⟨rfl, ho3, -⟩ := hc3
      dsimp only [Option.toList, List.cons_append, List.nil_append]
      have h1c := h1b.put (k := 30) (by omega) (upf (t2 30) kk.toNat (d6 (TTn n) i : Int))
      have h1d : EU σ t3 := ⟨fun j a1 a2 a3 a4 a5 a6 a7 a8 a9 a10 a11 a12 => (hE3.1 j a3 a4 a8).trans (h1c.1 j a1 a2 a3 a4 a5 a6 a7 a8 a9 a10 a11 a12), hE3.2⟩
      have c22 : t3 22 = τ 22 := by rw [hE3.1 22 (by decide) (by decide) (by decide), sset_n (by decide), b22]
      have c26 : t3 26 = τ 26 := by rw [hE3.1 26 (by decide) (by decide) (by decide), sset_n (by decide), b26]
      have c30 : t3 30 = upf (τ 30) i (d6 (TTn n) i : Int) := by rw [hE3.1 30 (by decide) (by decide) (by decide), sset_e, b30, show kk.toNat = i by omega]
      have c31 : t3 31 = τ 31 := by rw [hE3.1 31 (by decide) (by decide) (by decide), sset_n (by decide), b31]
      have ho3b : ∀ q, q < 2 * n → t3 28 (0 + q) = tls n (i : Int) q := fun q hq => by rw [ho3 q hq, hkk]
      refine V.istore (pc := 89) d_Mo_unlike_89 (Nat.le_of_ble_eq_true rfl) rfl ?_
      dsimp only [put]
      refine V.aload_n (pc := 91) 0 d_Mo_unlike_91 rfl rfl ?_
      refine V.aload_n (pc := 92) 0 d_Mo_unlike_92 rfl rfl ?_
      refine V.getf (pc := 93) 21 cl_Mo fl_Mo_59_Mo d_Mo_unlike_93 (hM_o _) (Nat.le_of_ble_eq_true rfl) rfl ?_
      refine V.iconst (pc := 96) d_Mo_unlike_96 ⟨by decide, by decide⟩ ?_
      refine V.aload_n (pc := 97) 0 d_Mo_unlike_97 rfl rfl ?_
      refine V.getf (pc := 98) 28 cl_Mo fl_Mo_77_Mo d_Mo_unlike_98 (hM_o _) (Nat.le_of_ble_eq_true rfl) rfl ?_
      refine V.iconst (pc := 101) d_Mo_unlike_101 ⟨by decide, by decide⟩ ?_
      refine V.iload_n (pc := 102) 1 d_Mo_unlike_102 rfl rfl ?_
      rw [e0]
      refine V.cV5 (pc := 103) (kc2 := 0) (ks2 := 0) ml_Mo_185 (hM_o _) (ct_Mo_mirrorTo ar_allSigns ar_open2 t3 0 0 n (by omega) (by decide) (by decide) (by omega) (by omega) (fun e => absurd e (by decide)) (fun q hq => by rw [ho3b q hq]; exact tls_sg n i q) _) d_Mo_unlike_103 (Nat.le_of_ble_eq_true rfl) (Nat.le_of_ble_eq_true rfl) (Nat.le_of_ble_eq_true rfl) (Nat.le_of_ble_eq_true rfl) ?_
      rintro _ _ _ ⟨rfl, rfl, g4, rfl, hg4, -⟩
      dsimp only [Option.toList, List.cons_append, List.nil_append]
      have hg4a : ∀ q, q < 2 * n → sset t3 21 g4 21 (0 + q) = mi (tls n (i : Int)) n q := fun q hq => by
        rw [sset_e, hg4 q hq]
        show - t3 28 (0 + (2 * n - 1 - q)) = - tls n (i : Int) (2 * n - 1 - q)
        rw [ho3b _ (by omega)]
      have h1e := h1d.put (k := 21) (by omega) g4
      refine V.aload_n (pc := 106) 0 d_Mo_unlike_106 rfl rfl ?_
      refine V.getf (pc := 107) 31 cl_Mo fl_Mo_86_Mo d_Mo_unlike_107 (hM_o _) (Nat.le_of_ble_eq_true rfl) rfl ?_
      refine V.iload_n (pc := 110) 3 d_Mo_unlike_110 rfl rfl ?_
      refine V.aload_n (pc := 111) 0 d_Mo_unlike_111 rfl rfl ?_
      refine V.aload_n (pc := 112) 0 d_Mo_unlike_112 rfl rfl ?_
      refine V.getf (pc := 113) 21 cl_Mo fl_Mo_59_Mo d_Mo_unlike_113 (hM_o _) (Nat.le_of_ble_eq_true rfl) rfl ?_
      refine V.iconst (pc := 116) d_Mo_unlike_116 ⟨by decide, by decide⟩ ?_
      refine V.iload_n (pc := 117) 1 d_Mo_unlike_117 rfl rfl ?_
      rw [e0]
      refine V.cV3 (pc := 118) (kc2 := 0) (ks2 := 0) ml_Mo_207 (hM_o _) (ct_Mo_rankOf ar_allSigns (by decide) (by decide) (by decide) (sset t3 21 g4) 0 n (by omega) (by omega) (mi (tls n (i : Int)) n) hg4a (arch_iff.mp (arch_mi (fun p _ => tls_sg n i p) har)).1 h1e.2 _) d_Mo_unlike_118 (Nat.le_of_ble_eq_true rfl) (Nat.le_of_ble_eq_true rfl) (Nat.le_of_ble_eq_true rfl) (Nat.le_of_ble_eq_true rfl) ?_
      rintro _ _ _ ⟨rfl, rfl, t5, rfl, hE5⟩
      dsimp only [Option.toList, List.cons_append, List.nil_append]
      rw [mirror_rk hn.1 hn.2 (show i < EE n by omega)]
      have h1f : EU σ t5 := ⟨fun j a1 a2 a3 a4 a5 a6 a7 a8 a9 a10 a11 a12 => (hE5.1 j a3 a4).trans (h1e.1 j a1 a2 a3 a4 a5 a6 a7 a8 a9 a10 a11 a12), hE5.2⟩
      have d22 : t5 22 = τ 22 := by rw [hE5.1 22 (by decide) (by decide), sset_n (by decide), c22]
      have d26 : t5 26 = τ 26 := by rw [hE5.1 26 (by decide) (by decide), sset_n (by decide), c26]
      have d30 : t5 30 = upf (τ 30) i (d6 (TTn n) i : Int) := by rw [hE5.1 30 (by decide) (by decide), sset_n (by decide), c30]
      have d31 : t5 31 = τ 31 := by rw [hE5.1 31 (by decide) (by decide), sset_n (by decide), c31]
      refine V.iast (pc := 121) d_Mo_unlike_121 (ar_mirrored _).1 (by omega) (by omega) ?_
      rw [(ar_mirrored _).2]
      refine V.iinc (pc := 122) d_Mo_unlike_122 rfl ⟨by omega, by omega⟩ (Nat.le_of_ble_eq_true rfl) rfl ?_
      dsimp only [put]
      refine V.goto (tgt := 39) (pc := 125) d_Mo_unlike_125 (by decide) ?_
      refine ih (i + 1) _ _ (h1f.put (k := 31) (by omega) _) (by omega) (by omega) ?_ ?_ ?_
      · rw [sset_n (by decide), d22]; exact h2
      · intro y hy
        rw [sset_n (by decide), sset_e, d30, d31, show kk.toNat = i by omega]
        by_cases e : y = i
        · rw [e, upf_e, upf_e]; exact ⟨rfl, rfl⟩
        · rw [upf_n e, upf_n e]; exact h3 y (by omega)
      · rw [sset_n (by decide), d26]; exact h4
theorem V.post {M : MD} {d pc : Nat} {ls : List (Option MV)} {st : List MV} {h : MH} {sz kc ks : Nat} {Q Q2 : QT} (k : V M d pc ls st h sz kc ks Q) (hq : ∀ r h s, Q r h s → Q2 r h s) : V M d pc ls st h sz kc ks Q2 := by
  intro p l e R s m args below meth c Z E F cM sM C1
  obtain ⟨c1, c2, c3, c4, c5⟩ := C1
  exact k p l e R s m args below meth c Z E F cM sM ⟨c1, c2, c3, c4, fun H locs lv pc r h sz a1 a2 a3 a4 a5 a6 a7 => c5 H locs lv pc r h sz a1 a2 a3 a4 a5 (hq _ _ _ a6) a7⟩
theorem unlT_b {n : Nat} (h1 : 1 ≤ n) (h5 : n ≤ 5) : 1 ≤ unlT n := by
  have : ∀ n : Fin 6, 1 ≤ n.val → 1 ≤ unlT n.val := by decide +kernel
  exact this ⟨n, by omega⟩ h1
def sp_unlike (S : SS) (n : Int) : Int × SS := if 1 ≤ n ∧ n ≤ 5 then (unlT n.toNat, S) else (-1000001, S)
theorem RI.eu {S : SS} {σ τ : SM} (hI : RI S σ) (h : EU σ τ) {n : Nat} (h1 : 1 ≤ n) (h5 : n ≤ 5) (h26 : τ 26 = upf (σ 26) n (unlT n)) : RI S τ := by
  obtain ⟨g1, g2, g3, g4, g5, g6, g7⟩ := hI
  have e : ∀ j, j ≠ 13 → j ≠ 14 → j ≠ 19 → j ≠ 20 → j ≠ 21 → j ≠ 22 → j ≠ 26 → j ≠ 28 → j ≠ 29 → j ≠ 30 → j ≠ 31 → j ≠ 32 → τ j = σ j := h.1
  refine ⟨?_, ?_, ?_, h.2, ?_, ?_, ?_⟩
  · rw [e 0 (by decide) (by decide) (by decide) (by decide) (by decide) (by decide) (by decide) (by decide) (by decide) (by decide) (by decide) (by decide), e 1 (by decide) (by decide) (by decide) (by decide) (by decide) (by decide) (by decide) (by decide) (by decide) (by decide) (by decide) (by decide), e 2 (by decide) (by decide) (by decide) (by decide) (by decide) (by decide) (by decide) (by decide) (by decide) (by decide) (by decide) (by decide)]; exact g1
  · rw [e 4 (by decide) (by decide) (by decide) (by decide) (by decide) (by decide) (by decide) (by decide) (by decide) (by decide) (by decide) (by decide), e 5 (by decide) (by decide) (by decide) (by decide) (by decide) (by decide) (by decide) (by decide) (by decide) (by decide) (by decide) (by decide), e 6 (by decide) (by decide) (by decide) (by decide) (by decide) (by decide) (by decide) (by decide) (by decide) (by decide) (by decide) (by decide), e 7 (by decide) (by decide) (by decide) (by decide) (by decide) (by decide) (by decide) (by decide) (by decide) (by decide) (by decide) (by decide), e 8 (by decide) (by decide) (by decide) (by decide) (by decide) (by decide) (by decide) (by decide) (by decide) (by decide) (by decide) (by decide), e 9 (by decide) (by decide) (by decide) (by decide) (by decide) (by decide) (by decide) (by decide) (by decide) (by decide) (by decide) (by decide)]; exact g2
  · rw [e 10 (by decide) (by decide) (by decide) (by decide) (by decide) (by decide) (by decide) (by decide) (by decide) (by decide) (by decide) (by decide), e 11 (by decide) (by decide) (by decide) (by decide) (by decide) (by decide) (by decide) (by decide) (by decide) (by decide) (by decide) (by decide), e 12 (by decide) (by decide) (by decide) (by decide) (by decide) (by decide) (by decide) (by decide) (by decide) (by decide) (by decide) (by decide)]; exact g3
  · rw [e 24 (by decide) (by decide) (by decide) (by decide) (by decide) (by decide) (by decide) (by decide) (by decide) (by decide) (by decide) (by decide), e 25 (by decide) (by decide) (by decide) (by decide) (by decide) (by decide) (by decide) (by decide) (by decide) (by decide) (by decide) (by decide)]; exact g5
  · intro m m1 m5
    rw [h26]
    by_cases e9 : m = n
    · rw [e9, upf_e]; exact Or.inr rfl
    · rw [upf_n e9]; exact g6 m m1 m5
  · rw [e 27 (by decide) (by decide) (by decide) (by decide) (by decide) (by decide) (by decide) (by decide) (by decide) (by decide) (by decide) (by decide)]; exact g7
set_option maxRecDepth 20000 in
theorem cs_Mo_unlike (S : SS) (σ : SM) (hI : RI S σ) (n : Int) (sz : Nat) : Ct M_Mo_unlike 3 0 0 [vR 8, vI n] (hM σ) sz (QS (sp_unlike S n) sz) := by
  refine Ct.of rfl (Nat.le_of_ble_eq_true rfl) ?_
  dsimp only [lsOf]
  refine V.iload_n (pc := 0) 1 d_Mo_unlike_0 rfl rfl ?_
  refine V.i2l (pc := 1) d_Mo_unlike_1 ?_
  refine V.lconst1 (pc := 2) d_Mo_unlike_2 ?_
  refine V.ldc2 (pc := 3) (5) ck_Mo_219 rfl ⟨by decide, by decide⟩ d_Mo_unlike_3 ?_
  refine V.cS3 (pc := 6) (kc2 := 0) (ks2 := 0) ml_Mo_102 (ct_Mo_in _ _ _ _ _) d_Mo_unlike_6 (Nat.le_of_ble_eq_true rfl) (Nat.le_of_ble_eq_true rfl) (Nat.le_of_ble_eq_true rfl) (Nat.le_of_ble_eq_true rfl) ?_
  rintro _ _ _ ⟨rfl, rfl, rfl⟩
  dsimp only [Option.toList, List.cons_append, List.nil_append]
  refine V.ifB_ne (tgt := 15) (pc := 9) d_Mo_unlike_9 (by decide) (fun c_9 => ?_) (fun c_9 => ?_)
  · skip
    refine V.aload_n (pc := 15) 0 d_Mo_unlike_15 rfl rfl ?_
    refine V.getf (pc := 16) 26 cl_Mo fl_Mo_71_Mo d_Mo_unlike_16 (hM_o _) (Nat.le_of_ble_eq_true rfl) rfl ?_
    refine V.iload_n (pc := 19) 1 d_Mo_unlike_19 rfl rfl ?_
    refine V.iald (pc := 20) d_Mo_unlike_20 (ar_unlikes _).1 (by omega) (by omega) ?_
    try simp (disch := omega) only [sset_n, sset_e]
    refine V.if_le (tgt := 31) (pc := 21) d_Mo_unlike_21 (by decide) (fun c_21 => ?_) (fun c_21 => ?_)
    · skip
      refine V.aload_n (pc := 31) 0 d_Mo_unlike_31 rfl rfl ?_
      refine V.iload_n (pc := 32) 1 d_Mo_unlike_32 rfl rfl ?_
      have en : (vI n : MV) = vI (n.toNat : Int) := by rw [show ((n.toNat : Nat) : Int) = n by omega]
      rw [en]
      refine V.cV1 (pc := 33) (kc2 := 0) (ks2 := 0) ml_Mo_213 (hM_o _) (ct_Mo_tellAll σ n.toNat (by omega) hI.2.2.2.1 _) d_Mo_unlike_33 (Nat.le_of_ble_eq_true rfl) (Nat.le_of_ble_eq_true rfl) (Nat.le_of_ble_eq_true rfl) (Nat.le_of_ble_eq_true rfl) ?_
      rintro _ _ _ ⟨rfl, rfl, t2, rfl, hEA, hAJ⟩
      dsimp only [Option.toList, List.cons_append, List.nil_append]
      have hb0 := En_24 (show 2 * n.toNat ≤ 24 by omega) 0
      have hEi := EE_int n.toNat
      have hu0 : σ 26 n.toNat = 0 := by
        rcases hI.2.2.2.2.2.1 n.toNat (by omega) (by omega) with h | h
        · exact h
        · have := unlT_b (show 1 ≤ n.toNat by omega) (show n.toNat ≤ 5 by omega)
          omega
      refine V.istore_n (pc := 36) 2 d_Mo_unlike_36 rfl (Nat.le_of_ble_eq_true rfl) rfl ?_
      dsimp only [put]
      refine V.iconst (pc := 37) d_Mo_unlike_37 ⟨by decide, by decide⟩ ?_
      refine V.istore_n (pc := 38) 3 d_Mo_unlike_38 rfl (Nat.le_of_ble_eq_true rfl) rfl ?_
      dsimp only [put]
      refine V.pad ?_
      refine V.post (lp_Mo_unl4 σ n.toNat (by omega) _ hEi.symm (UD (by omega) (by omega)).2.2 _ (EE n.toNat) 0 0 (x4 := none) t2 ⟨fun j a1 a2 a3 a4 a5 a6 a7 a8 a9 a10 a11 a12 => hEA.1 j a1 a3 a4 a5 a6 a8, hEA.2⟩ (by omega) rfl hAJ (fun y hy => by omega) ?_) ?_
      · rw [hEA.1 26 (by decide) (by decide) (by decide) (by decide) (by decide) (by decide)]
        funext y
        by_cases e : y = n.toNat
        · rw [e, upf_e, hu0]; rfl
        · rw [upf_n e]
      · rintro r9 h9 s9 ⟨rfl, rfl, t9, rfl, hE9, h26⟩
        refine qs_of (S2 := S) ?_ (hI.eu hE9 (by omega) (by omega) h26)
        unfold sp_unlike; rw [if_pos (by omega)]
    · skip
      refine V.aload_n (pc := 24) 0 d_Mo_unlike_24 rfl rfl ?_
      refine V.getf (pc := 25) 26 cl_Mo fl_Mo_71_Mo d_Mo_unlike_25 (hM_o _) (Nat.le_of_ble_eq_true rfl) rfl ?_
      refine V.iload_n (pc := 28) 1 d_Mo_unlike_28 rfl rfl ?_
      refine V.iald (pc := 29) d_Mo_unlike_29 (ar_unlikes _).1 (by omega) (by omega) ?_
      try simp (disch := omega) only [sset_n, sset_e]
      refine V.ret (pc := 30) (r := some (vI _)) d_Mo_unlike_30 (Or.inl rfl) rfl ?_
      refine qs_of (S2 := S) ?_ hI
      unfold sp_unlike; rw [if_pos (by omega)]
      rcases hI.2.2.2.2.2.1 n.toNat (by omega) (by omega) with h | h
      · omega
      · rw [h]
  · skip
    refine V.ldc (pc := 12) (-1000001) ck_Mo_112 rfl ⟨by decide, by decide⟩ d_Mo_unlike_12 ?_
    refine V.ret (pc := 14) (r := some (vI _)) d_Mo_unlike_14 (Or.inl rfl) rfl ?_
    exact qs_of (by unfold sp_unlike; rw [if_neg (by omega)]) hI
