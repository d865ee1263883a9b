/-! THE REFERENCE: tellAll, printed by wip/whole/gen/refU.py -/
def EA (σ τ : SM) : Prop := (∀ j, j ≠ 13 → j ≠ 19 → j ≠ 20 → j ≠ 21 → j ≠ 22 → j ≠ 28 → τ j = σ j) ∧ R_en (τ 19) (τ 20)
theorem EA.te {σ τ υ : SM} (h : EA σ τ) (g : EK 21 τ υ) : EA σ υ := ⟨fun j h1 h2 h3 h4 h5 h6 => (g.1 j h2 h3 h4).trans (h.1 j h1 h2 h3 h4 h5 h6), g.2⟩
theorem EA.put {σ τ : SM} (h : EA σ τ) {k : Nat} (hk : k = 13 ∨ k = 21 ∨ k = 22 ∨ k = 28) (f : Nat → Int) : EA σ (sset τ k f) := ⟨fun j h1 h2 h3 h4 h5 h6 => (sset_n (by omega)).trans (h.1 j h1 h2 h3 h4 h5 h6), by rw [sset_n (by omega), sset_n (by omega)]; exact h.2⟩
theorem En_7 : ∀ n : Nat, n ≤ 7 → En (2 * n) 0 ≤ 429 := by
  intro n hn
  have : ∀ n : Fin 8, En (2 * n.val) 0 ≤ 429 := by decide +kernel
  exact this ⟨n, by omega⟩
/-- all rows of arches of n are told -/
def AJ (n m : Nat) (g : Nat → Int) : Prop := ∀ i, i < m → ∀ q, q < 2 * n → g (14 * i + q) = pt (tls n (i : Int)) n q
def QA (σ : SM) (n sz : Nat) : QT := fun r h s => s = sz ∧ r = some (vI (En (2 * n) 0)) ∧ ∃ τ, h = hM τ ∧ EA σ τ ∧ AJ n (En (2 * n) 0).toNat (τ 22)
set_option maxRecDepth 20000 in
theorem lp_Mo_tellAll1 (n i : Nat) (hn : 1 ≤ n ∧ n ≤ 7) (hi : i < 429) (al ii z : Int) (hii : ii = i) (τ : SM) (sz : Nat) (Q : QT) (K : ∀ g : Nat → Int, (∀ q, q < 2 * n → g (14 * i + q) = τ 28 q) → (∀ j, (j < 14 * i ∨ 14 * i + 2 * n ≤ j) → g j = τ 22 j) → ∀ y, V M_Mo_tellAll 2 11 [some (vR 8), some (vI (n : Nat)), some (vI al), some (vI (ii + 1)), some (vI z), y] [] (hM (sset τ 22 g)) sz 0 0 Q) : ∀ (c p : Nat) (pp : Int) (g : Nat → Int), p + c = 2 * n → pp = p → (∀ q, q < p → g (14 * i + q) = τ 28 q) → (∀ j, (j < 14 * i ∨ 14 * i + 2 * n ≤ j) → g j = τ 22 j) →
    V M_Mo_tellAll 2 48 [some (vR 8), some (vI (n : Nat)), some (vI al), some (vI ii), some (vI z), some (vI pp)] [] (hM (sset τ 22 g)) sz 0 0 Q := by
  intro c
  induction c with
  | zero =>
    intro p pp g hc hpp hg hf
    refine V.iload (pc := 48) d_Mo_tellAll_48 rfl ?_
    refine V.iconst (pc := 50) d_Mo_tellAll_50 ⟨by decide, by decide⟩ ?_
    refine V.iload_n (pc := 51) 1 d_Mo_tellAll_51 rfl rfl ?_
    refine V.imul (pc := 52) d_Mo_tellAll_52 ⟨by omega, by omega⟩ ?_
    refine V.icmp_ge (tgt := 81) (pc := 53) d_Mo_tellAll_53 (by decide) (fun c_53 => ?_) (fun c_53 => ?_)
    · skip
      refine V.iinc (pc := 81) d_Mo_tellAll_81 rfl ⟨by omega, by omega⟩ (Nat.le_of_ble_eq_true rfl) rfl ?_
      dsimp only [put]
      refine V.goto (tgt := 11) (pc := 84) d_Mo_tellAll_84 (by decide) ?_
      exact K g (fun q hq => hg q (by omega)) hf _
    · skip
      exfalso; omega
  | succ c ih =>
    intro p pp g hc hpp hg hf
    refine V.iload (pc := 48) d_Mo_tellAll_48 rfl ?_
    refine V.iconst (pc := 50) d_Mo_tellAll_50 ⟨by decide, by decide⟩ ?_
    refine V.iload_n (pc := 51) 1 d_Mo_tellAll_51 rfl rfl ?_
    refine V.imul (pc := 52) d_Mo_tellAll_52 ⟨by omega, by omega⟩ ?_
    refine V.icmp_ge (tgt := 81) (pc := 53) d_Mo_tellAll_53 (by decide) (fun c_53 => ?_) (fun c_53 => ?_)
    · skip
      exfalso; omega
    · skip
      refine V.aload_n (pc := 56) 0 d_Mo_tellAll_56 rfl rfl ?_
      refine V.getf (pc := 57) 22 cl_Mo fl_Mo_62_Mo d_Mo_tellAll_57 (hM_o _) (Nat.le_of_ble_eq_true rfl) rfl ?_
      refine V.bipush (pc := 60) d_Mo_tellAll_60 ⟨by decide, by decide⟩ ?_
      refine V.iload_n (pc := 62) 3 d_Mo_tellAll_62 rfl rfl ?_
      refine V.imul (pc := 63) d_Mo_tellAll_63 ⟨by omega, by omega⟩ ?_
      refine V.iload (pc := 64) d_Mo_tellAll_64 rfl ?_
      refine V.iadd (pc := 66) d_Mo_tellAll_66 ⟨by omega, by omega⟩ ?_
      refine V.aload_n (pc := 67) 0 d_Mo_tellAll_67 rfl rfl ?_
      refine V.getf (pc := 68) 28 cl_Mo fl_Mo_77_Mo d_Mo_tellAll_68 (hM_o _) (Nat.le_of_ble_eq_true rfl) rfl ?_
      refine V.iload (pc := 71) d_Mo_tellAll_71 rfl ?_
      refine V.iald (pc := 73) d_Mo_tellAll_73 (ar_open2 _).1 (by omega) (by omega) ?_
      try simp (disch := omega) only [sset_n, sset_e]
      refine V.iast (pc := 74) d_Mo_tellAll_74 (ar_allJoined _).1 (by omega) (by omega) ?_
      rw [(ar_allJoined _).2]
      refine V.iinc (pc := 75) d_Mo_tellAll_75 rfl ⟨by omega, by omega⟩ (Nat.le_of_ble_eq_true rfl) rfl ?_
      dsimp only [put]
      refine V.goto (tgt := 48) (pc := 78) d_Mo_tellAll_78 (by decide) ?_
      rw [show sset (sset τ 22 g) 22 = sset τ 22 from funext (fun f => sset_tw)]
      refine ih (p + 1) _ _ (by omega) (by omega) (fun q hq => ?_) (fun j hj => ?_)
      · rw [show ((14 : Int) * ii + pp).toNat = 14 * i + p by omega, sset_e]
        by_cases e : q = p
        · rw [e, upf_e, show pp.toNat = p by omega]; try rw [sset_n (by decide)]
        · rw [upf_n (by omega)]; exact hg q (by omega)
      · rw [show ((14 : Int) * ii + pp).toNat = 14 * i + p by omega, sset_e, upf_n (by omega)]; exact hf j hj
set_option maxRecDepth 20000 in
theorem lp_Mo_tellAll2 (σ : SM) (n : Nat) (hn : 1 ≤ n ∧ n ≤ 7) (al : Int) (hal : al = En (2 * n) 0) (hal2 : 0 ≤ al ∧ al ≤ 429) : ∀ (c : Nat) (sz i : Nat) (ii : Int) (x y : Option MV) (τ : SM), EA σ τ → (i : Int) + c = al → ii = i → AJ n i (τ 22) →
    V M_Mo_tellAll 2 11 [some (vR 8), some (vI (n : Nat)), some (vI al), some (vI ii), x, y] [] (hM τ) sz 0 0 (QA σ n sz) := by
  intro c
  induction c with
  | zero =>
    intro sz i ii x y τ h0 hc hii hj
    refine V.iload_n (pc := 11) 3 d_Mo_tellAll_11 rfl rfl ?_
    refine V.iload_n (pc := 12) 2 d_Mo_tellAll_12 rfl rfl ?_
    refine V.icmp_ge (tgt := 87) (pc := 13) d_Mo_tellAll_13 (by decide) (fun c_13 => ?_) (fun c_13 => ?_)
    · skip
      refine V.iload_n (pc := 87) 2 d_Mo_tellAll_87 rfl rfl ?_
      refine V.ret (pc := 88) (r := some (vI _)) d_Mo_tellAll_88 (Or.inl rfl) rfl ?_
      exact ⟨rfl, by rw [hal], τ, rfl, h0, fun i2 hi2 => hj i2 (by omega)⟩
    · skip
      exfalso; omega
  | succ c ih =>
    intro sz i ii x y τ h0 hc hii hj
    refine V.iload_n (pc := 11) 3 d_Mo_tellAll_11 rfl rfl ?_
    refine V.iload_n (pc := 12) 2 d_Mo_tellAll_12 rfl rfl ?_
    refine V.icmp_ge (tgt := 87) (pc := 13) d_Mo_tellAll_13 (by decide) (fun c_13 => ?_) (fun c_13 => ?_)
    · skip
      exfalso; omega
    · skip
      refine V.aload_n (pc := 16) 0 d_Mo_tellAll_16 rfl rfl ?_
      refine V.aload_n (pc := 17) 0 d_Mo_tellAll_17 rfl rfl ?_
      refine V.getf (pc := 18) 21 cl_Mo fl_Mo_59_Mo d_Mo_tellAll_18 (hM_o _) (Nat.le_of_ble_eq_true rfl) rfl ?_
      refine V.iconst (pc := 21) d_Mo_tellAll_21 ⟨by decide, by decide⟩ ?_
      refine V.iload_n (pc := 22) 1 d_Mo_tellAll_22 rfl rfl ?_
      refine V.iload_n (pc := 23) 3 d_Mo_tellAll_23 rfl rfl ?_
      have e0 : (vI 0 : MV) = vI ((0 : Nat) : Int) := rfl
      rw [e0]
      refine V.cV4 (pc := 24) (kc2 := 0) (ks2 := 0) ml_Mo_177 (hM_o _) (ct_Mo_tell ar_allSigns (by decide) (by decide) (by decide) τ 0 n (by omega) (by omega) ii h0.2 _) d_Mo_tellAll_24 (Nat.le_of_ble_eq_true rfl) (Nat.le_of_ble_eq_true rfl) (Nat.le_of_ble_eq_true rfl) (Nat.le_of_ble_eq_true rfl) ?_
      rintro _ _ _ ⟨rfl, t1, rfl, h1, hc1⟩
      rw [if_pos ⟨by omega, by omega⟩] at hc1
      obtain ⟨rfl, ho, hf1⟩ := hc1
      dsimp only [Option.toList, List.cons_append, List.nil_append]
      refine V.istore (pc := 27) d_Mo_tellAll_27 (Nat.le_of_ble_eq_true rfl) rfl ?_
      dsimp only [put]
      refine V.aload_n (pc := 29) 0 d_Mo_tellAll_29 rfl rfl ?_
      refine V.aload_n (pc := 30) 0 d_Mo_tellAll_30 rfl rfl ?_
      refine V.getf (pc := 31) 21 cl_Mo fl_Mo_59_Mo d_Mo_tellAll_31 (hM_o _) (Nat.le_of_ble_eq_true rfl) rfl ?_
      refine V.aload_n (pc := 34) 0 d_Mo_tellAll_34 rfl rfl ?_
      refine V.getf (pc := 35) 28 cl_Mo fl_Mo_77_Mo d_Mo_tellAll_35 (hM_o _) (Nat.le_of_ble_eq_true rfl) rfl ?_
      refine V.iconst (pc := 38) d_Mo_tellAll_38 ⟨by decide, by decide⟩ ?_
      refine V.iload_n (pc := 39) 1 d_Mo_tellAll_39 rfl rfl ?_
      have e0 : (vI 0 : MV) = vI ((0 : Nat) : Int) := rfl
      rw [e0]
      refine V.cV4 (pc := 40) (kc2 := 0) (ks2 := 0) ml_Mo_122 (hM_o _) (ct_Mo_joins ar_allSigns ar_open2 (by decide) (by decide) (by decide) t1 0 n (by omega) (by omega) (by omega) (by decide) _) d_Mo_tellAll_40 (Nat.le_of_ble_eq_true rfl) (Nat.le_of_ble_eq_true rfl) (Nat.le_of_ble_eq_true rfl) (Nat.le_of_ble_eq_true rfl) ?_
      rintro _ _ _ ⟨rfl, fo, ft, rfl, hf2, rfl, hp2⟩
      dsimp only [Option.toList, List.cons_append, List.nil_append]
      have hcg : ∀ q, q < 2 * n → (0 < (fun q => t1 21 (0 + q)) q ↔ 0 < tls n (i : Int) q) := fun q hq => by
        show 0 < t1 21 (0 + q) ↔ _
        rw [ho q hq, hii]
      have hp3 := hp2 ((arch_cong hcg).mpr (tls_arch ⟨by omega, by omega⟩))
      rw [pt_cong hcg] at hp3
      refine V.istore (pc := 43) d_Mo_tellAll_43 (Nat.le_of_ble_eq_true rfl) rfl ?_
      dsimp only [put]
      refine V.iconst (pc := 45) d_Mo_tellAll_45 ⟨by decide, by decide⟩ ?_
      refine V.istore (pc := 46) d_Mo_tellAll_46 (Nat.le_of_ble_eq_true rfl) rfl ?_
      dsimp only [put]
      have h2 := ((h0.te h1).put (k := 13) (by omega) fo).put (k := 28) (by omega) ft
      have e22 : sset (sset t1 13 fo) 28 ft 22 = τ 22 := by rw [sset_n (by decide), sset_n (by decide)]; exact h1.1 22 (by decide) (by decide) (by decide)
      have e28 : sset (sset t1 13 fo) 28 ft 28 = ft := sset_e
      generalize sset (sset t1 13 fo) 28 ft = t2 at h2 e22 e28 ⊢
      have := fun s9 => lp_Mo_tellAll1 n i hn (by omega) al ii (if arch (fun q => t1 21 (0 + q)) n then 1 else 0) hii t2 s9 (QA σ n s9) (fun g k1 k2 y => ih s9 (i + 1) _ _ _ _ (h2.put (k := 22) (by omega) g) (by omega) (by omega) (fun i2 hi2 q hq => by
        rw [sset_e]
        by_cases e : i2 = i
        · rw [e, k1 q hq, e28]
          have := hp3 q hq
          rw [show 0 + q = q by omega] at this
          exact this
        · rw [k2 _ (by omega), e22]; exact hj i2 (by omega) q hq)) (2 * n) 0 0 (t2 22) (by omega) rfl (fun q hq => by omega) (fun j hj => rfl)
      simp only [sset_id] at this
      exact this _
set_option maxRecDepth 20000 in
theorem ct_Mo_tellAll (σ : SM) (n : Nat) (hn : 1 ≤ n ∧ n ≤ 7) (hR : R_en (σ 19) (σ 20)) (sz : Nat) : Ct M_Mo_tellAll 2 0 0 [vR 8, vI (n : Nat)] (hM σ) sz (QA σ n sz) := by
  refine Ct.of rfl (Nat.le_of_ble_eq_true rfl) ?_
  dsimp only [lsOf]
  refine V.aload_n (pc := 0) 0 d_Mo_tellAll_0 rfl rfl ?_
  refine V.iconst (pc := 1) d_Mo_tellAll_1 ⟨by decide, by decide⟩ ?_
  refine V.iload_n (pc := 2) 1 d_Mo_tellAll_2 rfl rfl ?_
  refine V.imul (pc := 3) d_Mo_tellAll_3 ⟨by omega, by omega⟩ ?_
  refine V.iconst (pc := 4) d_Mo_tellAll_4 ⟨by decide, by decide⟩ ?_
  refine V.cV2 (pc := 5) (kc2 := 0) (ks2 := 0) ml_Mo_172 (hM_o _) (ct_Mo_endsOf σ hR _ _ (by omega) (by omega) _) d_Mo_tellAll_5 (Nat.le_of_ble_eq_true rfl) (Nat.le_of_ble_eq_true rfl) (Nat.le_of_ble_eq_true rfl) (Nat.le_of_ble_eq_true rfl) ?_
  rintro _ _ _ ⟨rfl, rfl, t2, rfl, hE⟩
  dsimp only [Option.toList, List.cons_append, List.nil_append]
  have hb0 := En_24 (show 2 * n ≤ 24 by omega) 0
  have hb1 := En_7 n hn.2
  have e0 : En (2 * (n : Int)).toNat (0 : Int).toNat = En (2 * n) 0 := by rw [show (2 * (n : Int)).toNat = 2 * n by omega]; rfl
  rw [e0]
  have h0 : EA σ t2 := ⟨fun j _ h1 h2 _ _ _ => hE.1 j h1 h2, Or.inr hE.2⟩
  refine V.istore_n (pc := 8) 2 d_Mo_tellAll_8 rfl (Nat.le_of_ble_eq_true rfl) rfl ?_
  dsimp only [put]
  refine V.iconst (pc := 9) d_Mo_tellAll_9 ⟨by decide, by decide⟩ ?_
  refine V.istore_n (pc := 10) 3 d_Mo_tellAll_10 rfl (Nat.le_of_ble_eq_true rfl) rfl ?_
  dsimp only [put]
  refine V.pad ?_
  refine V.pad ?_
  exact lp_Mo_tellAll2 σ n hn _ rfl ⟨by omega, by omega⟩ (En (2 * n) 0).toNat _ 0 0 none none t2 h0 (by omega) rfl (fun i hi => by omega)
