/-! THE REFERENCE: countLands, printed by wip/whole/gen/refV.py -/
/-- the lands of n, counted -/
theorem landsK {n : Nat} (h1 : 1 ≤ n) (h7 : n ≤ 7) : (∀ i, i < EE n → ∀ j, j < EE n → lpN n i j < 8) ∧ ∀ k, k < 8 → (cn2 (lpN n) (EE n) k (EE n) : Int) = landT n k := by
  have tab : ∀ (n : Nat), n ≤ 7 → ∀ l : List Nat, khist2 n (PL n) (PL n) = s8 (fun k => l.getD k 0) → (∀ k : Fin 8, l.getD k.val 0 < 1048576 ∧ ((l.getD k.val 0 : Nat) : Int) = landT n k.val) → (∀ i, i < EE n → ∀ j, j < EE n → lpN n i j < 8) ∧ ∀ k, k < 8 → (cn2 (lpN n) (EE n) k (EE n) : Int) = landT n k := by
    intro n hn l hl ht
    obtain ⟨c1, c2⟩ := counted hn (d := fun k => l.getD k 0) (fun k hk => (ht ⟨k, hk⟩).1) hl
    exact ⟨c1, fun k hk => by rw [c2 k hk]; exact (ht ⟨k, hk⟩).2⟩
  match n, h1, h7 with
  | 1, _, h => exact tab 1 h _ kh_1 (by decide +kernel)
  | 2, _, h => exact tab 2 h _ kh_2 (by decide +kernel)
  | 3, _, h => exact tab 3 h _ kh_3 (by decide +kernel)
  | 4, _, h => exact tab 4 h _ kh_4 (by decide +kernel)
  | 5, _, h => exact tab 5 h _ kh_5 (by decide +kernel)
  | 6, _, h => exact tab 6 h _ kh_6 (by decide +kernel)
  | 7, _, h => exact tab 7 h _ kh_7 (by decide +kernel)
def EL (σ τ : SM) : Prop := (∀ j, j ≠ 13 → j ≠ 14 → j ≠ 19 → j ≠ 20 → j ≠ 21 → j ≠ 22 → j ≠ 24 → j ≠ 25 → j ≠ 28 → τ j = σ j) ∧ R_en (τ 19) (τ 20)
theorem EL.put {σ τ : SM} (h : EL σ τ) {k : Nat} (hk : k = 13 ∨ k = 14 ∨ k = 21 ∨ k = 22 ∨ k = 24 ∨ k = 25 ∨ k = 28) (f : Nat → Int) : EL σ (sset τ k f) := ⟨fun j h1 h2 h3 h4 h5 h6 h7 h8 h9 => (sset_n (by omega)).trans (h.1 j h1 h2 h3 h4 h5 h6 h7 h8 h9), by rw [sset_n (by omega), sset_n (by omega)]; exact h.2⟩
theorem EL.ea {σ τ υ : SM} (h : EL σ τ) (g : EA τ υ) : EL σ υ := ⟨fun j h1 h2 h3 h4 h5 h6 h7 h8 h9 => (g.1 j h1 h3 h4 h5 h6 h9).trans (h.1 j h1 h2 h3 h4 h5 h6 h7 h8 h9), g.2⟩
def QCL (σ : SM) (n sz : Nat) : QT := fun r h s => s = sz ∧ r = none ∧ ∃ τ, h = hM τ ∧ EL σ τ ∧ R_ld (τ 24) (τ 25) ∧ ∀ k, k < 8 → τ 24 (8 * n + k) = landT n k
set_option maxRecDepth 20000 in
theorem lp_Mo_countL1 (σ : SM) (n : Nat) (hn : 1 ≤ n ∧ n ≤ 7) (al : Int) (hal : al = (EE n : Int)) (hal2 : EE n ≤ 429 ∧ (EE n : Int) = En (2 * n) 0) (g0 : Nat → Int) (c0 : Nat → Int) (hK : ∀ i, i < EE n → ∀ j, j < EE n → lpN n i j < 8) (i : Nat) (ii : Int) (hii : ii = i) (hi : i < EE n) (Q : QT) (sz : Nat) (K : ∀ (τ : SM) (g : Nat → Int) (x : Option MV), EL σ τ → AJ n (EE n) (τ 22) → (∀ k, k < 8 → g (8 * n + k) = (cn2 (lpN n) (EE n) k (i + 1) : Int)) → (∀ y, (y < 8 * n ∨ 8 * n + 8 ≤ y) → g y = g0 y) → τ 25 = c0 → V M_Mo_countLands 3 25 [some (vR 8), some (vI (n : Nat)), some (vI al), some (vI (ii + 1)), x] [] (hM (sset τ 24 g)) sz 0 0 Q) : ∀ (c j : Nat) (jj : Int) (τ : SM) (g : Nat → Int), EL σ τ → j + c = EE n → jj = j → AJ n (EE n) (τ 22) → (∀ k, k < 8 → g (8 * n + k) = (cn2 (lpN n) (EE n) k i : Int) + (cnt (lpN n i) k j : Int)) → (∀ y, (y < 8 * n ∨ 8 * n + 8 ≤ y) → g y = g0 y) → τ 25 = c0 →
    V M_Mo_countLands 3 33 [some (vR 8), some (vI (n : Nat)), some (vI al), some (vI ii), some (vI jj)] [] (hM (sset τ 24 g)) sz 0 0 Q := by
  intro c
  induction c with
  | zero =>
    intro j jj τ g hE hc hjj hj hg hf h25
    refine V.iload (pc := 33) d_Mo_countLands_33 rfl ?_
    refine V.iload_n (pc := 35) 2 d_Mo_countLands_35 rfl rfl ?_
    refine V.icmp_ge (tgt := 81) (pc := 36) d_Mo_countLands_36 (by decide) (fun c_36 => ?_) (fun c_36 => ?_)
    · skip
      refine V.iinc (pc := 81) d_Mo_countLands_81 rfl ⟨by omega, by omega⟩ (Nat.le_of_ble_eq_true rfl) rfl ?_
      dsimp only [put]
      refine V.goto (tgt := 25) (pc := 84) d_Mo_countLands_84 (by decide) ?_
      exact K τ g _ hE hj (fun k hk => by
        rw [hg k hk, show j = EE n by omega]
        show _ = ((cn2 (lpN n) (EE n) k i + cnt (lpN n i) k (EE n) : Nat) : Int)
        omega) hf h25
    · skip
      exfalso; omega
  | succ c ih =>
    intro j jj τ g hE hc hjj hj hg hf h25
    refine V.iload (pc := 33) d_Mo_countLands_33 rfl ?_
    refine V.iload_n (pc := 35) 2 d_Mo_countLands_35 rfl rfl ?_
    refine V.icmp_ge (tgt := 81) (pc := 36) d_Mo_countLands_36 (by decide) (fun c_36 => ?_) (fun c_36 => ?_)
    · skip
      exfalso; omega
    · skip
      refine V.aload_n (pc := 39) 0 d_Mo_countLands_39 rfl rfl ?_
      refine V.getf (pc := 40) 24 cl_Mo fl_Mo_65_Mo d_Mo_countLands_40 (hM_o _) (Nat.le_of_ble_eq_true rfl) rfl ?_
      refine V.bipush (pc := 43) d_Mo_countLands_43 ⟨by decide, by decide⟩ ?_
      refine V.iload_n (pc := 45) 1 d_Mo_countLands_45 rfl rfl ?_
      refine V.imul (pc := 46) d_Mo_countLands_46 ⟨by omega, by omega⟩ ?_
      refine V.aload_n (pc := 47) 0 d_Mo_countLands_47 rfl rfl ?_
      refine V.aload_n (pc := 48) 0 d_Mo_countLands_48 rfl rfl ?_
      refine V.getf (pc := 49) 22 cl_Mo fl_Mo_62_Mo d_Mo_countLands_49 (hM_o _) (Nat.le_of_ble_eq_true rfl) rfl ?_
      refine V.bipush (pc := 52) d_Mo_countLands_52 ⟨by decide, by decide⟩ ?_
      refine V.iload_n (pc := 54) 3 d_Mo_countLands_54 rfl rfl ?_
      refine V.imul (pc := 55) d_Mo_countLands_55 ⟨by omega, by omega⟩ ?_
      refine V.aload_n (pc := 56) 0 d_Mo_countLands_56 rfl rfl ?_
      refine V.getf (pc := 57) 22 cl_Mo fl_Mo_62_Mo d_Mo_countLands_57 (hM_o _) (Nat.le_of_ble_eq_true rfl) rfl ?_
      refine V.bipush (pc := 60) d_Mo_countLands_60 ⟨by decide, by decide⟩ ?_
      refine V.iload (pc := 62) d_Mo_countLands_62 rfl ?_
      refine V.imul (pc := 64) d_Mo_countLands_64 ⟨by omega, by omega⟩ ?_
      refine V.iload_n (pc := 65) 1 d_Mo_countLands_65 rfl rfl ?_
      have e14 : (vI (14 * ii) : MV) = vI ((14 * i : Nat) : Int) := by rw [show ((14 * i : Nat) : Int) = 14 * ii by omega]
      have e15 : (vI (14 * jj) : MV) = vI ((14 * j : Nat) : Int) := by rw [show ((14 * j : Nat) : Int) = 14 * jj by omega]
      rw [e14, e15]
      refine V.cV5 (pc := 66) (kc2 := 0) (ks2 := 0) ml_Mo_126 (hM_o _) (ct_Mo_findLoops ar_allJoined ar_allJoined (by decide) (by decide) _ (14 * i) (14 * j) n (by omega) (by omega) (by omega) (by decide) (by decide) _ (pt (tls n (i : Int)) n) (pt (tls n (j : Int)) n) (fun q hq => by rw [sset_n (by decide)]; exact hj i (by omega) q hq) (fun q hq => by rw [sset_n (by decide)]; exact hj j (by omega) q hq) (PR_pt (tls_arch ⟨by omega, by omega⟩)) (PR_pt (tls_arch ⟨by omega, by omega⟩))) d_Mo_countLands_66 (Nat.le_of_ble_eq_true rfl) (Nat.le_of_ble_eq_true rfl) (Nat.le_of_ble_eq_true rfl) (Nat.le_of_ble_eq_true rfl) ?_
      rintro _ _ _ ⟨rfl, fl, rfl, rfl, -⟩
      dsimp only [Option.toList, List.cons_append, List.nil_append]
      have hl8 : lpN n i j < 8 := hK i (by omega) j (by omega)
      have ex : (lpS (pt (tls n (i : Int)) n) (pt (tls n (j : Int)) n) (2 * n) (2 * n)).2 = lpN n i j := rfl
      rw [ex]
      have hc1 := cn2_le (lpN n) (EE n) (lpN n i j) i
      have hc2 := cnt_le (lpN n i) (lpN n i j) j
      have hc3 := Nat.mul_le_mul (show EE n ≤ 429 by omega) (show i ≤ 429 by omega)
      refine V.iadd (pc := 69) d_Mo_countLands_69 ⟨by omega, by omega⟩ ?_
      refine V.dup2 (pc := 70) d_Mo_countLands_70 (fun _ => rfl) (fun _ => rfl) ?_
      refine V.iald (pc := 71) d_Mo_countLands_71 (ar_landCount _).1 (by omega) (by omega) ?_
      try simp (disch := omega) only [sset_n, sset_e]
      have e24 : sset (sset τ 24 g) 14 fl 24 = g := by rw [sset_n (by decide), sset_e]
      rw [show (8 * (n : Int) + (lpN n i j : Int)).toNat = 8 * n + lpN n i j by omega]
      try rw [e24]
      have hgv := hg _ hl8
      rw [hgv]
      refine V.iconst (pc := 72) d_Mo_countLands_72 ⟨by decide, by decide⟩ ?_
      refine V.iadd (pc := 73) d_Mo_countLands_73 ⟨by omega, by omega⟩ ?_
      refine V.iast (pc := 74) d_Mo_countLands_74 (ar_landCount _).1 (by omega) (by omega) ?_
      rw [(ar_landCount _).2]
      refine V.iinc (pc := 75) d_Mo_countLands_75 rfl ⟨by omega, by omega⟩ (Nat.le_of_ble_eq_true rfl) rfl ?_
      dsimp only [put]
      refine V.goto (tgt := 33) (pc := 78) d_Mo_countLands_78 (by decide) ?_
      have hEL := ((hE.put (k := 14) (by omega) fl))
      have e22 : sset (sset τ 24 g) 14 fl 22 = τ 22 := by rw [sset_n (by decide), sset_n (by decide)]
      have e25 : sset (sset τ 24 g) 14 fl 25 = τ 25 := by rw [sset_n (by decide), sset_n (by decide)]
      rw [show sset (sset (sset τ 24 g) 14 fl) 24 = sset (sset τ 14 fl) 24 from funext (fun f => by
        funext y; unfold sset; by_cases e : y = 24
        · rw [if_pos e, if_pos e]
        · rw [if_neg e, if_neg e]; split
          · rfl
          · rfl)]
      rw [show (8 * (n : Int) + (lpN n i j : Int)).toNat = 8 * n + lpN n i j by omega]
      refine ih (j + 1) _ _ _ hEL (by omega) (by omega) (by rw [sset_n (by decide)]; exact hj) (fun k hk => ?_) (fun y hy => ?_) (by rw [sset_n (by decide)]; exact h25)
      · show _ = (cn2 (lpN n) (EE n) k i : Int) + ((cnt (lpN n i) k j + (if lpN n i j = k then 1 else 0) : Nat) : Int)
        by_cases e : lpN n i j = k
        · rw [← e, upf_e, if_pos rfl]; omega
        · rw [upf_n (by omega), if_neg e]; try rw [e24]
          rw [hg k hk]; omega
      · rw [upf_n (by omega)]; exact hf y hy
set_option maxRecDepth 20000 in
theorem lp_Mo_countL2 (σ : SM) (n : Nat) (hn : 1 ≤ n ∧ n ≤ 7) (al : Int) (hal : al = (EE n : Int)) (hal2 : EE n ≤ 429 ∧ (EE n : Int) = En (2 * n) 0) (g0 : Nat → Int) (c0 : Nat → Int) (hK : ∀ i, i < EE n → ∀ j, j < EE n → lpN n i j < 8) (hc0 : c0 n = 1 ∧ ∀ m, 1 ≤ m → m ≤ 7 → m ≠ n → (c0 m = 0 ∧ ∀ k, k < 8 → g0 (8 * m + k) = 0) ∨ (c0 m = 1 ∧ ∀ k, k < 8 → g0 (8 * m + k) = landT m k)) (sz : Nat) : ∀ (c i : Nat) (ii : Int) (x : Option MV) (τ : SM) (g : Nat → Int), EL σ τ → i + c = EE n → ii = i → AJ n (EE n) (τ 22) → (∀ k, k < 8 → g (8 * n + k) = (cn2 (lpN n) (EE n) k i : Int)) → (∀ y, (y < 8 * n ∨ 8 * n + 8 ≤ y) → g y = g0 y) → τ 25 = c0 →
    V M_Mo_countLands 3 25 [some (vR 8), some (vI (n : Nat)), some (vI al), some (vI ii), x] [] (hM (sset τ 24 g)) sz 0 0 (QCL σ n sz) := by
  intro c
  induction c with
  | zero =>
    intro i ii x τ g hE hc hii hj hg hf h25
    refine V.iload_n (pc := 25) 3 d_Mo_countLands_25 rfl rfl ?_
    refine V.iload_n (pc := 26) 2 d_Mo_countLands_26 rfl rfl ?_
    refine V.icmp_ge (tgt := 87) (pc := 27) d_Mo_countLands_27 (by decide) (fun c_27 => ?_) (fun c_27 => ?_)
    · skip
      refine V.ret (pc := 87) (r := none) d_Mo_countLands_87 rfl rfl ?_
      have hfin : ∀ k, k < 8 → g (8 * n + k) = landT n k := fun k hk => by rw [hg k hk, show i = EE n by omega]; exact (landsK hn.1 hn.2).2 k hk
      refine ⟨rfl, rfl, _, rfl, hE.put (k := 24) (by omega) g, ?_, fun k hk => by rw [sset_e]; exact hfin k hk⟩
      rw [sset_e, sset_n (by decide), h25]
      intro m h1 h2
      by_cases e : m = n
      · exact Or.inr ⟨by rw [e]; exact hc0.1, fun k hk => by rw [e]; exact hfin k hk⟩
      · rcases hc0.2 m h1 h2 e with ⟨q1, q2⟩ | ⟨q1, q2⟩
        · exact Or.inl ⟨q1, fun k hk => by rw [hf _ (by omega)]; exact q2 k hk⟩
        · exact Or.inr ⟨q1, fun k hk => by rw [hf _ (by omega)]; exact q2 k hk⟩
    · skip
      exfalso; omega
  | succ c ih =>
    intro i ii x τ g hE hc hii hj hg hf h25
    refine V.iload_n (pc := 25) 3 d_Mo_countLands_25 rfl rfl ?_
    refine V.iload_n (pc := 26) 2 d_Mo_countLands_26 rfl rfl ?_
    refine V.icmp_ge (tgt := 87) (pc := 27) d_Mo_countLands_27 (by decide) (fun c_27 => ?_) (fun c_27 => ?_)
    · skip
      exfalso; omega
    · skip
      refine V.iconst (pc := 30) d_Mo_countLands_30 ⟨by decide, by decide⟩ ?_
      refine V.istore (pc := 31) d_Mo_countLands_31 (Nat.le_of_ble_eq_true rfl) rfl ?_
      dsimp only [put]
      exact lp_Mo_countL1 σ n hn al hal hal2 g0 c0 hK i ii hii (by omega) (QCL σ n sz) sz (fun τ2 g2 x2 k1 k2 k3 k4 k5 => ih (i + 1) _ x2 τ2 g2 k1 (by omega) (by omega) k2 k3 k4 k5) (EE n) 0 0 τ g hE (by omega) rfl hj (fun k hk => by rw [hg k hk]; exact (Int.add_zero _).symm) hf h25
set_option maxRecDepth 20000 in
theorem ct_Mo_countLands (σ : SM) (n : Nat) (hn : 1 ≤ n ∧ n ≤ 7) (hR : R_en (σ 19) (σ 20)) (hld : R_ld (σ 24) (σ 25)) (sz : Nat) : Ct M_Mo_countLands 3 0 0 [vR 8, vI (n : Nat)] (hM σ) sz (QCL σ n sz) := by
  refine Ct.of rfl (Nat.le_of_ble_eq_true rfl) ?_
  dsimp only [lsOf]
  rcases hld n hn.1 hn.2 with ⟨hc0, hz0⟩ | ⟨hc1, hz1⟩
  · skip
    refine V.aload_n (pc := 0) 0 d_Mo_countLands_0 rfl rfl ?_
    refine V.getf (pc := 1) 25 cl_Mo fl_Mo_68_Mo d_Mo_countLands_1 (hM_o _) (Nat.le_of_ble_eq_true rfl) rfl ?_
    refine V.iload_n (pc := 4) 1 d_Mo_countLands_4 rfl rfl ?_
    refine V.zald (pc := 5) d_Mo_countLands_5 (ar_isLandCounted _).1 (by omega) (by omega) ?_
    try simp (disch := omega) only [sset_n, sset_e]
    refine V.if_eq (tgt := 10) (pc := 6) d_Mo_countLands_6 (by decide) (fun c_6 => ?_) (fun c_6 => ?_)
    · skip
      refine V.aload_n (pc := 10) 0 d_Mo_countLands_10 rfl rfl ?_
      refine V.getf (pc := 11) 25 cl_Mo fl_Mo_68_Mo d_Mo_countLands_11 (hM_o _) (Nat.le_of_ble_eq_true rfl) rfl ?_
      refine V.iload_n (pc := 14) 1 d_Mo_countLands_14 rfl rfl ?_
      refine V.iconst (pc := 15) d_Mo_countLands_15 ⟨by decide, by decide⟩ ?_
      refine V.zast (pc := 16) d_Mo_countLands_16 (ar_isLandCounted _).1 (by omega) (by omega) (by omega) ?_
      rw [(ar_isLandCounted _).2]
      refine V.aload_n (pc := 17) 0 d_Mo_countLands_17 rfl rfl ?_
      refine V.iload_n (pc := 18) 1 d_Mo_countLands_18 rfl rfl ?_
      refine V.cV1 (pc := 19) (kc2 := 0) (ks2 := 0) ml_Mo_213 (hM_o _) (ct_Mo_tellAll _ n hn (by rw [sset_n (by decide), sset_n (by decide)]; exact hR) _) d_Mo_countLands_19 (Nat.le_of_ble_eq_true rfl) (Nat.le_of_ble_eq_true rfl) (Nat.le_of_ble_eq_true rfl) (Nat.le_of_ble_eq_true rfl) ?_
      rintro _ _ _ ⟨rfl, rfl, t2, rfl, hEA, hAJ⟩
      dsimp only [Option.toList, List.cons_append, List.nil_append]
      have hE1 : EL σ (sset σ 25 (upf (σ 25) (n : Int).toNat 1)) := EL.put ⟨fun _ _ _ _ _ _ _ _ _ _ => rfl, hR⟩ (by omega) _
      have hE2 := hE1.ea hEA
      have e24 : t2 24 = σ 24 := by rw [hEA.1 24 (by decide) (by decide) (by decide) (by decide) (by decide) (by decide), sset_n (by decide)]
      have e25 : t2 25 = upf (σ 25) n 1 := by rw [hEA.1 25 (by decide) (by decide) (by decide) (by decide) (by decide) (by decide), sset_e]; rfl
      have hb0 := En_24 (show 2 * n ≤ 24 by omega) 0
      have hb1 := En_7 n hn.2
      have hEE : (EE n : Int) = En (2 * n) 0 := by show ((En (2 * n) 0).toNat : Int) = _; omega
      refine V.istore_n (pc := 22) 2 d_Mo_countLands_22 rfl (Nat.le_of_ble_eq_true rfl) rfl ?_
      dsimp only [put]
      refine V.iconst (pc := 23) d_Mo_countLands_23 ⟨by decide, by decide⟩ ?_
      refine V.istore_n (pc := 24) 3 d_Mo_countLands_24 rfl (Nat.le_of_ble_eq_true rfl) rfl ?_
      dsimp only [put]
      refine V.pad ?_
      have e0 := lp_Mo_countL2 σ n hn (En (2 * n) 0) (by omega) ⟨by omega, by omega⟩ (σ 24) (upf (σ 25) n 1) (landsK hn.1 hn.2).1 ⟨upf_e, fun m h1 h2 h3 => by rw [upf_n h3]; exact hld m h1 h2⟩
      have e1 := fun s9 => e0 s9 (EE n) 0 0 none t2 (σ 24) hE2 (by omega) rfl hAJ (fun k hk => hz0 k hk) (fun _ _ => rfl) e25
      rw [← e24, sset_id] at e1
      exact e1 _
    · skip
      rw [show (n : Int).toNat = n by omega] at c_6; exact absurd hc0 c_6
  · skip
    refine V.aload_n (pc := 0) 0 d_Mo_countLands_0 rfl rfl ?_
    refine V.getf (pc := 1) 25 cl_Mo fl_Mo_68_Mo d_Mo_countLands_1 (hM_o _) (Nat.le_of_ble_eq_true rfl) rfl ?_
    refine V.iload_n (pc := 4) 1 d_Mo_countLands_4 rfl rfl ?_
    refine V.zald (pc := 5) d_Mo_countLands_5 (ar_isLandCounted _).1 (by omega) (by omega) ?_
    try simp (disch := omega) only [sset_n, sset_e]
    refine V.if_eq (tgt := 10) (pc := 6) d_Mo_countLands_6 (by decide) (fun c_6 => ?_) (fun c_6 => ?_)
    · skip
      rw [show (n : Int).toNat = n by omega, hc1] at c_6; exact absurd c_6 (by decide)
    · skip
      refine V.ret (pc := 9) (r := none) d_Mo_countLands_9 rfl rfl ?_
      exact ⟨rfl, rfl, σ, rfl, ⟨fun _ _ _ _ _ _ _ _ _ _ => rfl, hR⟩, hld, hz1⟩
