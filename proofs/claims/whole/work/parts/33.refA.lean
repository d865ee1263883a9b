/-! THE REFERENCE: turn and mirror, printed by wip/whole/gen/refA.py -/
theorem md {x m : Int} (h0 : 0 ≤ x) (h1 : x < m) : ∃ y, (x + m - 1) % m = y ∧ 0 ≤ y ∧ y < m ∧ ((x = 0 ∧ y = m - 1) ∨ (0 < x ∧ y = x - 1)) := by
  by_cases e : x = 0
  · refine ⟨m - 1, ?_, by omega, by omega, Or.inl ⟨e, rfl⟩⟩
    rw [show x + m - 1 = m - 1 by omega]
    exact Int.emod_eq_of_lt (by omega) (by omega)
  · refine ⟨x - 1, ?_, by omega, by omega, Or.inr ⟨by omega, rfl⟩⟩
    rw [show x + m - 1 = (x - 1) + m by omega, Int.add_emod_right]
    exact Int.emod_eq_of_lt (by omega) (by omega)
def sq (n q : Nat) : Nat := if q + 1 = 2 * n then 0 else q + 1
def ym (n : Nat) (x : Int) : Int := if x = 0 then 2 * n - 1 else x - 1
def tuf (j : Nat → Int) (n q : Nat) : Int := if (q : Int) < ym n (j (sq n q)) then 1 else -1
def QT1 (σ : SM) (k A n : Nat) (v : Nat → Int) (sz : Nat) : QT := fun r h s => r = none ∧ s = sz ∧ ∃ g : Nat → Int, h = hM (sset σ k g) ∧ (∀ q, q < 2 * n → g (A + q) = v q) ∧ ∀ j, (j < A ∨ A + 2 * n ≤ j) → g j = σ k j
theorem tuf_tu {a : Nat → Int} {n : Nat} (h : arch a n) (hn : 1 ≤ n) (hs : ∀ p, p < 2 * n → a p = 1 ∨ a p = -1) : ∀ q, q < 2 * n → tuf (pt a n) n q = tu a n q := by
  intro q hq
  obtain ⟨c, g1, g2, g3, g4, g5, g6, -, -⟩ := arch_0 h hn
  unfold tuf tu
  by_cases e : q + 1 = 2 * n
  · rw [if_pos e, show sq n q = 0 by unfold sq; rw [if_pos e], g1, show ym n (c : Int) = c - 1 by unfold ym; rw [if_neg (by omega)], if_neg (by omega)]
  · rw [if_neg e, show sq n q = q + 1 by unfold sq; rw [if_neg e], g1]
    by_cases e2 : q + 1 = c
    · rw [if_pos (show ((q + 1 : Nat) : Int) = (c : Int) by omega), e2, g4, show ym n 0 = 2 * n - 1 by unfold ym; rw [if_pos rfl], if_pos (by omega)]
    · rw [if_neg (show ¬ ((q + 1 : Nat) : Int) = (c : Int) by omega)]
      obtain ⟨r, k1, k2, k3, k4, k5⟩ := pt_pair h (show q + 1 < 2 * n by omega)
      have hr : r ≠ 0 := fun z => by rw [z, g1] at k4; omega
      rw [k1, show ym n (r : Int) = r - 1 by unfold ym; rw [if_neg (by omega)]]
      have := hs (q + 1) (by omega)
      by_cases e3 : q + 1 < r
      · have := k5.mpr e3
        rw [if_pos (by omega)]; omega
      · have : ¬ 0 < a (q + 1) := fun z => e3 (k5.mp z)
        rw [if_neg (by omega)]; omega
set_option maxRecDepth 20000 in
theorem lp_Mo_mirrorTo {k a L k2 b L2 : Nat} (hA : Arr k a L) (hB : Arr k2 b L2) (σ : SM) (A B n : Nat) (hn : 1 ≤ n ∧ n ≤ 20) (hL : L ≤ 10000) (hL2 : L2 ≤ 10000) (h1 : A + 2 * n ≤ L) (h2 : B + 2 * n ≤ L2) (hd : k2 = k → B + 2 * n ≤ A ∨ A + 2 * n ≤ B) (hs : ∀ q, q < 2 * n → σ k2 (B + q) = 1 ∨ σ k2 (B + q) = -1) (sz : Nat) : ∀ (c p : Nat) (pp : Int) (g : Nat → Int), p + c = 2 * n → pp = p → (∀ q, q < p → g (A + (2 * n - 1 - q)) = - σ k2 (B + q)) → (∀ j, (j < A ∨ A + 2 * n ≤ j) → g j = σ k j) →
    V M_Mo_mirrorTo 0 3 [some (vR 8), some (vR a), some (vI (A : Nat)), some (vR b), some (vI (B : Nat)), some (vI (n : Nat)), some (vI pp)] [] (hM (sset σ k g)) sz 0 0 (QT1 σ k A n (fun q => - σ k2 (B + (2 * n - 1 - q))) sz) := by
  intro c
  induction c with
  | zero =>
    intro p pp g hc hpp hg hf
    refine V.iload (pc := 3) d_Mo_mirrorTo_3 rfl ?_
    refine V.iconst (pc := 5) d_Mo_mirrorTo_5 ⟨by decide, by decide⟩ ?_
    refine V.iload (pc := 6) d_Mo_mirrorTo_6 rfl ?_
    refine V.imul (pc := 8) d_Mo_mirrorTo_8 ⟨by omega, by omega⟩ ?_
    refine V.icmp_ge (tgt := 39) (pc := 9) d_Mo_mirrorTo_9 (by decide) (fun c_9 => ?_) (fun c_9 => ?_)
    · skip
      refine V.ret (pc := 39) (r := none) d_Mo_mirrorTo_39 rfl rfl ?_
      refine ⟨rfl, rfl, g, rfl, fun q hq => ?_, hf⟩
      have := hg (2 * n - 1 - q) (by omega)
      rw [show 2 * n - 1 - (2 * n - 1 - q) = q by omega] at this
      exact this
    · skip
      exfalso; omega
  | succ c ih =>
    intro p pp g hc hpp hg hf
    refine V.iload (pc := 3) d_Mo_mirrorTo_3 rfl ?_
    refine V.iconst (pc := 5) d_Mo_mirrorTo_5 ⟨by decide, by decide⟩ ?_
    refine V.iload (pc := 6) d_Mo_mirrorTo_6 rfl ?_
    refine V.imul (pc := 8) d_Mo_mirrorTo_8 ⟨by omega, by omega⟩ ?_
    refine V.icmp_ge (tgt := 39) (pc := 9) d_Mo_mirrorTo_9 (by decide) (fun c_9 => ?_) (fun c_9 => ?_)
    · skip
      exfalso; omega
    · skip
      refine V.aload_n (pc := 12) 1 d_Mo_mirrorTo_12 rfl rfl ?_
      refine V.iload_n (pc := 13) 2 d_Mo_mirrorTo_13 rfl rfl ?_
      refine V.iconst (pc := 14) d_Mo_mirrorTo_14 ⟨by decide, by decide⟩ ?_
      refine V.iload (pc := 15) d_Mo_mirrorTo_15 rfl ?_
      refine V.imul (pc := 17) d_Mo_mirrorTo_17 ⟨by omega, by omega⟩ ?_
      refine V.iadd (pc := 18) d_Mo_mirrorTo_18 ⟨by omega, by omega⟩ ?_
      refine V.iconst (pc := 19) d_Mo_mirrorTo_19 ⟨by decide, by decide⟩ ?_
      refine V.isub (pc := 20) d_Mo_mirrorTo_20 ⟨by omega, by omega⟩ ?_
      refine V.iload (pc := 21) d_Mo_mirrorTo_21 rfl ?_
      refine V.isub (pc := 23) d_Mo_mirrorTo_23 ⟨by omega, by omega⟩ ?_
      refine V.aload_n (pc := 24) 3 d_Mo_mirrorTo_24 rfl rfl ?_
      refine V.iload (pc := 25) d_Mo_mirrorTo_25 rfl ?_
      refine V.iload (pc := 27) d_Mo_mirrorTo_27 rfl ?_
      refine V.iadd (pc := 29) d_Mo_mirrorTo_29 ⟨by omega, by omega⟩ ?_
      refine V.iald (pc := 30) d_Mo_mirrorTo_30 (hB _).1 (by omega) (by omega) ?_
      try simp (disch := omega) only [sset_n, sset_e]
      have hv : sset σ k g k2 ((B : Int) + pp).toNat = σ k2 (B + p) := by
        rw [show ((B : Int) + pp).toNat = B + p by omega]
        by_cases e : k2 = k
        · rw [e, sset_e]; exact hf _ (by omega)
        · exact congrFun (sset_n e) _
      rw [hv]
      have hsp := hs p (by omega)
      refine V.ineg (pc := 31) d_Mo_mirrorTo_31 ⟨by omega, by omega⟩ ?_
      refine V.iast (pc := 32) d_Mo_mirrorTo_32 (hA _).1 (by omega) (by omega) ?_
      rw [(hA _).2]
      refine V.iinc (pc := 33) d_Mo_mirrorTo_33 rfl ⟨by omega, by omega⟩ (Nat.le_of_ble_eq_true rfl) rfl ?_
      dsimp only [put]
      refine V.goto (tgt := 3) (pc := 36) d_Mo_mirrorTo_36 (by decide) ?_
      rw [sset_tw, sset_e]
      refine ih (p + 1) _ _ (by omega) (by omega) (fun q hq => ?_) (fun j hj => ?_)
      · rw [show ((A : Int) + 2 * n - 1 - pp).toNat = A + (2 * n - 1 - p) by omega]
        by_cases e : q = p
        · rw [e, upf_e]
        · rw [upf_n (by omega)]; exact hg q (by omega)
      · rw [upf_n (by omega)]; exact hf j hj
set_option maxRecDepth 20000 in
theorem ct_Mo_mirrorTo {k a L k2 b L2 : Nat} (hA : Arr k a L) (hB : Arr k2 b L2) (σ : SM) (A B n : Nat) (hn : 1 ≤ n ∧ n ≤ 20) (hL : L ≤ 10000) (hL2 : L2 ≤ 10000) (h1 : A + 2 * n ≤ L) (h2 : B + 2 * n ≤ L2) (hd : k2 = k → B + 2 * n ≤ A ∨ A + 2 * n ≤ B) (hs : ∀ q, q < 2 * n → σ k2 (B + q) = 1 ∨ σ k2 (B + q) = -1) (sz : Nat) : Ct M_Mo_mirrorTo 0 0 0 [vR 8, vR a, vI (A : Nat), vR b, vI (B : Nat), vI (n : Nat)] (hM σ) sz (QT1 σ k A n (fun q => - σ k2 (B + (2 * n - 1 - q))) sz) := by
  refine Ct.of rfl (Nat.le_of_ble_eq_true rfl) ?_
  dsimp only [lsOf]
  refine V.iconst (pc := 0) d_Mo_mirrorTo_0 ⟨by decide, by decide⟩ ?_
  refine V.istore (pc := 1) d_Mo_mirrorTo_1 (Nat.le_of_ble_eq_true rfl) rfl ?_
  dsimp only [put]
  rw [← sset_id (σ := σ) (k := k)]
  have := lp_Mo_mirrorTo hA hB σ A B n hn hL hL2 h1 h2 hd hs sz (2 * n) 0 0 (σ k) (by omega) rfl (fun q hq => by omega) (fun j hj => rfl)
  rw [sset_id] at this ⊢
  exact this
set_option maxRecDepth 20000 in
theorem lp_Mo_turnTo {k a L k2 b L2 : Nat} (hA : Arr k a L) (hB : Arr k2 b L2) (σ : SM) (A B n : Nat) (hn : 1 ≤ n ∧ n ≤ 20) (hL : L ≤ 10000) (hL2 : L2 ≤ 10000) (h1 : A + 2 * n ≤ L) (h2 : B + 2 * n ≤ L2) (hd : k2 ≠ k) (hj : ∀ q, q < 2 * n → 0 ≤ σ k2 (B + q) ∧ σ k2 (B + q) < 2 * n) (sz : Nat) : ∀ (c p : Nat) (pp : Int) (x7 x8 : Option MV) (g : Nat → Int), p + c = 2 * n → pp = p → (∀ q, q < 2 * n → sq n q < p → g (A + q) = tuf (fun q => σ k2 (B + q)) n q) → (∀ j, (j < A ∨ A + 2 * n ≤ j) → g j = σ k j) →
    V M_Mo_turnTo 0 3 [some (vR 8), some (vR a), some (vI (A : Nat)), some (vR b), some (vI (B : Nat)), some (vI (n : Nat)), some (vI pp), x7, x8] [] (hM (sset σ k g)) sz 0 0 (QT1 σ k A n (tuf (fun q => σ k2 (B + q)) n) sz) := by
  intro c
  induction c with
  | zero =>
    intro p pp x7 x8 g hc hpp hg hf
    refine V.iload (pc := 3) d_Mo_turnTo_3 rfl ?_
    refine V.iconst (pc := 5) d_Mo_turnTo_5 ⟨by decide, by decide⟩ ?_
    refine V.iload (pc := 6) d_Mo_turnTo_6 rfl ?_
    refine V.imul (pc := 8) d_Mo_turnTo_8 ⟨by omega, by omega⟩ ?_
    refine V.icmp_ge (tgt := 73) (pc := 9) d_Mo_turnTo_9 (by decide) (fun c_9 => ?_) (fun c_9 => ?_)
    · skip
      refine V.ret (pc := 73) (r := none) d_Mo_turnTo_73 rfl rfl ?_
      refine ⟨rfl, rfl, g, rfl, fun q hq => hg q hq ?_, hf⟩
      unfold sq; split <;> omega
    · skip
      exfalso; omega
  | succ c ih =>
    intro p pp x7 x8 g hc hpp hg hf
    refine V.iload (pc := 3) d_Mo_turnTo_3 rfl ?_
    refine V.iconst (pc := 5) d_Mo_turnTo_5 ⟨by decide, by decide⟩ ?_
    refine V.iload (pc := 6) d_Mo_turnTo_6 rfl ?_
    refine V.imul (pc := 8) d_Mo_turnTo_8 ⟨by omega, by omega⟩ ?_
    refine V.icmp_ge (tgt := 73) (pc := 9) d_Mo_turnTo_9 (by decide) (fun c_9 => ?_) (fun c_9 => ?_)
    · skip
      exfalso; omega
    · skip
      refine V.iload (pc := 12) d_Mo_turnTo_12 rfl ?_
      refine V.iconst (pc := 14) d_Mo_turnTo_14 ⟨by decide, by decide⟩ ?_
      refine V.iload (pc := 15) d_Mo_turnTo_15 rfl ?_
      refine V.imul (pc := 17) d_Mo_turnTo_17 ⟨by omega, by omega⟩ ?_
      refine V.iadd (pc := 18) d_Mo_turnTo_18 ⟨by omega, by omega⟩ ?_
      refine V.iconst (pc := 19) d_Mo_turnTo_19 ⟨by decide, by decide⟩ ?_
      refine V.isub (pc := 20) d_Mo_turnTo_20 ⟨by omega, by omega⟩ ?_
      refine V.iconst (pc := 21) d_Mo_turnTo_21 ⟨by decide, by decide⟩ ?_
      refine V.iload (pc := 22) d_Mo_turnTo_22 rfl ?_
      refine V.imul (pc := 24) d_Mo_turnTo_24 ⟨by omega, by omega⟩ ?_
      refine V.irem (pc := 25) d_Mo_turnTo_25 (by omega) (by omega) ?_
      obtain ⟨y, hy0, hy1, hy2, hy3⟩ := md (x := pp) (m := 2 * n) (by omega) (by omega)
      rw [hy0]
      refine V.istore (pc := 26) d_Mo_turnTo_26 (Nat.le_of_ble_eq_true rfl) rfl ?_
      dsimp only [put]
      refine V.aload_n (pc := 28) 3 d_Mo_turnTo_28 rfl rfl ?_
      refine V.iload (pc := 29) d_Mo_turnTo_29 rfl ?_
      refine V.iload (pc := 31) d_Mo_turnTo_31 rfl ?_
      refine V.iadd (pc := 33) d_Mo_turnTo_33 ⟨by omega, by omega⟩ ?_
      refine V.iald (pc := 34) d_Mo_turnTo_34 (hB _).1 (by omega) (by omega) ?_
      try simp (disch := omega) only [sset_n, sset_e]
      rw [show ((B : Int) + pp).toNat = B + p by omega]
      have hjp := hj p (by omega)
      refine V.iconst (pc := 35) d_Mo_turnTo_35 ⟨by decide, by decide⟩ ?_
      refine V.iload (pc := 36) d_Mo_turnTo_36 rfl ?_
      refine V.imul (pc := 38) d_Mo_turnTo_38 ⟨by omega, by omega⟩ ?_
      refine V.iadd (pc := 39) d_Mo_turnTo_39 ⟨by omega, by omega⟩ ?_
      refine V.iconst (pc := 40) d_Mo_turnTo_40 ⟨by decide, by decide⟩ ?_
      refine V.isub (pc := 41) d_Mo_turnTo_41 ⟨by omega, by omega⟩ ?_
      refine V.iconst (pc := 42) d_Mo_turnTo_42 ⟨by decide, by decide⟩ ?_
      refine V.iload (pc := 43) d_Mo_turnTo_43 rfl ?_
      refine V.imul (pc := 45) d_Mo_turnTo_45 ⟨by omega, by omega⟩ ?_
      refine V.irem (pc := 46) d_Mo_turnTo_46 (by omega) (by omega) ?_
      obtain ⟨z, hz0, hz1, hz2, hz3⟩ := md (x := σ k2 (B + p)) (m := 2 * n) (by omega) (by omega)
      rw [hz0]
      refine V.istore (pc := 47) d_Mo_turnTo_47 (Nat.le_of_ble_eq_true rfl) rfl ?_
      dsimp only [put]
      refine V.aload_n (pc := 49) 1 d_Mo_turnTo_49 rfl rfl ?_
      refine V.iload_n (pc := 50) 2 d_Mo_turnTo_50 rfl rfl ?_
      refine V.iload (pc := 51) d_Mo_turnTo_51 rfl ?_
      refine V.iadd (pc := 53) d_Mo_turnTo_53 ⟨by omega, by omega⟩ ?_
      refine V.iload (pc := 54) d_Mo_turnTo_54 rfl ?_
      refine V.iload (pc := 56) d_Mo_turnTo_56 rfl ?_
      refine V.icmp_ge (tgt := 65) (pc := 58) d_Mo_turnTo_58 (by decide) (fun c_58 => ?_) (fun c_58 => ?_)
      · skip
        refine V.iconst (pc := 65) d_Mo_turnTo_65 ⟨by decide, by decide⟩ ?_
        refine V.iast (pc := 66) d_Mo_turnTo_66 (hA _).1 (by omega) (by omega) ?_
        rw [(hA _).2]
        refine V.iinc (pc := 67) d_Mo_turnTo_67 rfl ⟨by omega, by omega⟩ (Nat.le_of_ble_eq_true rfl) rfl ?_
        dsimp only [put]
        refine V.goto (tgt := 3) (pc := 70) d_Mo_turnTo_70 (by decide) ?_
        rw [sset_tw, sset_e]
        refine ih (p + 1) _ _ _ _ (by omega) (by omega) (fun q hq hs => ?_) (fun j hj => ?_)
        · rw [show ((A : Int) + y).toNat = A + y.toNat by omega]
          by_cases e : q = y.toNat
          · rw [e, upf_e]
            have hsq : sq n y.toNat = p := by
              unfold sq; split <;> omega
            have hym : ym n (σ k2 (B + p)) = z := by
              unfold ym; split <;> omega
            unfold tuf
            rw [hsq, hym]
            first | rw [if_pos (by omega)] | rw [if_neg (by omega)]
          · rw [upf_n (by omega)]
            refine hg q hq ?_
            have : sq n q ≠ p := by
              unfold sq; split <;> omega
            omega
        · rw [upf_n (by omega)]; exact hf j hj
      · skip
        refine V.iconst (pc := 61) d_Mo_turnTo_61 ⟨by decide, by decide⟩ ?_
        refine V.goto (tgt := 66) (pc := 62) d_Mo_turnTo_62 (by decide) ?_
        refine V.iast (pc := 66) d_Mo_turnTo_66 (hA _).1 (by omega) (by omega) ?_
        rw [(hA _).2]
        refine V.iinc (pc := 67) d_Mo_turnTo_67 rfl ⟨by omega, by omega⟩ (Nat.le_of_ble_eq_true rfl) rfl ?_
        dsimp only [put]
        refine V.goto (tgt := 3) (pc := 70) d_Mo_turnTo_70 (by decide) ?_
        rw [sset_tw, sset_e]
        refine ih (p + 1) _ _ _ _ (by omega) (by omega) (fun q hq hs => ?_) (fun j hj => ?_)
        · rw [show ((A : Int) + y).toNat = A + y.toNat by omega]
          by_cases e : q = y.toNat
          · rw [e, upf_e]
            have hsq : sq n y.toNat = p := by
              unfold sq; split <;> omega
            have hym : ym n (σ k2 (B + p)) = z := by
              unfold ym; split <;> omega
            unfold tuf
            rw [hsq, hym]
            first | rw [if_pos (by omega)] | rw [if_neg (by omega)]
          · rw [upf_n (by omega)]
            refine hg q hq ?_
            have : sq n q ≠ p := by
              unfold sq; split <;> omega
            omega
        · rw [upf_n (by omega)]; exact hf j hj
set_option maxRecDepth 20000 in
theorem ct_Mo_turnTo {k a L k2 b L2 : Nat} (hA : Arr k a L) (hB : Arr k2 b L2) (σ : SM) (A B n : Nat) (hn : 1 ≤ n ∧ n ≤ 20) (hL : L ≤ 10000) (hL2 : L2 ≤ 10000) (h1 : A + 2 * n ≤ L) (h2 : B + 2 * n ≤ L2) (hd : k2 ≠ k) (hj : ∀ q, q < 2 * n → 0 ≤ σ k2 (B + q) ∧ σ k2 (B + q) < 2 * n) (sz : Nat) : Ct M_Mo_turnTo 0 0 0 [vR 8, vR a, vI (A : Nat), vR b, vI (B : Nat), vI (n : Nat)] (hM σ) sz (QT1 σ k A n (tuf (fun q => σ k2 (B + q)) n) sz) := by
  refine Ct.of rfl (Nat.le_of_ble_eq_true rfl) ?_
  dsimp only [lsOf]
  refine V.iconst (pc := 0) d_Mo_turnTo_0 ⟨by decide, by decide⟩ ?_
  refine V.istore (pc := 1) d_Mo_turnTo_1 (Nat.le_of_ble_eq_true rfl) rfl ?_
  dsimp only [put]
  refine V.pad ?_
  refine V.pad ?_
  rw [← sset_id (σ := σ) (k := k)]
  have := lp_Mo_turnTo hA hB σ A B n hn hL hL2 h1 h2 hd hj sz (2 * n) 0 0 none none (σ k) (by omega) rfl (fun q hq hq2 => by omega) (fun j hj => rfl)
  rw [sset_id] at this ⊢
  exact this
