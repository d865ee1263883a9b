/-! THE REFERENCE: who is joined, printed by wip/whole/gen/ref2.py -/
theorem stk_len (a : Nat → Int) : ∀ p : Nat, (stk a p).length ≤ p
  | 0 => Nat.le_refl _
  | p + 1 => by
    have ih := stk_len a p
    unfold stk
    split
    · rw [List.length_cons]; omega
    · rw [List.length_tail]; omega
def QJ (σ : SM) (a : Nat → Int) (kt A N sz : Nat) : QT := fun r h s => s = sz ∧ ∃ fo ft : Nat → Int, h = hM (sset (sset σ 13 fo) kt ft) ∧ (∀ i, (i < A ∨ A + 2 * N ≤ i) → ft i = σ kt i) ∧ r = some (vI (if arch a N then 1 else 0)) ∧ (arch a N → ∀ q, q < 2 * N → ft (A + q) = pt a N q)
set_option maxRecDepth 20000 in
theorem lp_Mo_joins {ks kt as at_ Ls Lt : Nat} (hs : Arr ks as Ls) (ht : Arr kt at_ Lt) (h1 : ks ≠ kt) (h2 : ks ≠ 13) (h3 : kt ≠ 13) (σ : SM) (a : Nat → Int) (A N : Nat) (ha : a = fun q => σ ks (A + q)) (hN : N ≤ 20) (hA : A + 2 * N ≤ Ls) (hA2 : A + 2 * N ≤ Lt) (hb : Ls ≤ 10000) (sz : Nat) : ∀ (m p : Nat) (hi pp : Int) (fo ft : Nat → Int), p + m = 2 * N → pp = p → hi = (stk a p).length → nof a p → (∀ (j x : Nat), (stk a p)[j]? = some x → fo ((stk a p).length - 1 - j) = x) → (∀ i, (i < A ∨ A + 2 * N ≤ i) → ft i = σ kt i) → (∀ q, q < 2 * N → ft (A + q) = jn a (fun q => σ kt (A + q)) p q) →
    V M_Mo_joins 0 6 [some (vR 8), some (vR as), some (vR at_), some (vI A), some (vI N), some (vI hi), some (vI pp)] [] (hM (sset (sset σ 13 fo) kt ft)) sz 0 0 (QJ σ a kt A N sz) := by
  intro m
  induction m with
  | zero =>
    intro p hi pp fo ft hpm hpp hh hnf hfo hft1 hft2
    have hsl := stk_len a p
    refine V.iload (pc := 6) d_Mo_joins_6 rfl ?_
    refine V.iconst (pc := 8) d_Mo_joins_8 ⟨by decide, by decide⟩ ?_
    refine V.iload (pc := 9) d_Mo_joins_9 rfl ?_
    refine V.imul (pc := 11) d_Mo_joins_11 ⟨by omega, by omega⟩ ?_
    refine V.icmp_ge (tgt := 81) (pc := 12) d_Mo_joins_12 (by decide) (fun c_12 => ?_) (fun c_12 => ?_)
    · skip
      refine V.iload (pc := 81) d_Mo_joins_81 rfl ?_
      refine V.if_ne (tgt := 90) (pc := 83) d_Mo_joins_83 (by decide) (fun c_83 => ?_) (fun c_83 => ?_)
      · skip
        refine V.iconst (pc := 90) d_Mo_joins_90 ⟨by decide, by decide⟩ ?_
        refine V.ret (pc := 91) (r := some (vI _)) d_Mo_joins_91 (Or.inr ⟨rfl, by omega⟩) rfl ?_
        have hp2 : p = 2 * N := by omega
        have har : ¬ arch a N := fun g => by
          have g2 := g.2
          rw [← hp2] at g2
          rw [g2] at hh
          simp at hh; omega
        exact ⟨rfl, fo, ft, rfl, hft1, by rw [if_neg har], fun g => absurd g har⟩
      · skip
        refine V.iconst (pc := 86) d_Mo_joins_86 ⟨by decide, by decide⟩ ?_
        refine V.goto (tgt := 91) (pc := 87) d_Mo_joins_87 (by decide) ?_
        refine V.ret (pc := 91) (r := some (vI _)) d_Mo_joins_91 (Or.inr ⟨rfl, by omega⟩) rfl ?_
        have hp2 : p = 2 * N := by omega
        have hst : stk a p = [] := List.eq_nil_of_length_eq_zero (by omega)
        have har : arch a N := ⟨by rw [← hp2]; exact hnf, by rw [← hp2]; exact hst⟩
        refine ⟨rfl, fo, ft, rfl, hft1, by rw [if_pos har], fun _ q hq => ?_⟩
        rw [hft2 q hq, hp2]
        exact jn_pt har hq
    · skip
      exfalso; omega
  | succ m ih =>
    intro p hi pp fo ft hpm hpp hh hnf hfo hft1 hft2
    have hsl := stk_len a p
    refine V.iload (pc := 6) d_Mo_joins_6 rfl ?_
    refine V.iconst (pc := 8) d_Mo_joins_8 ⟨by decide, by decide⟩ ?_
    refine V.iload (pc := 9) d_Mo_joins_9 rfl ?_
    refine V.imul (pc := 11) d_Mo_joins_11 ⟨by omega, by omega⟩ ?_
    refine V.icmp_ge (tgt := 81) (pc := 12) d_Mo_joins_12 (by decide) (fun c_12 => ?_) (fun c_12 => ?_)
    · skip
      refine V.iload (pc := 81) d_Mo_joins_81 rfl ?_
      refine V.if_ne (tgt := 90) (pc := 83) d_Mo_joins_83 (by decide) (fun c_83 => ?_) (fun c_83 => ?_)
      · skip
        refine V.iconst (pc := 90) d_Mo_joins_90 ⟨by decide, by decide⟩ ?_
        refine V.ret (pc := 91) (r := some (vI _)) d_Mo_joins_91 (Or.inr ⟨rfl, by omega⟩) rfl ?_
        have hp2 : p = 2 * N := by omega
        have har : ¬ arch a N := fun g => by
          have g2 := g.2
          rw [← hp2] at g2
          rw [g2] at hh
          simp at hh; omega
        exact ⟨rfl, fo, ft, rfl, hft1, by rw [if_neg har], fun g => absurd g har⟩
      · skip
        refine V.iconst (pc := 86) d_Mo_joins_86 ⟨by decide, by decide⟩ ?_
        refine V.goto (tgt := 91) (pc := 87) d_Mo_joins_87 (by decide) ?_
        refine V.ret (pc := 91) (r := some (vI _)) d_Mo_joins_91 (Or.inr ⟨rfl, by omega⟩) rfl ?_
        have hp2 : p = 2 * N := by omega
        have hst : stk a p = [] := List.eq_nil_of_length_eq_zero (by omega)
        have har : arch a N := ⟨by rw [← hp2]; exact hnf, by rw [← hp2]; exact hst⟩
        refine ⟨rfl, fo, ft, rfl, hft1, by rw [if_pos har], fun _ q hq => ?_⟩
        rw [hft2 q hq, hp2]
        exact jn_pt har hq
    · skip
      refine V.aload_n (pc := 15) 1 d_Mo_joins_15 rfl rfl ?_
      refine V.iload_n (pc := 16) 3 d_Mo_joins_16 rfl rfl ?_
      refine V.iload (pc := 17) d_Mo_joins_17 rfl ?_
      refine V.iadd (pc := 19) d_Mo_joins_19 ⟨by omega, by omega⟩ ?_
      refine V.iald (pc := 20) d_Mo_joins_20 (hs _).1 (by omega) (by omega) ?_
      try simp (disch := omega) only [sset_n, sset_e]
      rw [show ((A : Int) + pp).toNat = A + p by omega, show σ ks (A + p) = a p by rw [ha]]
      refine V.if_le (tgt := 39) (pc := 21) d_Mo_joins_21 (by decide) (fun c_21 => ?_) (fun c_21 => ?_)
      · skip
        refine V.iload (pc := 39) d_Mo_joins_39 rfl ?_
        refine V.if_ne (tgt := 46) (pc := 41) d_Mo_joins_41 (by decide) (fun c_41 => ?_) (fun c_41 => ?_)
        · skip
          obtain ⟨s0, r0, hsr⟩ : ∃ s r, stk a p = s :: r := by
            cases e : stk a p with
            | nil => rw [e] at hh; simp at hh; omega
            | cons s r => exact ⟨s, r, rfl⟩
          have hs0 := stk_lt (show s0 ∈ stk a p by rw [hsr]; exact List.mem_cons_self)
          have hlen : hi = r0.length + 1 := by rw [hh, hsr]; simp
          have hfo0 : fo r0.length = s0 := by
            have := hfo 0 s0 (by rw [hsr]; rfl)
            rw [hsr] at this; simpa using this
          refine V.iinc (pc := 46) d_Mo_joins_46 rfl ⟨by omega, by omega⟩ (Nat.le_of_ble_eq_true rfl) rfl ?_
          dsimp only [put]
          refine V.aload_n (pc := 49) 2 d_Mo_joins_49 rfl rfl ?_
          refine V.iload_n (pc := 50) 3 d_Mo_joins_50 rfl rfl ?_
          refine V.iload (pc := 51) d_Mo_joins_51 rfl ?_
          refine V.iadd (pc := 53) d_Mo_joins_53 ⟨by omega, by omega⟩ ?_
          refine V.aload_n (pc := 54) 0 d_Mo_joins_54 rfl rfl ?_
          refine V.getf (pc := 55) 13 cl_Mo fl_Mo_43_Mo d_Mo_joins_55 (hM_o _) (Nat.le_of_ble_eq_true rfl) rfl ?_
          refine V.iload (pc := 58) d_Mo_joins_58 rfl ?_
          refine V.iald (pc := 60) d_Mo_joins_60 (ar_open _).1 (by omega) (by omega) ?_
          try simp (disch := omega) only [sset_n, sset_e]
          rw [show (hi + (-1)).toNat = r0.length by omega, hfo0]
          refine V.iast (pc := 61) d_Mo_joins_61 (ht _).1 (by omega) (by omega) ?_
          rw [(ht _).2]
          simp (disch := omega) only [sset_n, sset_e]
          rw [sset_tw]
          refine V.aload_n (pc := 62) 2 d_Mo_joins_62 rfl rfl ?_
          refine V.iload_n (pc := 63) 3 d_Mo_joins_63 rfl rfl ?_
          refine V.aload_n (pc := 64) 0 d_Mo_joins_64 rfl rfl ?_
          refine V.getf (pc := 65) 13 cl_Mo fl_Mo_43_Mo d_Mo_joins_65 (hM_o _) (Nat.le_of_ble_eq_true rfl) rfl ?_
          refine V.iload (pc := 68) d_Mo_joins_68 rfl ?_
          refine V.iald (pc := 70) d_Mo_joins_70 (ar_open _).1 (by omega) (by omega) ?_
          try simp (disch := omega) only [sset_n, sset_e]
          rw [show (hi + (-1)).toNat = r0.length by omega, hfo0]
          refine V.iadd (pc := 71) d_Mo_joins_71 ⟨by omega, by omega⟩ ?_
          refine V.iload (pc := 72) d_Mo_joins_72 rfl ?_
          refine V.iast (pc := 74) d_Mo_joins_74 (ht _).1 (by omega) (by omega) ?_
          rw [(ht _).2]
          try simp (disch := omega) only [sset_n, sset_e]
          try rw [sset_tw]
          refine V.iinc (pc := 75) d_Mo_joins_75 rfl ⟨by omega, by omega⟩ (Nat.le_of_ble_eq_true rfl) rfl ?_
          dsimp only [put]
          refine V.goto (tgt := 6) (pc := 78) d_Mo_joins_78 (by decide) ?_
          refine ih (p + 1) _ _ fo _ (by omega) (by omega) ?_ ?_ ?_ ?_ ?_
          · rw [stk_minus (by omega), hsr]; simp; omega
          · intro q hq
            by_cases e : q = p
            · subst e; right; rw [hsr]; simp
            · exact hnf q (by omega)
          · intro j x hj
            rw [stk_minus (by omega), hsr] at hj ⊢
            simp only [List.tail_cons] at hj ⊢
            have hjl : j < r0.length := (List.getElem?_eq_some_iff.mp hj).1
            have := hfo (j + 1) x (by rw [hsr]; exact hj)
            rw [hsr, List.length_cons] at this
            rw [← this]
            congr 1; omega
          · intro i hi2
            unfold upf
            rw [if_neg (by omega), if_neg (by omega)]
            exact hft1 i hi2
          · intro q hq
            rw [jn_minus (by omega) hsr]
            unfold upf
            have e1 : ((A : Int) + pp).toNat = A + p := by omega
            have e2 : ((A : Int) + (s0 : Int)).toNat = A + s0 := by omega
            rw [e1, e2]
            by_cases q1 : q = s0
            · subst q1; rw [if_pos rfl, if_pos rfl]; omega
            · rw [if_neg (by omega), if_neg q1]
              by_cases q2 : q = p
              · subst q2; rw [if_pos rfl, if_pos rfl]
              · rw [if_neg (by omega), if_neg q2]; exact hft2 q hq
        · skip
          refine V.iconst (pc := 44) d_Mo_joins_44 ⟨by decide, by decide⟩ ?_
          refine V.ret (pc := 45) (r := some (vI _)) d_Mo_joins_45 (Or.inr ⟨rfl, by omega⟩) rfl ?_
          have har : ¬ arch a N := fun g => by
            rcases g.1 p (by omega) with g1 | g1
            · omega
            · exact g1 (List.eq_nil_of_length_eq_zero (by omega))
          exact ⟨rfl, fo, ft, rfl, hft1, by rw [if_neg har], fun g => absurd g har⟩
      · skip
        refine V.aload_n (pc := 24) 0 d_Mo_joins_24 rfl rfl ?_
        refine V.getf (pc := 25) 13 cl_Mo fl_Mo_43_Mo d_Mo_joins_25 (hM_o _) (Nat.le_of_ble_eq_true rfl) rfl ?_
        refine V.iload (pc := 28) d_Mo_joins_28 rfl ?_
        refine V.iload (pc := 30) d_Mo_joins_30 rfl ?_
        refine V.iast (pc := 32) d_Mo_joins_32 (ar_open _).1 (by omega) (by omega) ?_
        rw [(ar_open _).2]
        simp (disch := omega) only [sset_n, sset_e]
        rw [sset_sw h3]
        refine V.iinc (pc := 33) d_Mo_joins_33 rfl ⟨by omega, by omega⟩ (Nat.le_of_ble_eq_true rfl) rfl ?_
        dsimp only [put]
        refine V.goto (tgt := 75) (pc := 36) d_Mo_joins_36 (by decide) ?_
        try simp (disch := omega) only [sset_n, sset_e]
        try rw [sset_tw]
        refine V.iinc (pc := 75) d_Mo_joins_75 rfl ⟨by omega, by omega⟩ (Nat.le_of_ble_eq_true rfl) rfl ?_
        dsimp only [put]
        refine V.goto (tgt := 6) (pc := 78) d_Mo_joins_78 (by decide) ?_
        refine ih (p + 1) _ _ _ ft (by omega) (by omega) ?_ ?_ ?_ hft1 ?_
        · rw [stk_plus (by omega)]; simp; omega
        · intro q hq
          by_cases e : q = p
          · subst e; left; omega
          · exact hnf q (by omega)
        · intro j x hj
          rw [stk_plus (by omega)] at hj ⊢
          rw [List.length_cons]
          have hhn : hi.toNat = (stk a p).length := by omega
          match j, hj with
          | 0, hj => cases hj; unfold upf; rw [if_pos (by omega)]; omega
          | j + 1, hj =>
            have hjl : j < (stk a p).length := by have := (List.getElem?_eq_some_iff.mp hj).1; rw [List.length_cons] at this; omega
            have := hfo j x hj
            unfold upf
            rw [if_neg (by omega), ← this]
            congr 1; omega
        · intro q hq
          rw [jn_plus (by omega)]; exact hft2 q hq
set_option maxRecDepth 20000 in
theorem ct_Mo_joins {ks kt as at_ Ls Lt : Nat} (hs : Arr ks as Ls) (ht : Arr kt at_ Lt) (h1 : ks ≠ kt) (h2 : ks ≠ 13) (h3 : kt ≠ 13) (σ : SM) (A N : Nat) (hN : N ≤ 20) (hA : A + 2 * N ≤ Ls) (hA2 : A + 2 * N ≤ Lt) (hb : Ls ≤ 10000) (sz : Nat) : Ct M_Mo_joins 0 0 0 [vR 8, vR as, vR at_, vI A, vI N] (hM σ) sz (QJ σ (fun q => σ ks (A + q)) kt A N sz) := by
  refine Ct.of rfl (Nat.le_of_ble_eq_true rfl) ?_
  dsimp only [lsOf]
  refine V.iconst (pc := 0) d_Mo_joins_0 ⟨by decide, by decide⟩ ?_
  refine V.istore (pc := 1) d_Mo_joins_1 (Nat.le_of_ble_eq_true rfl) rfl ?_
  dsimp only [put]
  refine V.iconst (pc := 3) d_Mo_joins_3 ⟨by decide, by decide⟩ ?_
  refine V.istore (pc := 4) d_Mo_joins_4 (Nat.le_of_ble_eq_true rfl) rfl ?_
  dsimp only [put]
  have k := lp_Mo_joins hs ht h1 h2 h3 σ (fun q => σ ks (A + q)) A N rfl hN hA hA2 hb sz (2 * N) 0 0 0 (σ 13) (σ kt) (by omega) rfl rfl (fun q hq => by omega) (fun j x hj => by simp [stk] at hj) (fun i _ => rfl) (fun q _ => rfl)
  rw [sset_id, sset_id] at k
  exact k

