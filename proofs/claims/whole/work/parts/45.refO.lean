/-! THE REFERENCE: endsOf, printed by wip/whole/gen/refO.py -/
set_option maxRecDepth 20000 in
theorem lp_Mo_ends1 (σ : SM) (left hgt : Int) (l : Nat) (ll : Int) (hll : ll = l) (hl : 1 ≤ l ∧ l ≤ 24) (sz : Nat) (Q : QT) (K : ∀ (e : Nat → Int) (x : Option MV), (∀ y, y < l + 1 → ∀ h, h ≤ 25 → e (26 * y + h) = En y h) → (∀ j, 26 * (l + 1) ≤ j → j < 650 → e j = 0) → V M_Mo_endsOf 0 21 [some (vR 8), some (vI left), some (vI hgt), some (vI (ll + 1)), x] [] (hM (sset (sset σ 20 (fun _ => 1)) 19 e)) sz 0 0 Q) : ∀ (c h : Nat) (hh : Int) (e : Nat → Int), h + c = 25 → hh = h → (∀ y, y < l → ∀ h, h ≤ 25 → e (26 * y + h) = En y h) → (∀ g, g < h → e (26 * l + g) = En l g) → (∀ j, 26 * l + h ≤ j → j < 650 → e j = 0) →
    V M_Mo_endsOf 0 30 [some (vR 8), some (vI left), some (vI hgt), some (vI ll), some (vI hh)] [] (hM (sset (sset σ 20 (fun _ => 1)) 19 e)) sz 0 0 Q := by
  intro c
  induction c with
  | zero =>
    intro h hh e hc hhh hr hq hz
    refine V.iload (pc := 30) d_Mo_endsOf_30 rfl ?_
    refine V.bipush (pc := 32) d_Mo_endsOf_32 ⟨by decide, by decide⟩ ?_
    refine V.icmp_ge (tgt := 97) (pc := 34) d_Mo_endsOf_34 (by decide) (fun c_34 => ?_) (fun c_34 => ?_)
    · skip
      refine V.iinc (pc := 97) d_Mo_endsOf_97 rfl ⟨by omega, by omega⟩ (Nat.le_of_ble_eq_true rfl) rfl ?_
      dsimp only [put]
      refine V.goto (tgt := 21) (pc := 100) d_Mo_endsOf_100 (by decide) ?_
      refine K e _ (fun y hy g hg => ?_) (fun j h1 h2 => hz j (by omega) h2)
      by_cases e9 : y = l
      · rw [e9]
        by_cases e8 : g = 25
        · rw [e8, En_far l 25 (by omega)]; exact hz _ (by omega) (by omega)
        · exact hq g (by omega)
      · exact hr y (by omega) g hg
    · skip
      exfalso; omega
  | succ c ih =>
    intro h hh e hc hhh hr hq hz
    refine V.iload (pc := 30) d_Mo_endsOf_30 rfl ?_
    refine V.bipush (pc := 32) d_Mo_endsOf_32 ⟨by decide, by decide⟩ ?_
    refine V.icmp_ge (tgt := 97) (pc := 34) d_Mo_endsOf_34 (by decide) (fun c_34 => ?_) (fun c_34 => ?_)
    · skip
      exfalso; omega
    · skip
      refine V.aload_n (pc := 37) 0 d_Mo_endsOf_37 rfl rfl ?_
      refine V.getf (pc := 38) 19 cl_Mo fl_Mo_56_Mo d_Mo_endsOf_38 (hM_o _) (Nat.le_of_ble_eq_true rfl) rfl ?_
      refine V.bipush (pc := 41) d_Mo_endsOf_41 ⟨by decide, by decide⟩ ?_
      refine V.iload_n (pc := 43) 3 d_Mo_endsOf_43 rfl rfl ?_
      refine V.imul (pc := 44) d_Mo_endsOf_44 ⟨by omega, by omega⟩ ?_
      refine V.iload (pc := 45) d_Mo_endsOf_45 rfl ?_
      refine V.iadd (pc := 47) d_Mo_endsOf_47 ⟨by omega, by omega⟩ ?_
      refine V.aload_n (pc := 48) 0 d_Mo_endsOf_48 rfl rfl ?_
      refine V.getf (pc := 49) 19 cl_Mo fl_Mo_56_Mo d_Mo_endsOf_49 (hM_o _) (Nat.le_of_ble_eq_true rfl) rfl ?_
      refine V.bipush (pc := 52) d_Mo_endsOf_52 ⟨by decide, by decide⟩ ?_
      refine V.iload_n (pc := 54) 3 d_Mo_endsOf_54 rfl rfl ?_
      refine V.iconst (pc := 55) d_Mo_endsOf_55 ⟨by decide, by decide⟩ ?_
      refine V.isub (pc := 56) d_Mo_endsOf_56 ⟨by omega, by omega⟩ ?_
      refine V.imul (pc := 57) d_Mo_endsOf_57 ⟨by omega, by omega⟩ ?_
      refine V.iload (pc := 58) d_Mo_endsOf_58 rfl ?_
      refine V.iadd (pc := 60) d_Mo_endsOf_60 ⟨by omega, by omega⟩ ?_
      refine V.iconst (pc := 61) d_Mo_endsOf_61 ⟨by decide, by decide⟩ ?_
      refine V.iadd (pc := 62) d_Mo_endsOf_62 ⟨by omega, by omega⟩ ?_
      refine V.iald (pc := 63) d_Mo_endsOf_63 (ar_ends _).1 (by omega) (by omega) ?_
      try simp (disch := omega) only [sset_n, sset_e]
      rw [show (26 * (ll - 1) + hh + 1).toNat = 26 * (l - 1) + (h + 1) by omega, hr (l - 1) (by omega) (h + 1) (by omega)]
      have hb1 := En_24 (show l - 1 ≤ 24 by omega) (h + 1)
      refine V.iload (pc := 64) d_Mo_endsOf_64 rfl ?_
      refine V.if_le (tgt := 88) (pc := 66) d_Mo_endsOf_66 (by decide) (fun c_66 => ?_) (fun c_66 => ?_)
      · skip
        refine V.iconst (pc := 88) d_Mo_endsOf_88 ⟨by decide, by decide⟩ ?_
        refine V.iadd (pc := 89) d_Mo_endsOf_89 ⟨by omega, by omega⟩ ?_
        refine V.iast (pc := 90) d_Mo_endsOf_90 (ar_ends _).1 (by omega) (by omega) ?_
        rw [(ar_ends _).2]
        refine V.iinc (pc := 91) d_Mo_endsOf_91 rfl ⟨by omega, by omega⟩ (Nat.le_of_ble_eq_true rfl) rfl ?_
        dsimp only [put]
        refine V.goto (tgt := 30) (pc := 94) d_Mo_endsOf_94 (by decide) ?_
        rw [sset_tw]
        have hE : En l h = En (l - 1) (h + 1) + 0 := by
          obtain ⟨m, hm⟩ : ∃ m, l = m + 1 := ⟨l - 1, by omega⟩
          rw [hm]
          show En m (h + 1) + (if 0 < h then En m (h - 1) else 0) = _
          rw [if_neg (by omega)]; rfl
        rw [← hE, show (26 * ll + hh).toNat = 26 * l + h by omega]
        refine ih (h + 1) _ _ (by omega) (by omega) (fun y hy g hg => ?_) (fun g hg => ?_) (fun j h1 h2 => ?_)
        · rw [upf_n (by omega)]; exact hr y hy g hg
        · by_cases e9 : g = h
          · rw [e9, upf_e]
          · rw [upf_n (by omega)]; exact hq g (by omega)
        · rw [upf_n (by omega)]; exact hz j (by omega) h2
      · skip
        refine V.aload_n (pc := 69) 0 d_Mo_endsOf_69 rfl rfl ?_
        refine V.getf (pc := 70) 19 cl_Mo fl_Mo_56_Mo d_Mo_endsOf_70 (hM_o _) (Nat.le_of_ble_eq_true rfl) rfl ?_
        refine V.bipush (pc := 73) d_Mo_endsOf_73 ⟨by decide, by decide⟩ ?_
        refine V.iload_n (pc := 75) 3 d_Mo_endsOf_75 rfl rfl ?_
        refine V.iconst (pc := 76) d_Mo_endsOf_76 ⟨by decide, by decide⟩ ?_
        refine V.isub (pc := 77) d_Mo_endsOf_77 ⟨by omega, by omega⟩ ?_
        refine V.imul (pc := 78) d_Mo_endsOf_78 ⟨by omega, by omega⟩ ?_
        refine V.iload (pc := 79) d_Mo_endsOf_79 rfl ?_
        refine V.iadd (pc := 81) d_Mo_endsOf_81 ⟨by omega, by omega⟩ ?_
        refine V.iconst (pc := 82) d_Mo_endsOf_82 ⟨by decide, by decide⟩ ?_
        refine V.isub (pc := 83) d_Mo_endsOf_83 ⟨by omega, by omega⟩ ?_
        refine V.iald (pc := 84) d_Mo_endsOf_84 (ar_ends _).1 (by omega) (by omega) ?_
        try simp (disch := omega) only [sset_n, sset_e]
        rw [show (26 * (ll - 1) + hh - 1).toNat = 26 * (l - 1) + (h - 1) by omega, hr (l - 1) (by omega) (h - 1) (by omega)]
        have hb2 := En_24 (show l - 1 ≤ 24 by omega) (h - 1)
        refine V.goto (tgt := 89) (pc := 85) d_Mo_endsOf_85 (by decide) ?_
        refine V.iadd (pc := 89) d_Mo_endsOf_89 ⟨by omega, by omega⟩ ?_
        refine V.iast (pc := 90) d_Mo_endsOf_90 (ar_ends _).1 (by omega) (by omega) ?_
        rw [(ar_ends _).2]
        refine V.iinc (pc := 91) d_Mo_endsOf_91 rfl ⟨by omega, by omega⟩ (Nat.le_of_ble_eq_true rfl) rfl ?_
        dsimp only [put]
        refine V.goto (tgt := 30) (pc := 94) d_Mo_endsOf_94 (by decide) ?_
        rw [sset_tw]
        have hE : En l h = En (l - 1) (h + 1) + En (l - 1) (h - 1) := by
          obtain ⟨m, hm⟩ : ∃ m, l = m + 1 := ⟨l - 1, by omega⟩
          rw [hm]
          show En m (h + 1) + (if 0 < h then En m (h - 1) else 0) = _
          rw [if_pos (by omega)]; rfl
        rw [← hE, show (26 * ll + hh).toNat = 26 * l + h by omega]
        refine ih (h + 1) _ _ (by omega) (by omega) (fun y hy g hg => ?_) (fun g hg => ?_) (fun j h1 h2 => ?_)
        · rw [upf_n (by omega)]; exact hr y hy g hg
        · by_cases e9 : g = h
          · rw [e9, upf_e]
          · rw [upf_n (by omega)]; exact hq g (by omega)
        · rw [upf_n (by omega)]; exact hz j (by omega) h2
