/-! THE REFERENCE: count, printed by wip/whole/gen/refD.py -/
def cn (f : Nat → Int) : Nat → Int
  | 0 => 0
  | k + 1 => cn f k + f k
def fS (S : SS) (k : Nat) : Int := match S.1 k with
  | none => 0
  | some _ => 1
def cK (w : Int) : Int := if w = 1 then 0 else if w = 2 then 1 else if w = 3 then 5 else 7
def fT (S : SS) (w : Int) (t : Nat) : Int := match S.2.1 t with
  | none => 0
  | some (kd, _, _, _) => if isOf kd (cK w) then 1 else 0
def sp_count (S : SS) (w : Int) : Int × SS := if 0 ≤ w ∧ w ≤ 4 then (if w = 0 then cn (fS S) 8 else cn (fT S w) 10, S) else (-1000001, S)
theorem fS_is {S : SS} {σ : SM} (hI : RI S σ) {k : Nat} (hk : k < 8) : fS S k = if 0 < σ 0 k then 1 else 0 := by
  unfold fS
  rcases sh_cases hI.1 hk with ⟨hS, hk⟩ | ⟨l, n, f, hS, hl1, hl2, hn1, hk, -⟩
  · simp only [hS]; rw [if_neg (by omega)]
  · simp only [hS]; rw [if_pos (by omega)]
theorem fT_is {S : SS} {σ : SM} (hI : RI S σ) (w : Int) {t : Nat} (ht : t < 10) : fT S w t = if 0 < σ 4 t ∧ isOf (σ 4 t) (cK w) then 1 else 0 := by
  unfold fT
  rcases th_cases hI.2.1 ht with ⟨hS, hk⟩ | ⟨kd, n, a, b, hS, hone⟩
  · simp only [hS]; rw [if_neg (by omega)]
  · obtain ⟨hw, hk, -⟩ := id hone
    have hwk := wf_kind hw
    simp only [hS]
    rw [hk]
    by_cases h : isOf kd (cK w)
    · rw [if_pos h, if_pos ⟨by omega, h⟩]
    · rw [if_neg h, if_neg (fun z => h z.2)]
theorem cK_is {w : Int} (h : 1 ≤ w ∧ w ≤ 4) : (w = 1 ∧ cK w = 0) ∨ (w = 2 ∧ cK w = 1) ∨ (w = 3 ∧ cK w = 5) ∨ (w = 4 ∧ cK w = 7) := by
  unfold cK
  by_cases h1 : w = 1
  · rw [if_pos h1]; omega
  · rw [if_neg h1]
    by_cases h2 : w = 2
    · rw [if_pos h2]; omega
    · rw [if_neg h2]
      by_cases h3 : w = 3
      · rw [if_pos h3]; omega
      · rw [if_neg h3]; omega
theorem cn_rng {f : Nat → Int} (h : ∀ k, 0 ≤ f k ∧ f k ≤ 1) : ∀ k : Nat, 0 ≤ cn f k ∧ cn f k ≤ k
  | 0 => ⟨Int.le_refl 0, Int.le_refl 0⟩
  | k + 1 => by
    have h1 := cn_rng h k
    have h2 := h k
    have e : cn f (k + 1) = cn f k + f k := rfl
    rw [e]; omega
theorem fS_rng (S : SS) (k : Nat) : 0 ≤ fS S k ∧ fS S k ≤ 1 := by unfold fS; split <;> omega
theorem fT_rng (S : SS) (w : Int) (k : Nat) : 0 ≤ fT S w k ∧ fT S w k ≤ 1 := by
  unfold fT; split
  · omega
  · split <;> omega
set_option maxRecDepth 20000 in
theorem lp_Mo_count2 (S : SS) (σ : SM) (hI : RI S σ) (w : Int) (hw : 1 ≤ w ∧ w ≤ 4) (sz : Nat) : ∀ (c p : Nat) (kk acc : Int) (x : Option MV), p + c = 10 → kk = p → acc = cn (fT S w) p →
    V M_Mo_count 1 54 [some (vR 8), some (vI w), some (vI acc), some (vI kk), x] [] (hM σ) sz 0 0 (QS (sp_count S w) sz) := by
  intro c
  induction c with
  | zero =>
    intro p kk acc x hc hkk hacc
    refine V.iload_n (pc := 54) 3 d_Mo_count_54 rfl rfl ?_
    refine V.bipush (pc := 55) d_Mo_count_55 ⟨by decide, by decide⟩ ?_
    refine V.icmp_ge (tgt := 128) (pc := 57) d_Mo_count_57 (by decide) (fun c_57 => ?_) (fun c_57 => ?_)
    · skip
      refine V.iload_n (pc := 128) 2 d_Mo_count_128 rfl rfl ?_
      refine V.ret (pc := 129) (r := some (vI _)) d_Mo_count_129 (Or.inl rfl) rfl ?_
      exact qs_of (by unfold sp_count; rw [if_pos (by omega), if_neg (by omega), hacc, show p = 10 by omega]) hI
    · skip
      exfalso; omega
  | succ c ih =>
    intro p kk acc x hc hkk hacc
    refine V.iload_n (pc := 54) 3 d_Mo_count_54 rfl rfl ?_
    refine V.bipush (pc := 55) d_Mo_count_55 ⟨by decide, by decide⟩ ?_
    refine V.icmp_ge (tgt := 128) (pc := 57) d_Mo_count_57 (by decide) (fun c_57 => ?_) (fun c_57 => ?_)
    · skip
      exfalso; omega
    · skip
      refine V.iload_n (pc := 60) 1 d_Mo_count_60 rfl rfl ?_
      refine V.if_le (tgt := 128) (pc := 61) d_Mo_count_61 (by decide) (fun c_61 => ?_) (fun c_61 => ?_)
      · skip
        exfalso; omega
      · skip
        refine V.aload_n (pc := 64) 0 d_Mo_count_64 rfl rfl ?_
        refine V.getf (pc := 65) 4 cl_Mo fl_Mo_22_Mo d_Mo_count_65 (hM_o _) (Nat.le_of_ble_eq_true rfl) rfl ?_
        refine V.iload_n (pc := 68) 3 d_Mo_count_68 rfl rfl ?_
        refine V.iald (pc := 69) d_Mo_count_69 (ar_kinds _).1 (by omega) (by omega) ?_
        try simp (disch := omega) only [sset_n, sset_e]
        rw [show kk.toNat = p by omega]
        have hfp := fT_is hI w (t := p) (by omega)
        have hcK := cK_is hw
        have hrg := cn_rng (fT_rng S w) p
        refine V.istore (pc := 70) d_Mo_count_70 (Nat.le_of_ble_eq_true rfl) rfl ?_
        dsimp only [put]
        refine V.iload_n (pc := 72) 2 d_Mo_count_72 rfl rfl ?_
        refine V.iload (pc := 73) d_Mo_count_73 rfl ?_
        refine V.if_le (tgt := 119) (pc := 75) d_Mo_count_75 (by decide) (fun c_75 => ?_) (fun c_75 => ?_)
        · skip
          refine V.iconst (pc := 119) d_Mo_count_119 ⟨by decide, by decide⟩ ?_
          refine V.iadd (pc := 120) d_Mo_count_120 ⟨by omega, by omega⟩ ?_
          refine V.istore_n (pc := 121) 2 d_Mo_count_121 rfl (Nat.le_of_ble_eq_true rfl) rfl ?_
          dsimp only [put]
          refine V.iinc (pc := 122) d_Mo_count_122 rfl ⟨by omega, by omega⟩ (Nat.le_of_ble_eq_true rfl) rfl ?_
          dsimp only [put]
          refine V.goto (tgt := 54) (pc := 125) d_Mo_count_125 (by decide) ?_
          refine ih (p + 1) _ _ _ (by omega) (by omega) ?_
          show _ = cn (fT S w) p + fT S w p
          rw [hfp, hacc]
          first | rw [if_pos (by omega)] | rw [if_neg (by omega)]
          try omega
        · skip
          refine V.iload (pc := 78) d_Mo_count_78 rfl ?_
          refine V.iload_n (pc := 80) 1 d_Mo_count_80 rfl rfl ?_
          refine V.iconst (pc := 81) d_Mo_count_81 ⟨by decide, by decide⟩ ?_
          refine V.icmp_ne (tgt := 89) (pc := 82) d_Mo_count_82 (by decide) (fun c_82 => ?_) (fun c_82 => ?_)
          · skip
            refine V.iload_n (pc := 89) 1 d_Mo_count_89 rfl rfl ?_
            refine V.iconst (pc := 90) d_Mo_count_90 ⟨by decide, by decide⟩ ?_
            refine V.icmp_ne (tgt := 98) (pc := 91) d_Mo_count_91 (by decide) (fun c_91 => ?_) (fun c_91 => ?_)
            · skip
              refine V.iload_n (pc := 98) 1 d_Mo_count_98 rfl rfl ?_
              refine V.iconst (pc := 99) d_Mo_count_99 ⟨by decide, by decide⟩ ?_
              refine V.icmp_ne (tgt := 107) (pc := 100) d_Mo_count_100 (by decide) (fun c_100 => ?_) (fun c_100 => ?_)
              · skip
                refine V.bipush (pc := 107) d_Mo_count_107 ⟨by decide, by decide⟩ ?_
                refine V.cS2 (pc := 109) (kc2 := 0) (ks2 := 0) ml_Mo_161 (ct_Mo_isOf _ _ _ _) d_Mo_count_109 (Nat.le_of_ble_eq_true rfl) (Nat.le_of_ble_eq_true rfl) (Nat.le_of_ble_eq_true rfl) (Nat.le_of_ble_eq_true rfl) ?_
                rintro _ _ _ ⟨rfl, rfl, rfl⟩
                dsimp only [Option.toList, List.cons_append, List.nil_append]
                refine V.ifB_eq (tgt := 119) (pc := 112) d_Mo_count_112 (by decide) (fun c_112 => ?_) (fun c_112 => ?_)
                · skip
                  refine V.iconst (pc := 119) d_Mo_count_119 ⟨by decide, by decide⟩ ?_
                  refine V.iadd (pc := 120) d_Mo_count_120 ⟨by omega, by omega⟩ ?_
                  refine V.istore_n (pc := 121) 2 d_Mo_count_121 rfl (Nat.le_of_ble_eq_true rfl) rfl ?_
                  dsimp only [put]
                  refine V.iinc (pc := 122) d_Mo_count_122 rfl ⟨by omega, by omega⟩ (Nat.le_of_ble_eq_true rfl) rfl ?_
                  dsimp only [put]
                  refine V.goto (tgt := 54) (pc := 125) d_Mo_count_125 (by decide) ?_
                  refine ih (p + 1) _ _ _ (by omega) (by omega) ?_
                  show _ = cn (fT S w) p + fT S w p
                  rw [hfp, hacc]
                  first | rw [if_pos (by omega)] | rw [if_neg (by omega)]
                  try omega
                · skip
                  refine V.iconst (pc := 115) d_Mo_count_115 ⟨by decide, by decide⟩ ?_
                  refine V.goto (tgt := 120) (pc := 116) d_Mo_count_116 (by decide) ?_
                  refine V.iadd (pc := 120) d_Mo_count_120 ⟨by omega, by omega⟩ ?_
                  refine V.istore_n (pc := 121) 2 d_Mo_count_121 rfl (Nat.le_of_ble_eq_true rfl) rfl ?_
                  dsimp only [put]
                  refine V.iinc (pc := 122) d_Mo_count_122 rfl ⟨by omega, by omega⟩ (Nat.le_of_ble_eq_true rfl) rfl ?_
                  dsimp only [put]
                  refine V.goto (tgt := 54) (pc := 125) d_Mo_count_125 (by decide) ?_
                  refine ih (p + 1) _ _ _ (by omega) (by omega) ?_
                  show _ = cn (fT S w) p + fT S w p
                  rw [hfp, hacc]
                  first | rw [if_pos (by omega)] | rw [if_neg (by omega)]
                  try omega
              · skip
                refine V.iconst (pc := 103) d_Mo_count_103 ⟨by decide, by decide⟩ ?_
                refine V.goto (tgt := 109) (pc := 104) d_Mo_count_104 (by decide) ?_
                refine V.cS2 (pc := 109) (kc2 := 0) (ks2 := 0) ml_Mo_161 (ct_Mo_isOf _ _ _ _) d_Mo_count_109 (Nat.le_of_ble_eq_true rfl) (Nat.le_of_ble_eq_true rfl) (Nat.le_of_ble_eq_true rfl) (Nat.le_of_ble_eq_true rfl) ?_
                rintro _ _ _ ⟨rfl, rfl, rfl⟩
                dsimp only [Option.toList, List.cons_append, List.nil_append]
                refine V.ifB_eq (tgt := 119) (pc := 112) d_Mo_count_112 (by decide) (fun c_112 => ?_) (fun c_112 => ?_)
                · skip
                  refine V.iconst (pc := 119) d_Mo_count_119 ⟨by decide, by decide⟩ ?_
                  refine V.iadd (pc := 120) d_Mo_count_120 ⟨by omega, by omega⟩ ?_
                  refine V.istore_n (pc := 121) 2 d_Mo_count_121 rfl (Nat.le_of_ble_eq_true rfl) rfl ?_
                  dsimp only [put]
                  refine V.iinc (pc := 122) d_Mo_count_122 rfl ⟨by omega, by omega⟩ (Nat.le_of_ble_eq_true rfl) rfl ?_
                  dsimp only [put]
                  refine V.goto (tgt := 54) (pc := 125) d_Mo_count_125 (by decide) ?_
                  refine ih (p + 1) _ _ _ (by omega) (by omega) ?_
                  show _ = cn (fT S w) p + fT S w p
                  rw [hfp, hacc]
                  first | rw [if_pos (by omega)] | rw [if_neg (by omega)]
                  try omega
                · skip
                  refine V.iconst (pc := 115) d_Mo_count_115 ⟨by decide, by decide⟩ ?_
                  refine V.goto (tgt := 120) (pc := 116) d_Mo_count_116 (by decide) ?_
                  refine V.iadd (pc := 120) d_Mo_count_120 ⟨by omega, by omega⟩ ?_
                  refine V.istore_n (pc := 121) 2 d_Mo_count_121 rfl (Nat.le_of_ble_eq_true rfl) rfl ?_
                  dsimp only [put]
                  refine V.iinc (pc := 122) d_Mo_count_122 rfl ⟨by omega, by omega⟩ (Nat.le_of_ble_eq_true rfl) rfl ?_
                  dsimp only [put]
                  refine V.goto (tgt := 54) (pc := 125) d_Mo_count_125 (by decide) ?_
                  refine ih (p + 1) _ _ _ (by omega) (by omega) ?_
                  show _ = cn (fT S w) p + fT S w p
                  rw [hfp, hacc]
                  first | rw [if_pos (by omega)] | rw [if_neg (by omega)]
                  try omega
            · skip
              refine V.iconst (pc := 94) d_Mo_count_94 ⟨by decide, by decide⟩ ?_
              refine V.goto (tgt := 109) (pc := 95) d_Mo_count_95 (by decide) ?_
              refine V.cS2 (pc := 109) (kc2 := 0) (ks2 := 0) ml_Mo_161 (ct_Mo_isOf _ _ _ _) d_Mo_count_109 (Nat.le_of_ble_eq_true rfl) (Nat.le_of_ble_eq_true rfl) (Nat.le_of_ble_eq_true rfl) (Nat.le_of_ble_eq_true rfl) ?_
              rintro _ _ _ ⟨rfl, rfl, rfl⟩
              dsimp only [Option.toList, List.cons_append, List.nil_append]
              refine V.ifB_eq (tgt := 119) (pc := 112) d_Mo_count_112 (by decide) (fun c_112 => ?_) (fun c_112 => ?_)
              · skip
                refine V.iconst (pc := 119) d_Mo_count_119 ⟨by decide, by decide⟩ ?_
                refine V.iadd (pc := 120) d_Mo_count_120 ⟨by omega, by omega⟩ ?_
                refine V.istore_n (pc := 121) 2 d_Mo_count_121 rfl (Nat.le_of_ble_eq_true rfl) rfl ?_
                dsimp only [put]
                refine V.iinc (pc := 122) d_Mo_count_122 rfl ⟨by omega, by omega⟩ (Nat.le_of_ble_eq_true rfl) rfl ?_
                dsimp only [put]
                refine V.goto (tgt := 54) (pc := 125) d_Mo_count_125 (by decide) ?_
                refine ih (p + 1) _ _ _ (by omega) (by omega) ?_
                show _ = cn (fT S w) p + fT S w p
                rw [hfp, hacc]
                first | rw [if_pos (by omega)] | rw [if_neg (by omega)]
                try omega
              · skip
                refine V.iconst (pc := 115) d_Mo_count_115 ⟨by decide, by decide⟩ ?_
                refine V.goto (tgt := 120) (pc := 116) d_Mo_count_116 (by decide) ?_
                refine V.iadd (pc := 120) d_Mo_count_120 ⟨by omega, by omega⟩ ?_
                refine V.istore_n (pc := 121) 2 d_Mo_count_121 rfl (Nat.le_of_ble_eq_true rfl) rfl ?_
                dsimp only [put]
                refine V.iinc (pc := 122) d_Mo_count_122 rfl ⟨by omega, by omega⟩ (Nat.le_of_ble_eq_true rfl) rfl ?_
                dsimp only [put]
                refine V.goto (tgt := 54) (pc := 125) d_Mo_count_125 (by decide) ?_
                refine ih (p + 1) _ _ _ (by omega) (by omega) ?_
                show _ = cn (fT S w) p + fT S w p
                rw [hfp, hacc]
                first | rw [if_pos (by omega)] | rw [if_neg (by omega)]
                try omega
          · skip
            refine V.iconst (pc := 85) d_Mo_count_85 ⟨by decide, by decide⟩ ?_
            refine V.goto (tgt := 109) (pc := 86) d_Mo_count_86 (by decide) ?_
            refine V.cS2 (pc := 109) (kc2 := 0) (ks2 := 0) ml_Mo_161 (ct_Mo_isOf _ _ _ _) d_Mo_count_109 (Nat.le_of_ble_eq_true rfl) (Nat.le_of_ble_eq_true rfl) (Nat.le_of_ble_eq_true rfl) (Nat.le_of_ble_eq_true rfl) ?_
            rintro _ _ _ ⟨rfl, rfl, rfl⟩
            dsimp only [Option.toList, List.cons_append, List.nil_append]
            refine V.ifB_eq (tgt := 119) (pc := 112) d_Mo_count_112 (by decide) (fun c_112 => ?_) (fun c_112 => ?_)
            · skip
              refine V.iconst (pc := 119) d_Mo_count_119 ⟨by decide, by decide⟩ ?_
              refine V.iadd (pc := 120) d_Mo_count_120 ⟨by omega, by omega⟩ ?_
              refine V.istore_n (pc := 121) 2 d_Mo_count_121 rfl (Nat.le_of_ble_eq_true rfl) rfl ?_
              dsimp only [put]
              refine V.iinc (pc := 122) d_Mo_count_122 rfl ⟨by omega, by omega⟩ (Nat.le_of_ble_eq_true rfl) rfl ?_
              dsimp only [put]
              refine V.goto (tgt := 54) (pc := 125) d_Mo_count_125 (by decide) ?_
              refine ih (p + 1) _ _ _ (by omega) (by omega) ?_
              show _ = cn (fT S w) p + fT S w p
              rw [hfp, hacc]
              first | rw [if_pos (by omega)] | rw [if_neg (by omega)]
              try omega
            · skip
              refine V.iconst (pc := 115) d_Mo_count_115 ⟨by decide, by decide⟩ ?_
              refine V.goto (tgt := 120) (pc := 116) d_Mo_count_116 (by decide) ?_
              refine V.iadd (pc := 120) d_Mo_count_120 ⟨by omega, by omega⟩ ?_
              refine V.istore_n (pc := 121) 2 d_Mo_count_121 rfl (Nat.le_of_ble_eq_true rfl) rfl ?_
              dsimp only [put]
              refine V.iinc (pc := 122) d_Mo_count_122 rfl ⟨by omega, by omega⟩ (Nat.le_of_ble_eq_true rfl) rfl ?_
              dsimp only [put]
              refine V.goto (tgt := 54) (pc := 125) d_Mo_count_125 (by decide) ?_
              refine ih (p + 1) _ _ _ (by omega) (by omega) ?_
              show _ = cn (fT S w) p + fT S w p
              rw [hfp, hacc]
              first | rw [if_pos (by omega)] | rw [if_neg (by omega)]
              try omega
set_option maxRecDepth 20000 in
theorem lp_Mo_count1 (S : SS) (σ : SM) (hI : RI S σ) (w : Int) (hw : w = 0) (sz : Nat) : ∀ (c p : Nat) (kk acc : Int) (x : Option MV), p + c = 8 → kk = p → acc = cn (fS S) p →
    V M_Mo_count 1 19 [some (vR 8), some (vI w), some (vI acc), some (vI kk), x] [] (hM σ) sz 0 0 (QS (sp_count S w) sz) := by
  intro c
  induction c with
  | zero =>
    intro p kk acc x hc hkk hacc
    refine V.iload_n (pc := 19) 3 d_Mo_count_19 rfl rfl ?_
    refine V.bipush (pc := 20) d_Mo_count_20 ⟨by decide, by decide⟩ ?_
    refine V.icmp_ge (tgt := 52) (pc := 22) d_Mo_count_22 (by decide) (fun c_22 => ?_) (fun c_22 => ?_)
    · skip
      refine V.iconst (pc := 52) d_Mo_count_52 ⟨by decide, by decide⟩ ?_
      refine V.istore_n (pc := 53) 3 d_Mo_count_53 rfl (Nat.le_of_ble_eq_true rfl) rfl ?_
      dsimp only [put]
      refine V.iload_n (pc := 54) 3 d_Mo_count_54 rfl rfl ?_
      refine V.bipush (pc := 55) d_Mo_count_55 ⟨by decide, by decide⟩ ?_
      refine V.icmp_ge (tgt := 128) (pc := 57) d_Mo_count_57 (by decide) (fun c_57 => ?_) (fun c_57 => ?_)
      · skip
        exfalso; omega
      · skip
        refine V.iload_n (pc := 60) 1 d_Mo_count_60 rfl rfl ?_
        refine V.if_le (tgt := 128) (pc := 61) d_Mo_count_61 (by decide) (fun c_61 => ?_) (fun c_61 => ?_)
        · skip
          refine V.iload_n (pc := 128) 2 d_Mo_count_128 rfl rfl ?_
          refine V.ret (pc := 129) (r := some (vI _)) d_Mo_count_129 (Or.inl rfl) rfl ?_
          exact qs_of (by unfold sp_count; rw [if_pos (by omega), if_pos hw, hacc, show p = 8 by omega]) hI
        · skip
          exfalso; omega
    · skip
      exfalso; omega
  | succ c ih =>
    intro p kk acc x hc hkk hacc
    refine V.iload_n (pc := 19) 3 d_Mo_count_19 rfl rfl ?_
    refine V.bipush (pc := 20) d_Mo_count_20 ⟨by decide, by decide⟩ ?_
    refine V.icmp_ge (tgt := 52) (pc := 22) d_Mo_count_22 (by decide) (fun c_22 => ?_) (fun c_22 => ?_)
    · skip
      exfalso; omega
    · skip
      refine V.iload_n (pc := 25) 1 d_Mo_count_25 rfl rfl ?_
      refine V.if_ne (tgt := 52) (pc := 26) d_Mo_count_26 (by decide) (fun c_26 => ?_) (fun c_26 => ?_)
      · skip
        exfalso; omega
      · skip
        refine V.iload_n (pc := 29) 2 d_Mo_count_29 rfl rfl ?_
        refine V.aload_n (pc := 30) 0 d_Mo_count_30 rfl rfl ?_
        refine V.getf (pc := 31) 0 cl_Mo fl_Mo_7_Mo d_Mo_count_31 (hM_o _) (Nat.le_of_ble_eq_true rfl) rfl ?_
        refine V.iload_n (pc := 34) 3 d_Mo_count_34 rfl rfl ?_
        refine V.iald (pc := 35) d_Mo_count_35 (ar_lane _).1 (by omega) (by omega) ?_
        try simp (disch := omega) only [sset_n, sset_e]
        rw [show kk.toNat = p by omega]
        have hfp := fS_is hI (k := p) (by omega)
        have hrg := cn_rng (fS_rng S) p
        refine V.if_le (tgt := 43) (pc := 36) d_Mo_count_36 (by decide) (fun c_36 => ?_) (fun c_36 => ?_)
        · skip
          refine V.iconst (pc := 43) d_Mo_count_43 ⟨by decide, by decide⟩ ?_
          refine V.iadd (pc := 44) d_Mo_count_44 ⟨by omega, by omega⟩ ?_
          refine V.istore_n (pc := 45) 2 d_Mo_count_45 rfl (Nat.le_of_ble_eq_true rfl) rfl ?_
          dsimp only [put]
          refine V.iinc (pc := 46) d_Mo_count_46 rfl ⟨by omega, by omega⟩ (Nat.le_of_ble_eq_true rfl) rfl ?_
          dsimp only [put]
          refine V.goto (tgt := 19) (pc := 49) d_Mo_count_49 (by decide) ?_
          refine ih (p + 1) _ _ _ (by omega) (by omega) ?_
          show _ = cn (fS S) p + fS S p
          rw [hfp, hacc]
          first | rw [if_pos (by omega)] | rw [if_neg (by omega)]
          try omega
        · skip
          refine V.iconst (pc := 39) d_Mo_count_39 ⟨by decide, by decide⟩ ?_
          refine V.goto (tgt := 44) (pc := 40) d_Mo_count_40 (by decide) ?_
          refine V.iadd (pc := 44) d_Mo_count_44 ⟨by omega, by omega⟩ ?_
          refine V.istore_n (pc := 45) 2 d_Mo_count_45 rfl (Nat.le_of_ble_eq_true rfl) rfl ?_
          dsimp only [put]
          refine V.iinc (pc := 46) d_Mo_count_46 rfl ⟨by omega, by omega⟩ (Nat.le_of_ble_eq_true rfl) rfl ?_
          dsimp only [put]
          refine V.goto (tgt := 19) (pc := 49) d_Mo_count_49 (by decide) ?_
          refine ih (p + 1) _ _ _ (by omega) (by omega) ?_
          show _ = cn (fS S) p + fS S p
          rw [hfp, hacc]
          first | rw [if_pos (by omega)] | rw [if_neg (by omega)]
          try omega
set_option maxRecDepth 20000 in
theorem cs_Mo_count (S : SS) (σ : SM) (hI : RI S σ) (w : Int) (sz : Nat) : Ct M_Mo_count 1 0 0 [vR 8, vI w] (hM σ) sz (QS (sp_count S w) sz) := by
  refine Ct.of rfl (Nat.le_of_ble_eq_true rfl) ?_
  dsimp only [lsOf]
  refine V.iload_n (pc := 0) 1 d_Mo_count_0 rfl rfl ?_
  refine V.i2l (pc := 1) d_Mo_count_1 ?_
  refine V.lconst0 (pc := 2) d_Mo_count_2 ?_
  refine V.ldc2 (pc := 3) (4) ck_Mo_231 rfl ⟨by decide, by decide⟩ d_Mo_count_3 ?_
  refine V.cS3 (pc := 6) (kc2 := 0) (ks2 := 0) ml_Mo_102 (ct_Mo_in _ _ _ _ _) d_Mo_count_6 (Nat.le_of_ble_eq_true rfl) (Nat.le_of_ble_eq_true rfl) (Nat.le_of_ble_eq_true rfl) (Nat.le_of_ble_eq_true rfl) ?_
  rintro _ _ _ ⟨rfl, rfl, rfl⟩
  dsimp only [Option.toList, List.cons_append, List.nil_append]
  refine V.ifB_ne (tgt := 15) (pc := 9) d_Mo_count_9 (by decide) (fun c_9 => ?_) (fun c_9 => ?_)
  · skip
    refine V.iconst (pc := 15) d_Mo_count_15 ⟨by decide, by decide⟩ ?_
    refine V.istore_n (pc := 16) 2 d_Mo_count_16 rfl (Nat.le_of_ble_eq_true rfl) rfl ?_
    dsimp only [put]
    refine V.iconst (pc := 17) d_Mo_count_17 ⟨by decide, by decide⟩ ?_
    refine V.istore_n (pc := 18) 3 d_Mo_count_18 rfl (Nat.le_of_ble_eq_true rfl) rfl ?_
    dsimp only [put]
    rcases Classical.em (w = 0) with hw0 | hw0
    · refine V.pad ?_
      exact lp_Mo_count1 S σ hI w hw0 _ 8 0 0 0 none rfl rfl rfl
    · skip
      refine V.iload_n (pc := 19) 3 d_Mo_count_19 rfl rfl ?_
      refine V.bipush (pc := 20) d_Mo_count_20 ⟨by decide, by decide⟩ ?_
      refine V.icmp_ge (tgt := 52) (pc := 22) d_Mo_count_22 (by decide) (fun c_22 => ?_) (fun c_22 => ?_)
      · skip
        exfalso; omega
      · skip
        refine V.iload_n (pc := 25) 1 d_Mo_count_25 rfl rfl ?_
        refine V.if_ne (tgt := 52) (pc := 26) d_Mo_count_26 (by decide) (fun c_26 => ?_) (fun c_26 => ?_)
        · skip
          refine V.iconst (pc := 52) d_Mo_count_52 ⟨by decide, by decide⟩ ?_
          refine V.istore_n (pc := 53) 3 d_Mo_count_53 rfl (Nat.le_of_ble_eq_true rfl) rfl ?_
          dsimp only [put]
          refine V.pad ?_
          exact lp_Mo_count2 S σ hI w (by omega) _ 10 0 0 0 none rfl rfl rfl
        · skip
          exfalso; omega
  · skip
    refine V.ldc (pc := 12) (-1000001) ck_Mo_112 rfl ⟨by decide, by decide⟩ d_Mo_count_12 ?_
    refine V.ret (pc := 14) (r := some (vI _)) d_Mo_count_14 (Or.inl rfl) rfl ?_
    exact qs_of (by unfold sp_count; rw [if_neg (by omega)]) hI
