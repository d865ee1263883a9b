/-! THE REFERENCE: folding, printed by wip/whole/gen/ref4.py -/
def QF (σ : SM) (a : Nat → Int) (N sz : Nat) : QT := fun r h s => s = sz ∧ ∃ (ps : Nat → Int) (x y : Int), h = hM (sset (sset (sset σ 15 ps) 16 (fun _ => x)) 17 (fun _ => y)) ∧ isPos a ps N ∧ firstClash ps N x y ∧ ((r = some (vI 1) ∧ noClash ps N) ∨ (r = some (vI 0) ∧ ¬ noClash ps N))
set_option maxRecDepth 20000 in
theorem lp_Mo_isFolding_in {kr ar Lr : Nat} (hr : Arr kr ar Lr) (h1 : kr ≠ 15) (σ : SM) (a : Nat → Int) (A N : Nat) (ha : a = fun q => σ kr (A + q)) (hN : N ≤ 20) (hA : A + N ≤ Lr) (hlr : Lr ≤ 10000) (hpm : isPerm a N) (sz : Nat) (ps : Nat → Int) (hps : isPos a ps N) (i : Nat) (ii : Int) (hii : ii = i) (hiN : i + 1 < N) (hi : ∀ i2 j2, clashAt ps N i2 j2 → i ≤ i2) (low high : Int) (hlh : (low = ps i ∧ high = ps (i + 1) ∧ ps i < ps (i + 1)) ∨ (low = ps (i + 1) ∧ high = ps i ∧ ps (i + 1) ≤ ps i))
    (kont : ∀ (jj : Int) (x y : Option MV) (z : Unit), (∀ j2, ¬ clashAt ps N i j2) → V M_Mo_isFolding 0 226 [some (vR 8), some (vR ar), some (vI A), some (vI N), some (vI ii), some (vI low), some (vI high), some (vI jj), x, y] [] (hM (sset σ 15 ps)) sz 0 0 (QF σ a N sz)) :
    ∀ (m j : Nat) (jj : Int) (x y : Option MV), N ≤ j + 2 * m → j ≤ 40 → jj = j → i + 2 ≤ j → (j - i) % 2 = 0 → (∀ j2, clashAt ps N i j2 → j ≤ j2) →
    V M_Mo_isFolding 0 125 [some (vR 8), some (vR ar), some (vI A), some (vI N), some (vI ii), some (vI low), some (vI high), some (vI jj), x, y] [] (hM (sset σ 15 ps)) sz 0 0 (QF σ a N sz) := by
  intro m
  induction m with
  | zero =>
    intro j jj x y hm hj40 hjj hj1 hj2 hj
    refine V.iload (pc := 125) d_Mo_isFolding_125 rfl ?_
    refine V.iconst (pc := 127) d_Mo_isFolding_127 ⟨by decide, by decide⟩ ?_
    refine V.iadd (pc := 128) d_Mo_isFolding_128 ⟨by omega, by omega⟩ ?_
    refine V.iload_n (pc := 129) 3 d_Mo_isFolding_129 rfl rfl ?_
    refine V.icmp_ge (tgt := 226) (pc := 130) d_Mo_isFolding_130 (by decide) (fun c_130 => ?_) (fun c_130 => ?_)
    · skip
      exact kont _ _ _ () (fun j2 h2 => by have := hj j2 h2; have := h2.1; omega)
    · skip
      exfalso; omega
  | succ m ih =>
    intro j jj x y hm hj40 hjj hj1 hj2 hj
    by_cases hx : N ≤ j + 1
    · skip
      refine V.iload (pc := 125) d_Mo_isFolding_125 rfl ?_
      refine V.iconst (pc := 127) d_Mo_isFolding_127 ⟨by decide, by decide⟩ ?_
      refine V.iadd (pc := 128) d_Mo_isFolding_128 ⟨by omega, by omega⟩ ?_
      refine V.iload_n (pc := 129) 3 d_Mo_isFolding_129 rfl rfl ?_
      refine V.icmp_ge (tgt := 226) (pc := 130) d_Mo_isFolding_130 (by decide) (fun c_130 => ?_) (fun c_130 => ?_)
      · skip
        exact kont _ _ _ () (fun j2 h2 => by have := hj j2 h2; have := h2.1; omega)
      · skip
        exfalso; omega
    · skip
      refine V.iload (pc := 125) d_Mo_isFolding_125 rfl ?_
      refine V.iconst (pc := 127) d_Mo_isFolding_127 ⟨by decide, by decide⟩ ?_
      refine V.iadd (pc := 128) d_Mo_isFolding_128 ⟨by omega, by omega⟩ ?_
      refine V.iload_n (pc := 129) 3 d_Mo_isFolding_129 rfl rfl ?_
      refine V.icmp_ge (tgt := 226) (pc := 130) d_Mo_isFolding_130 (by decide) (fun c_130 => ?_) (fun c_130 => ?_)
      · skip
        exfalso; omega
      · skip
        refine V.aload_n (pc := 133) 0 d_Mo_isFolding_133 rfl rfl ?_
        refine V.getf (pc := 134) 15 cl_Mo fl_Mo_49_Mo d_Mo_isFolding_134 (hM_o _) (Nat.le_of_ble_eq_true rfl) rfl ?_
        refine V.iload (pc := 137) d_Mo_isFolding_137 rfl ?_
        refine V.iald (pc := 139) d_Mo_isFolding_139 (ar_stands _).1 (by omega) (by omega) ?_
        try simp (disch := omega) only [sset_n, sset_e]
        try simp only [show jj.toNat = j by omega, show (jj + 1).toNat = j + 1 by omega]
        refine V.iload (pc := 140) d_Mo_isFolding_140 rfl ?_
        refine V.icmp_le (tgt := 161) (pc := 142) d_Mo_isFolding_142 (by decide) (fun c_142 => ?_) (fun c_142 => ?_)
        · skip
          refine V.iconst (pc := 161) d_Mo_isFolding_161 ⟨by decide, by decide⟩ ?_
          refine V.istore (pc := 162) d_Mo_isFolding_162 (Nat.le_of_ble_eq_true rfl) rfl ?_
          dsimp only [put]
          refine V.aload_n (pc := 164) 0 d_Mo_isFolding_164 rfl rfl ?_
          refine V.getf (pc := 165) 15 cl_Mo fl_Mo_49_Mo d_Mo_isFolding_165 (hM_o _) (Nat.le_of_ble_eq_true rfl) rfl ?_
          refine V.iload (pc := 168) d_Mo_isFolding_168 rfl ?_
          refine V.iconst (pc := 170) d_Mo_isFolding_170 ⟨by decide, by decide⟩ ?_
          refine V.iadd (pc := 171) d_Mo_isFolding_171 ⟨by omega, by omega⟩ ?_
          refine V.iald (pc := 172) d_Mo_isFolding_172 (ar_stands _).1 (by omega) (by omega) ?_
          try simp (disch := omega) only [sset_n, sset_e]
          try simp only [show jj.toNat = j by omega, show (jj + 1).toNat = j + 1 by omega]
          refine V.iload (pc := 173) d_Mo_isFolding_173 rfl ?_
          refine V.icmp_le (tgt := 196) (pc := 175) d_Mo_isFolding_175 (by decide) (fun c_175 => ?_) (fun c_175 => ?_)
          · skip
            refine V.iconst (pc := 196) d_Mo_isFolding_196 ⟨by decide, by decide⟩ ?_
            refine V.istore (pc := 197) d_Mo_isFolding_197 (Nat.le_of_ble_eq_true rfl) rfl ?_
            dsimp only [put]
            refine V.iload (pc := 199) d_Mo_isFolding_199 rfl ?_
            refine V.iload (pc := 201) d_Mo_isFolding_201 rfl ?_
            refine V.icmp_eq (tgt := 220) (pc := 203) d_Mo_isFolding_203 (by decide) (fun c_203 => ?_) (fun c_203 => ?_)
            · skip
              refine V.iinc (pc := 220) d_Mo_isFolding_220 rfl ⟨by omega, by omega⟩ (Nat.le_of_ble_eq_true rfl) rfl ?_
              dsimp only [put]
              refine V.goto (tgt := 125) (pc := 223) d_Mo_isFolding_223 (by decide) ?_
              refine ih (j + 2) _ _ _ (by omega) (by omega) (by omega) (by omega) (by omega) (fun j2 h2 => ?_)
              have q1 := hj j2 h2
              have hcj : (btw ps i j ↔ btw ps i (j + 1)) := by unfold btw; omega
              by_cases q2 : j2 = j
              · subst q2; exact absurd hcj h2.2.2.2
              · have := h2.2.2.1; omega
            · skip
              refine V.aload_n (pc := 206) 0 d_Mo_isFolding_206 rfl rfl ?_
              refine V.iload (pc := 207) d_Mo_isFolding_207 rfl ?_
              refine V.putf (pc := 209) 16 cl_Mo fl_Mo_130_Mo d_Mo_isFolding_209 (hM_o _) (Nat.le_of_ble_eq_true rfl) (Nat.le_of_ble_eq_true rfl) rfl (fun _ => ⟨rfl, rfl⟩) ?_
              rw [pu_clashOne]
              refine V.aload_n (pc := 212) 0 d_Mo_isFolding_212 rfl rfl ?_
              refine V.iload (pc := 213) d_Mo_isFolding_213 rfl ?_
              refine V.putf (pc := 215) 17 cl_Mo fl_Mo_133_Mo d_Mo_isFolding_215 (hM_o _) (Nat.le_of_ble_eq_true rfl) (Nat.le_of_ble_eq_true rfl) rfl (fun _ => ⟨rfl, rfl⟩) ?_
              rw [pu_clashTwo]
              refine V.iconst (pc := 218) d_Mo_isFolding_218 ⟨by decide, by decide⟩ ?_
              refine V.ret (pc := 219) (r := some (vI _)) d_Mo_isFolding_219 (Or.inr ⟨rfl, by omega⟩) rfl ?_
              have hcl : clashAt ps N i j := ⟨by omega, by omega, by omega, fun hc => by unfold btw at hc; omega⟩
              exact ⟨rfl, ps, ii, jj, rfl, hps, Or.inr ⟨i, j, hcl, by omega, by omega, fun i2 j2 h2 => by
                have q1 := hi i2 j2 h2
                by_cases q2 : i = i2
                · subst q2; have := hj j2 h2; omega
                · omega⟩, Or.inr ⟨rfl, fun hn => hn i j hcl⟩⟩
          · skip
            refine V.aload_n (pc := 178) 0 d_Mo_isFolding_178 rfl rfl ?_
            refine V.getf (pc := 179) 15 cl_Mo fl_Mo_49_Mo d_Mo_isFolding_179 (hM_o _) (Nat.le_of_ble_eq_true rfl) rfl ?_
            refine V.iload (pc := 182) d_Mo_isFolding_182 rfl ?_
            refine V.iconst (pc := 184) d_Mo_isFolding_184 ⟨by decide, by decide⟩ ?_
            refine V.iadd (pc := 185) d_Mo_isFolding_185 ⟨by omega, by omega⟩ ?_
            refine V.iald (pc := 186) d_Mo_isFolding_186 (ar_stands _).1 (by omega) (by omega) ?_
            try simp (disch := omega) only [sset_n, sset_e]
            try simp only [show jj.toNat = j by omega, show (jj + 1).toNat = j + 1 by omega]
            refine V.iload (pc := 187) d_Mo_isFolding_187 rfl ?_
            refine V.icmp_ge (tgt := 196) (pc := 189) d_Mo_isFolding_189 (by decide) (fun c_189 => ?_) (fun c_189 => ?_)
            · skip
              refine V.iconst (pc := 196) d_Mo_isFolding_196 ⟨by decide, by decide⟩ ?_
              refine V.istore (pc := 197) d_Mo_isFolding_197 (Nat.le_of_ble_eq_true rfl) rfl ?_
              dsimp only [put]
              refine V.iload (pc := 199) d_Mo_isFolding_199 rfl ?_
              refine V.iload (pc := 201) d_Mo_isFolding_201 rfl ?_
              refine V.icmp_eq (tgt := 220) (pc := 203) d_Mo_isFolding_203 (by decide) (fun c_203 => ?_) (fun c_203 => ?_)
              · skip
                refine V.iinc (pc := 220) d_Mo_isFolding_220 rfl ⟨by omega, by omega⟩ (Nat.le_of_ble_eq_true rfl) rfl ?_
                dsimp only [put]
                refine V.goto (tgt := 125) (pc := 223) d_Mo_isFolding_223 (by decide) ?_
                refine ih (j + 2) _ _ _ (by omega) (by omega) (by omega) (by omega) (by omega) (fun j2 h2 => ?_)
                have q1 := hj j2 h2
                have hcj : (btw ps i j ↔ btw ps i (j + 1)) := by unfold btw; omega
                by_cases q2 : j2 = j
                · subst q2; exact absurd hcj h2.2.2.2
                · have := h2.2.2.1; omega
              · skip
                refine V.aload_n (pc := 206) 0 d_Mo_isFolding_206 rfl rfl ?_
                refine V.iload (pc := 207) d_Mo_isFolding_207 rfl ?_
                refine V.putf (pc := 209) 16 cl_Mo fl_Mo_130_Mo d_Mo_isFolding_209 (hM_o _) (Nat.le_of_ble_eq_true rfl) (Nat.le_of_ble_eq_true rfl) rfl (fun _ => ⟨rfl, rfl⟩) ?_
                rw [pu_clashOne]
                refine V.aload_n (pc := 212) 0 d_Mo_isFolding_212 rfl rfl ?_
                refine V.iload (pc := 213) d_Mo_isFolding_213 rfl ?_
                refine V.putf (pc := 215) 17 cl_Mo fl_Mo_133_Mo d_Mo_isFolding_215 (hM_o _) (Nat.le_of_ble_eq_true rfl) (Nat.le_of_ble_eq_true rfl) rfl (fun _ => ⟨rfl, rfl⟩) ?_
                rw [pu_clashTwo]
                refine V.iconst (pc := 218) d_Mo_isFolding_218 ⟨by decide, by decide⟩ ?_
                refine V.ret (pc := 219) (r := some (vI _)) d_Mo_isFolding_219 (Or.inr ⟨rfl, by omega⟩) rfl ?_
                have hcl : clashAt ps N i j := ⟨by omega, by omega, by omega, fun hc => by unfold btw at hc; omega⟩
                exact ⟨rfl, ps, ii, jj, rfl, hps, Or.inr ⟨i, j, hcl, by omega, by omega, fun i2 j2 h2 => by
                  have q1 := hi i2 j2 h2
                  by_cases q2 : i = i2
                  · subst q2; have := hj j2 h2; omega
                  · omega⟩, Or.inr ⟨rfl, fun hn => hn i j hcl⟩⟩
            · skip
              refine V.iconst (pc := 192) d_Mo_isFolding_192 ⟨by decide, by decide⟩ ?_
              refine V.goto (tgt := 197) (pc := 193) d_Mo_isFolding_193 (by decide) ?_
              refine V.istore (pc := 197) d_Mo_isFolding_197 (Nat.le_of_ble_eq_true rfl) rfl ?_
              dsimp only [put]
              refine V.iload (pc := 199) d_Mo_isFolding_199 rfl ?_
              refine V.iload (pc := 201) d_Mo_isFolding_201 rfl ?_
              refine V.icmp_eq (tgt := 220) (pc := 203) d_Mo_isFolding_203 (by decide) (fun c_203 => ?_) (fun c_203 => ?_)
              · skip
                refine V.iinc (pc := 220) d_Mo_isFolding_220 rfl ⟨by omega, by omega⟩ (Nat.le_of_ble_eq_true rfl) rfl ?_
                dsimp only [put]
                refine V.goto (tgt := 125) (pc := 223) d_Mo_isFolding_223 (by decide) ?_
                refine ih (j + 2) _ _ _ (by omega) (by omega) (by omega) (by omega) (by omega) (fun j2 h2 => ?_)
                have q1 := hj j2 h2
                have hcj : (btw ps i j ↔ btw ps i (j + 1)) := by unfold btw; omega
                by_cases q2 : j2 = j
                · subst q2; exact absurd hcj h2.2.2.2
                · have := h2.2.2.1; omega
              · skip
                refine V.aload_n (pc := 206) 0 d_Mo_isFolding_206 rfl rfl ?_
                refine V.iload (pc := 207) d_Mo_isFolding_207 rfl ?_
                refine V.putf (pc := 209) 16 cl_Mo fl_Mo_130_Mo d_Mo_isFolding_209 (hM_o _) (Nat.le_of_ble_eq_true rfl) (Nat.le_of_ble_eq_true rfl) rfl (fun _ => ⟨rfl, rfl⟩) ?_
                rw [pu_clashOne]
                refine V.aload_n (pc := 212) 0 d_Mo_isFolding_212 rfl rfl ?_
                refine V.iload (pc := 213) d_Mo_isFolding_213 rfl ?_
                refine V.putf (pc := 215) 17 cl_Mo fl_Mo_133_Mo d_Mo_isFolding_215 (hM_o _) (Nat.le_of_ble_eq_true rfl) (Nat.le_of_ble_eq_true rfl) rfl (fun _ => ⟨rfl, rfl⟩) ?_
                rw [pu_clashTwo]
                refine V.iconst (pc := 218) d_Mo_isFolding_218 ⟨by decide, by decide⟩ ?_
                refine V.ret (pc := 219) (r := some (vI _)) d_Mo_isFolding_219 (Or.inr ⟨rfl, by omega⟩) rfl ?_
                have hcl : clashAt ps N i j := ⟨by omega, by omega, by omega, fun hc => by unfold btw at hc; omega⟩
                exact ⟨rfl, ps, ii, jj, rfl, hps, Or.inr ⟨i, j, hcl, by omega, by omega, fun i2 j2 h2 => by
                  have q1 := hi i2 j2 h2
                  by_cases q2 : i = i2
                  · subst q2; have := hj j2 h2; omega
                  · omega⟩, Or.inr ⟨rfl, fun hn => hn i j hcl⟩⟩
        · skip
          refine V.aload_n (pc := 145) 0 d_Mo_isFolding_145 rfl rfl ?_
          refine V.getf (pc := 146) 15 cl_Mo fl_Mo_49_Mo d_Mo_isFolding_146 (hM_o _) (Nat.le_of_ble_eq_true rfl) rfl ?_
          refine V.iload (pc := 149) d_Mo_isFolding_149 rfl ?_
          refine V.iald (pc := 151) d_Mo_isFolding_151 (ar_stands _).1 (by omega) (by omega) ?_
          try simp (disch := omega) only [sset_n, sset_e]
          try simp only [show jj.toNat = j by omega, show (jj + 1).toNat = j + 1 by omega]
          refine V.iload (pc := 152) d_Mo_isFolding_152 rfl ?_
          refine V.icmp_ge (tgt := 161) (pc := 154) d_Mo_isFolding_154 (by decide) (fun c_154 => ?_) (fun c_154 => ?_)
          · skip
            refine V.iconst (pc := 161) d_Mo_isFolding_161 ⟨by decide, by decide⟩ ?_
            refine V.istore (pc := 162) d_Mo_isFolding_162 (Nat.le_of_ble_eq_true rfl) rfl ?_
            dsimp only [put]
            refine V.aload_n (pc := 164) 0 d_Mo_isFolding_164 rfl rfl ?_
            refine V.getf (pc := 165) 15 cl_Mo fl_Mo_49_Mo d_Mo_isFolding_165 (hM_o _) (Nat.le_of_ble_eq_true rfl) rfl ?_
            refine V.iload (pc := 168) d_Mo_isFolding_168 rfl ?_
            refine V.iconst (pc := 170) d_Mo_isFolding_170 ⟨by decide, by decide⟩ ?_
            refine V.iadd (pc := 171) d_Mo_isFolding_171 ⟨by omega, by omega⟩ ?_
            refine V.iald (pc := 172) d_Mo_isFolding_172 (ar_stands _).1 (by omega) (by omega) ?_
            try simp (disch := omega) only [sset_n, sset_e]
            try simp only [show jj.toNat = j by omega, show (jj + 1).toNat = j + 1 by omega]
            refine V.iload (pc := 173) d_Mo_isFolding_173 rfl ?_
            refine V.icmp_le (tgt := 196) (pc := 175) d_Mo_isFolding_175 (by decide) (fun c_175 => ?_) (fun c_175 => ?_)
            · skip
              refine V.iconst (pc := 196) d_Mo_isFolding_196 ⟨by decide, by decide⟩ ?_
              refine V.istore (pc := 197) d_Mo_isFolding_197 (Nat.le_of_ble_eq_true rfl) rfl ?_
              dsimp only [put]
              refine V.iload (pc := 199) d_Mo_isFolding_199 rfl ?_
              refine V.iload (pc := 201) d_Mo_isFolding_201 rfl ?_
              refine V.icmp_eq (tgt := 220) (pc := 203) d_Mo_isFolding_203 (by decide) (fun c_203 => ?_) (fun c_203 => ?_)
              · skip
                refine V.iinc (pc := 220) d_Mo_isFolding_220 rfl ⟨by omega, by omega⟩ (Nat.le_of_ble_eq_true rfl) rfl ?_
                dsimp only [put]
                refine V.goto (tgt := 125) (pc := 223) d_Mo_isFolding_223 (by decide) ?_
                refine ih (j + 2) _ _ _ (by omega) (by omega) (by omega) (by omega) (by omega) (fun j2 h2 => ?_)
                have q1 := hj j2 h2
                have hcj : (btw ps i j ↔ btw ps i (j + 1)) := by unfold btw; omega
                by_cases q2 : j2 = j
                · subst q2; exact absurd hcj h2.2.2.2
                · have := h2.2.2.1; omega
              · skip
                refine V.aload_n (pc := 206) 0 d_Mo_isFolding_206 rfl rfl ?_
                refine V.iload (pc := 207) d_Mo_isFolding_207 rfl ?_
                refine V.putf (pc := 209) 16 cl_Mo fl_Mo_130_Mo d_Mo_isFolding_209 (hM_o _) (Nat.le_of_ble_eq_true rfl) (Nat.le_of_ble_eq_true rfl) rfl (fun _ => ⟨rfl, rfl⟩) ?_
                rw [pu_clashOne]
                refine V.aload_n (pc := 212) 0 d_Mo_isFolding_212 rfl rfl ?_
                refine V.iload (pc := 213) d_Mo_isFolding_213 rfl ?_
                refine V.putf (pc := 215) 17 cl_Mo fl_Mo_133_Mo d_Mo_isFolding_215 (hM_o _) (Nat.le_of_ble_eq_true rfl) (Nat.le_of_ble_eq_true rfl) rfl (fun _ => ⟨rfl, rfl⟩) ?_
                rw [pu_clashTwo]
                refine V.iconst (pc := 218) d_Mo_isFolding_218 ⟨by decide, by decide⟩ ?_
                refine V.ret (pc := 219) (r := some (vI _)) d_Mo_isFolding_219 (Or.inr ⟨rfl, by omega⟩) rfl ?_
                have hcl : clashAt ps N i j := ⟨by omega, by omega, by omega, fun hc => by unfold btw at hc; omega⟩
                exact ⟨rfl, ps, ii, jj, rfl, hps, Or.inr ⟨i, j, hcl, by omega, by omega, fun i2 j2 h2 => by
                  have q1 := hi i2 j2 h2
                  by_cases q2 : i = i2
                  · subst q2; have := hj j2 h2; omega
                  · omega⟩, Or.inr ⟨rfl, fun hn => hn i j hcl⟩⟩
            · skip
              refine V.aload_n (pc := 178) 0 d_Mo_isFolding_178 rfl rfl ?_
              refine V.getf (pc := 179) 15 cl_Mo fl_Mo_49_Mo d_Mo_isFolding_179 (hM_o _) (Nat.le_of_ble_eq_true rfl) rfl ?_
              refine V.iload (pc := 182) d_Mo_isFolding_182 rfl ?_
              refine V.iconst (pc := 184) d_Mo_isFolding_184 ⟨by decide, by decide⟩ ?_
              refine V.iadd (pc := 185) d_Mo_isFolding_185 ⟨by omega, by omega⟩ ?_
              refine V.iald (pc := 186) d_Mo_isFolding_186 (ar_stands _).1 (by omega) (by omega) ?_
              try simp (disch := omega) only [sset_n, sset_e]
              try simp only [show jj.toNat = j by omega, show (jj + 1).toNat = j + 1 by omega]
              refine V.iload (pc := 187) d_Mo_isFolding_187 rfl ?_
              refine V.icmp_ge (tgt := 196) (pc := 189) d_Mo_isFolding_189 (by decide) (fun c_189 => ?_) (fun c_189 => ?_)
              · skip
                refine V.iconst (pc := 196) d_Mo_isFolding_196 ⟨by decide, by decide⟩ ?_
                refine V.istore (pc := 197) d_Mo_isFolding_197 (Nat.le_of_ble_eq_true rfl) rfl ?_
                dsimp only [put]
                refine V.iload (pc := 199) d_Mo_isFolding_199 rfl ?_
                refine V.iload (pc := 201) d_Mo_isFolding_201 rfl ?_
                refine V.icmp_eq (tgt := 220) (pc := 203) d_Mo_isFolding_203 (by decide) (fun c_203 => ?_) (fun c_203 => ?_)
                · skip
                  refine V.iinc (pc := 220) d_Mo_isFolding_220 rfl ⟨by omega, by omega⟩ (Nat.le_of_ble_eq_true rfl) rfl ?_
                  dsimp only [put]
                  refine V.goto (tgt := 125) (pc := 223) d_Mo_isFolding_223 (by decide) ?_
                  refine ih (j + 2) _ _ _ (by omega) (by omega) (by omega) (by omega) (by omega) (fun j2 h2 => ?_)
                  have q1 := hj j2 h2
                  have hcj : (btw ps i j ↔ btw ps i (j + 1)) := by unfold btw; omega
                  by_cases q2 : j2 = j
                  · subst q2; exact absurd hcj h2.2.2.2
                  · have := h2.2.2.1; omega
                · skip
                  refine V.aload_n (pc := 206) 0 d_Mo_isFolding_206 rfl rfl ?_
                  refine V.iload (pc := 207) d_Mo_isFolding_207 rfl ?_
                  refine V.putf (pc := 209) 16 cl_Mo fl_Mo_130_Mo d_Mo_isFolding_209 (hM_o _) (Nat.le_of_ble_eq_true rfl) (Nat.le_of_ble_eq_true rfl) rfl (fun _ => ⟨rfl, rfl⟩) ?_
                  rw [pu_clashOne]
                  refine V.aload_n (pc := 212) 0 d_Mo_isFolding_212 rfl rfl ?_
                  refine V.iload (pc := 213) d_Mo_isFolding_213 rfl ?_
                  refine V.putf (pc := 215) 17 cl_Mo fl_Mo_133_Mo d_Mo_isFolding_215 (hM_o _) (Nat.le_of_ble_eq_true rfl) (Nat.le_of_ble_eq_true rfl) rfl (fun _ => ⟨rfl, rfl⟩) ?_
                  rw [pu_clashTwo]
                  refine V.iconst (pc := 218) d_Mo_isFolding_218 ⟨by decide, by decide⟩ ?_
                  refine V.ret (pc := 219) (r := some (vI _)) d_Mo_isFolding_219 (Or.inr ⟨rfl, by omega⟩) rfl ?_
                  have hcl : clashAt ps N i j := ⟨by omega, by omega, by omega, fun hc => by unfold btw at hc; omega⟩
                  exact ⟨rfl, ps, ii, jj, rfl, hps, Or.inr ⟨i, j, hcl, by omega, by omega, fun i2 j2 h2 => by
                    have q1 := hi i2 j2 h2
                    by_cases q2 : i = i2
                    · subst q2; have := hj j2 h2; omega
                    · omega⟩, Or.inr ⟨rfl, fun hn => hn i j hcl⟩⟩
              · skip
                refine V.iconst (pc := 192) d_Mo_isFolding_192 ⟨by decide, by decide⟩ ?_
                refine V.goto (tgt := 197) (pc := 193) d_Mo_isFolding_193 (by decide) ?_
                refine V.istore (pc := 197) d_Mo_isFolding_197 (Nat.le_of_ble_eq_true rfl) rfl ?_
                dsimp only [put]
                refine V.iload (pc := 199) d_Mo_isFolding_199 rfl ?_
                refine V.iload (pc := 201) d_Mo_isFolding_201 rfl ?_
                refine V.icmp_eq (tgt := 220) (pc := 203) d_Mo_isFolding_203 (by decide) (fun c_203 => ?_) (fun c_203 => ?_)
                · skip
                  refine V.iinc (pc := 220) d_Mo_isFolding_220 rfl ⟨by omega, by omega⟩ (Nat.le_of_ble_eq_true rfl) rfl ?_
                  dsimp only [put]
                  refine V.goto (tgt := 125) (pc := 223) d_Mo_isFolding_223 (by decide) ?_
                  refine ih (j + 2) _ _ _ (by omega) (by omega) (by omega) (by omega) (by omega) (fun j2 h2 => ?_)
                  have q1 := hj j2 h2
                  have hcj : (btw ps i j ↔ btw ps i (j + 1)) := by unfold btw; omega
                  by_cases q2 : j2 = j
                  · subst q2; exact absurd hcj h2.2.2.2
                  · have := h2.2.2.1; omega
                · skip
                  refine V.aload_n (pc := 206) 0 d_Mo_isFolding_206 rfl rfl ?_
                  refine V.iload (pc := 207) d_Mo_isFolding_207 rfl ?_
                  refine V.putf (pc := 209) 16 cl_Mo fl_Mo_130_Mo d_Mo_isFolding_209 (hM_o _) (Nat.le_of_ble_eq_true rfl) (Nat.le_of_ble_eq_true rfl) rfl (fun _ => ⟨rfl, rfl⟩) ?_
                  rw [pu_clashOne]
                  refine V.aload_n (pc := 212) 0 d_Mo_isFolding_212 rfl rfl ?_
                  refine V.iload (pc := 213) d_Mo_isFolding_213 rfl ?_
                  refine V.putf (pc := 215) 17 cl_Mo fl_Mo_133_Mo d_Mo_isFolding_215 (hM_o _) (Nat.le_of_ble_eq_true rfl) (Nat.le_of_ble_eq_true rfl) rfl (fun _ => ⟨rfl, rfl⟩) ?_
                  rw [pu_clashTwo]
                  refine V.iconst (pc := 218) d_Mo_isFolding_218 ⟨by decide, by decide⟩ ?_
                  refine V.ret (pc := 219) (r := some (vI _)) d_Mo_isFolding_219 (Or.inr ⟨rfl, by omega⟩) rfl ?_
                  have hcl : clashAt ps N i j := ⟨by omega, by omega, by omega, fun hc => by unfold btw at hc; omega⟩
                  exact ⟨rfl, ps, ii, jj, rfl, hps, Or.inr ⟨i, j, hcl, by omega, by omega, fun i2 j2 h2 => by
                    have q1 := hi i2 j2 h2
                    by_cases q2 : i = i2
                    · subst q2; have := hj j2 h2; omega
                    · omega⟩, Or.inr ⟨rfl, fun hn => hn i j hcl⟩⟩
          · skip
            refine V.iconst (pc := 157) d_Mo_isFolding_157 ⟨by decide, by decide⟩ ?_
            refine V.goto (tgt := 162) (pc := 158) d_Mo_isFolding_158 (by decide) ?_
            refine V.istore (pc := 162) d_Mo_isFolding_162 (Nat.le_of_ble_eq_true rfl) rfl ?_
            dsimp only [put]
            refine V.aload_n (pc := 164) 0 d_Mo_isFolding_164 rfl rfl ?_
            refine V.getf (pc := 165) 15 cl_Mo fl_Mo_49_Mo d_Mo_isFolding_165 (hM_o _) (Nat.le_of_ble_eq_true rfl) rfl ?_
            refine V.iload (pc := 168) d_Mo_isFolding_168 rfl ?_
            refine V.iconst (pc := 170) d_Mo_isFolding_170 ⟨by decide, by decide⟩ ?_
            refine V.iadd (pc := 171) d_Mo_isFolding_171 ⟨by omega, by omega⟩ ?_
            refine V.iald (pc := 172) d_Mo_isFolding_172 (ar_stands _).1 (by omega) (by omega) ?_
            try simp (disch := omega) only [sset_n, sset_e]
            try simp only [show jj.toNat = j by omega, show (jj + 1).toNat = j + 1 by omega]
            refine V.iload (pc := 173) d_Mo_isFolding_173 rfl ?_
            refine V.icmp_le (tgt := 196) (pc := 175) d_Mo_isFolding_175 (by decide) (fun c_175 => ?_) (fun c_175 => ?_)
            · skip
              refine V.iconst (pc := 196) d_Mo_isFolding_196 ⟨by decide, by decide⟩ ?_
              refine V.istore (pc := 197) d_Mo_isFolding_197 (Nat.le_of_ble_eq_true rfl) rfl ?_
              dsimp only [put]
              refine V.iload (pc := 199) d_Mo_isFolding_199 rfl ?_
              refine V.iload (pc := 201) d_Mo_isFolding_201 rfl ?_
              refine V.icmp_eq (tgt := 220) (pc := 203) d_Mo_isFolding_203 (by decide) (fun c_203 => ?_) (fun c_203 => ?_)
              · skip
                refine V.iinc (pc := 220) d_Mo_isFolding_220 rfl ⟨by omega, by omega⟩ (Nat.le_of_ble_eq_true rfl) rfl ?_
                dsimp only [put]
                refine V.goto (tgt := 125) (pc := 223) d_Mo_isFolding_223 (by decide) ?_
                refine ih (j + 2) _ _ _ (by omega) (by omega) (by omega) (by omega) (by omega) (fun j2 h2 => ?_)
                have q1 := hj j2 h2
                have hcj : (btw ps i j ↔ btw ps i (j + 1)) := by unfold btw; omega
                by_cases q2 : j2 = j
                · subst q2; exact absurd hcj h2.2.2.2
                · have := h2.2.2.1; omega
              · skip
                refine V.aload_n (pc := 206) 0 d_Mo_isFolding_206 rfl rfl ?_
                refine V.iload (pc := 207) d_Mo_isFolding_207 rfl ?_
                refine V.putf (pc := 209) 16 cl_Mo fl_Mo_130_Mo d_Mo_isFolding_209 (hM_o _) (Nat.le_of_ble_eq_true rfl) (Nat.le_of_ble_eq_true rfl) rfl (fun _ => ⟨rfl, rfl⟩) ?_
                rw [pu_clashOne]
                refine V.aload_n (pc := 212) 0 d_Mo_isFolding_212 rfl rfl ?_
                refine V.iload (pc := 213) d_Mo_isFolding_213 rfl ?_
                refine V.putf (pc := 215) 17 cl_Mo fl_Mo_133_Mo d_Mo_isFolding_215 (hM_o _) (Nat.le_of_ble_eq_true rfl) (Nat.le_of_ble_eq_true rfl) rfl (fun _ => ⟨rfl, rfl⟩) ?_
                rw [pu_clashTwo]
                refine V.iconst (pc := 218) d_Mo_isFolding_218 ⟨by decide, by decide⟩ ?_
                refine V.ret (pc := 219) (r := some (vI _)) d_Mo_isFolding_219 (Or.inr ⟨rfl, by omega⟩) rfl ?_
                have hcl : clashAt ps N i j := ⟨by omega, by omega, by omega, fun hc => by unfold btw at hc; omega⟩
                exact ⟨rfl, ps, ii, jj, rfl, hps, Or.inr ⟨i, j, hcl, by omega, by omega, fun i2 j2 h2 => by
                  have q1 := hi i2 j2 h2
                  by_cases q2 : i = i2
                  · subst q2; have := hj j2 h2; omega
                  · omega⟩, Or.inr ⟨rfl, fun hn => hn i j hcl⟩⟩
            · skip
              refine V.aload_n (pc := 178) 0 d_Mo_isFolding_178 rfl rfl ?_
              refine V.getf (pc := 179) 15 cl_Mo fl_Mo_49_Mo d_Mo_isFolding_179 (hM_o _) (Nat.le_of_ble_eq_true rfl) rfl ?_
              refine V.iload (pc := 182) d_Mo_isFolding_182 rfl ?_
              refine V.iconst (pc := 184) d_Mo_isFolding_184 ⟨by decide, by decide⟩ ?_
              refine V.iadd (pc := 185) d_Mo_isFolding_185 ⟨by omega, by omega⟩ ?_
              refine V.iald (pc := 186) d_Mo_isFolding_186 (ar_stands _).1 (by omega) (by omega) ?_
              try simp (disch := omega) only [sset_n, sset_e]
              try simp only [show jj.toNat = j by omega, show (jj + 1).toNat = j + 1 by omega]
              refine V.iload (pc := 187) d_Mo_isFolding_187 rfl ?_
              refine V.icmp_ge (tgt := 196) (pc := 189) d_Mo_isFolding_189 (by decide) (fun c_189 => ?_) (fun c_189 => ?_)
              · skip
                refine V.iconst (pc := 196) d_Mo_isFolding_196 ⟨by decide, by decide⟩ ?_
                refine V.istore (pc := 197) d_Mo_isFolding_197 (Nat.le_of_ble_eq_true rfl) rfl ?_
                dsimp only [put]
                refine V.iload (pc := 199) d_Mo_isFolding_199 rfl ?_
                refine V.iload (pc := 201) d_Mo_isFolding_201 rfl ?_
                refine V.icmp_eq (tgt := 220) (pc := 203) d_Mo_isFolding_203 (by decide) (fun c_203 => ?_) (fun c_203 => ?_)
                · skip
                  refine V.iinc (pc := 220) d_Mo_isFolding_220 rfl ⟨by omega, by omega⟩ (Nat.le_of_ble_eq_true rfl) rfl ?_
                  dsimp only [put]
                  refine V.goto (tgt := 125) (pc := 223) d_Mo_isFolding_223 (by decide) ?_
                  refine ih (j + 2) _ _ _ (by omega) (by omega) (by omega) (by omega) (by omega) (fun j2 h2 => ?_)
                  have q1 := hj j2 h2
                  have hcj : (btw ps i j ↔ btw ps i (j + 1)) := by unfold btw; omega
                  by_cases q2 : j2 = j
                  · subst q2; exact absurd hcj h2.2.2.2
                  · have := h2.2.2.1; omega
                · skip
                  refine V.aload_n (pc := 206) 0 d_Mo_isFolding_206 rfl rfl ?_
                  refine V.iload (pc := 207) d_Mo_isFolding_207 rfl ?_
                  refine V.putf (pc := 209) 16 cl_Mo fl_Mo_130_Mo d_Mo_isFolding_209 (hM_o _) (Nat.le_of_ble_eq_true rfl) (Nat.le_of_ble_eq_true rfl) rfl (fun _ => ⟨rfl, rfl⟩) ?_
                  rw [pu_clashOne]
                  refine V.aload_n (pc := 212) 0 d_Mo_isFolding_212 rfl rfl ?_
                  refine V.iload (pc := 213) d_Mo_isFolding_213 rfl ?_
                  refine V.putf (pc := 215) 17 cl_Mo fl_Mo_133_Mo d_Mo_isFolding_215 (hM_o _) (Nat.le_of_ble_eq_true rfl) (Nat.le_of_ble_eq_true rfl) rfl (fun _ => ⟨rfl, rfl⟩) ?_
                  rw [pu_clashTwo]
                  refine V.iconst (pc := 218) d_Mo_isFolding_218 ⟨by decide, by decide⟩ ?_
                  refine V.ret (pc := 219) (r := some (vI _)) d_Mo_isFolding_219 (Or.inr ⟨rfl, by omega⟩) rfl ?_
                  have hcl : clashAt ps N i j := ⟨by omega, by omega, by omega, fun hc => by unfold btw at hc; omega⟩
                  exact ⟨rfl, ps, ii, jj, rfl, hps, Or.inr ⟨i, j, hcl, by omega, by omega, fun i2 j2 h2 => by
                    have q1 := hi i2 j2 h2
                    by_cases q2 : i = i2
                    · subst q2; have := hj j2 h2; omega
                    · omega⟩, Or.inr ⟨rfl, fun hn => hn i j hcl⟩⟩
              · skip
                refine V.iconst (pc := 192) d_Mo_isFolding_192 ⟨by decide, by decide⟩ ?_
                refine V.goto (tgt := 197) (pc := 193) d_Mo_isFolding_193 (by decide) ?_
                refine V.istore (pc := 197) d_Mo_isFolding_197 (Nat.le_of_ble_eq_true rfl) rfl ?_
                dsimp only [put]
                refine V.iload (pc := 199) d_Mo_isFolding_199 rfl ?_
                refine V.iload (pc := 201) d_Mo_isFolding_201 rfl ?_
                refine V.icmp_eq (tgt := 220) (pc := 203) d_Mo_isFolding_203 (by decide) (fun c_203 => ?_) (fun c_203 => ?_)
                · skip
                  refine V.iinc (pc := 220) d_Mo_isFolding_220 rfl ⟨by omega, by omega⟩ (Nat.le_of_ble_eq_true rfl) rfl ?_
                  dsimp only [put]
                  refine V.goto (tgt := 125) (pc := 223) d_Mo_isFolding_223 (by decide) ?_
                  refine ih (j + 2) _ _ _ (by omega) (by omega) (by omega) (by omega) (by omega) (fun j2 h2 => ?_)
                  have q1 := hj j2 h2
                  have hcj : (btw ps i j ↔ btw ps i (j + 1)) := by unfold btw; omega
                  by_cases q2 : j2 = j
                  · subst q2; exact absurd hcj h2.2.2.2
                  · have := h2.2.2.1; omega
                · skip
                  refine V.aload_n (pc := 206) 0 d_Mo_isFolding_206 rfl rfl ?_
                  refine V.iload (pc := 207) d_Mo_isFolding_207 rfl ?_
                  refine V.putf (pc := 209) 16 cl_Mo fl_Mo_130_Mo d_Mo_isFolding_209 (hM_o _) (Nat.le_of_ble_eq_true rfl) (Nat.le_of_ble_eq_true rfl) rfl (fun _ => ⟨rfl, rfl⟩) ?_
                  rw [pu_clashOne]
                  refine V.aload_n (pc := 212) 0 d_Mo_isFolding_212 rfl rfl ?_
                  refine V.iload (pc := 213) d_Mo_isFolding_213 rfl ?_
                  refine V.putf (pc := 215) 17 cl_Mo fl_Mo_133_Mo d_Mo_isFolding_215 (hM_o _) (Nat.le_of_ble_eq_true rfl) (Nat.le_of_ble_eq_true rfl) rfl (fun _ => ⟨rfl, rfl⟩) ?_
                  rw [pu_clashTwo]
                  refine V.iconst (pc := 218) d_Mo_isFolding_218 ⟨by decide, by decide⟩ ?_
                  refine V.ret (pc := 219) (r := some (vI _)) d_Mo_isFolding_219 (Or.inr ⟨rfl, by omega⟩) rfl ?_
                  have hcl : clashAt ps N i j := ⟨by omega, by omega, by omega, fun hc => by unfold btw at hc; omega⟩
                  exact ⟨rfl, ps, ii, jj, rfl, hps, Or.inr ⟨i, j, hcl, by omega, by omega, fun i2 j2 h2 => by
                    have q1 := hi i2 j2 h2
                    by_cases q2 : i = i2
                    · subst q2; have := hj j2 h2; omega
                    · omega⟩, Or.inr ⟨rfl, fun hn => hn i j hcl⟩⟩
set_option maxRecDepth 20000 in
theorem lp_Mo_isFolding_out {kr ar Lr : Nat} (hr : Arr kr ar Lr) (h1 : kr ≠ 15) (σ : SM) (a : Nat → Int) (A N : Nat) (ha : a = fun q => σ kr (A + q)) (hN : N ≤ 20) (hA : A + N ≤ Lr) (hlr : Lr ≤ 10000) (hpm : isPerm a N) (sz : Nat) (ps : Nat → Int) (hps : isPos a ps N) (hp0 : ∀ s, s < N → 0 ≤ ps s ∧ ps s < N) : ∀ (m i : Nat) (ii : Int) (x1 x2 x3 x4 x5 : Option MV), (i + 1 + m = N ∨ (N ≤ i + 1 ∧ m = 0)) → i ≤ 20 → ii = i → (∀ i2 j2, clashAt ps N i2 j2 → i ≤ i2) →
    V M_Mo_isFolding 0 31 [some (vR 8), some (vR ar), some (vI A), some (vI N), some (vI ii), x1, x2, x3, x4, x5] [] (hM (sset σ 15 ps)) sz 0 0 (QF σ a N sz) := by
  intro m
  induction m with
  | zero =>
    intro i ii x1 x2 x3 x4 x5 hm hi20 hii hi
    refine V.iload (pc := 31) d_Mo_isFolding_31 rfl ?_
    refine V.iconst (pc := 33) d_Mo_isFolding_33 ⟨by decide, by decide⟩ ?_
    refine V.iadd (pc := 34) d_Mo_isFolding_34 ⟨by omega, by omega⟩ ?_
    refine V.iload_n (pc := 35) 3 d_Mo_isFolding_35 rfl rfl ?_
    refine V.icmp_ge (tgt := 232) (pc := 36) d_Mo_isFolding_36 (by decide) (fun c_36 => ?_) (fun c_36 => ?_)
    · skip
      refine V.aload_n (pc := 232) 0 d_Mo_isFolding_232 rfl rfl ?_
      refine V.ldc (pc := 233) (-1000000) ck_Mo_136 rfl ⟨by decide, by decide⟩ d_Mo_isFolding_233 ?_
      refine V.putf (pc := 235) 16 cl_Mo fl_Mo_130_Mo d_Mo_isFolding_235 (hM_o _) (Nat.le_of_ble_eq_true rfl) (Nat.le_of_ble_eq_true rfl) rfl (fun _ => ⟨rfl, rfl⟩) ?_
      rw [pu_clashOne]
      refine V.aload_n (pc := 238) 0 d_Mo_isFolding_238 rfl rfl ?_
      refine V.ldc (pc := 239) (-1000000) ck_Mo_136 rfl ⟨by decide, by decide⟩ d_Mo_isFolding_239 ?_
      refine V.putf (pc := 241) 17 cl_Mo fl_Mo_133_Mo d_Mo_isFolding_241 (hM_o _) (Nat.le_of_ble_eq_true rfl) (Nat.le_of_ble_eq_true rfl) rfl (fun _ => ⟨rfl, rfl⟩) ?_
      rw [pu_clashTwo]
      refine V.iconst (pc := 244) d_Mo_isFolding_244 ⟨by decide, by decide⟩ ?_
      refine V.ret (pc := 245) (r := some (vI _)) d_Mo_isFolding_245 (Or.inr ⟨rfl, by omega⟩) rfl ?_
      have hn : noClash ps N := fun i2 j2 h2 => by
        have q := hi i2 j2 h2
        have q1 := h2.1
        have q2 := h2.2.1
        omega
      exact ⟨rfl, ps, _, _, rfl, hps, Or.inl ⟨hn, rfl, rfl⟩, Or.inl ⟨rfl, hn⟩⟩
    · skip
      exfalso; omega
  | succ m ih =>
    intro i ii x1 x2 x3 x4 x5 hm hi20 hii hi
    have hb1 := hp0 i (by omega)
    have hb2 := hp0 (i + 1) (by omega)
    refine V.iload (pc := 31) d_Mo_isFolding_31 rfl ?_
    refine V.iconst (pc := 33) d_Mo_isFolding_33 ⟨by decide, by decide⟩ ?_
    refine V.iadd (pc := 34) d_Mo_isFolding_34 ⟨by omega, by omega⟩ ?_
    refine V.iload_n (pc := 35) 3 d_Mo_isFolding_35 rfl rfl ?_
    refine V.icmp_ge (tgt := 232) (pc := 36) d_Mo_isFolding_36 (by decide) (fun c_36 => ?_) (fun c_36 => ?_)
    · skip
      exfalso; omega
    · skip
      refine V.aload_n (pc := 39) 0 d_Mo_isFolding_39 rfl rfl ?_
      refine V.getf (pc := 40) 15 cl_Mo fl_Mo_49_Mo d_Mo_isFolding_40 (hM_o _) (Nat.le_of_ble_eq_true rfl) rfl ?_
      refine V.iload (pc := 43) d_Mo_isFolding_43 rfl ?_
      refine V.iald (pc := 45) d_Mo_isFolding_45 (ar_stands _).1 (by omega) (by omega) ?_
      try simp (disch := omega) only [sset_n, sset_e]
      try simp only [show ii.toNat = i by omega, show (ii + 1).toNat = i + 1 by omega]
      refine V.aload_n (pc := 46) 0 d_Mo_isFolding_46 rfl rfl ?_
      refine V.getf (pc := 47) 15 cl_Mo fl_Mo_49_Mo d_Mo_isFolding_47 (hM_o _) (Nat.le_of_ble_eq_true rfl) rfl ?_
      refine V.iload (pc := 50) d_Mo_isFolding_50 rfl ?_
      refine V.iconst (pc := 52) d_Mo_isFolding_52 ⟨by decide, by decide⟩ ?_
      refine V.iadd (pc := 53) d_Mo_isFolding_53 ⟨by omega, by omega⟩ ?_
      refine V.iald (pc := 54) d_Mo_isFolding_54 (ar_stands _).1 (by omega) (by omega) ?_
      try simp (disch := omega) only [sset_n, sset_e]
      try simp only [show ii.toNat = i by omega, show (ii + 1).toNat = i + 1 by omega]
      refine V.icmp_ge (tgt := 68) (pc := 55) d_Mo_isFolding_55 (by decide) (fun c_55 => ?_) (fun c_55 => ?_)
      · skip
        try simp only [show ii.toNat = i by omega, show (ii + 1).toNat = i + 1 by omega]
        refine V.aload_n (pc := 68) 0 d_Mo_isFolding_68 rfl rfl ?_
        refine V.getf (pc := 69) 15 cl_Mo fl_Mo_49_Mo d_Mo_isFolding_69 (hM_o _) (Nat.le_of_ble_eq_true rfl) rfl ?_
        refine V.iload (pc := 72) d_Mo_isFolding_72 rfl ?_
        refine V.iconst (pc := 74) d_Mo_isFolding_74 ⟨by decide, by decide⟩ ?_
        refine V.iadd (pc := 75) d_Mo_isFolding_75 ⟨by omega, by omega⟩ ?_
        refine V.iald (pc := 76) d_Mo_isFolding_76 (ar_stands _).1 (by omega) (by omega) ?_
        try simp (disch := omega) only [sset_n, sset_e]
        try simp only [show ii.toNat = i by omega, show (ii + 1).toNat = i + 1 by omega]
        refine V.istore (pc := 77) d_Mo_isFolding_77 (Nat.le_of_ble_eq_true rfl) rfl ?_
        dsimp only [put]
        refine V.aload_n (pc := 79) 0 d_Mo_isFolding_79 rfl rfl ?_
        refine V.getf (pc := 80) 15 cl_Mo fl_Mo_49_Mo d_Mo_isFolding_80 (hM_o _) (Nat.le_of_ble_eq_true rfl) rfl ?_
        refine V.iload (pc := 83) d_Mo_isFolding_83 rfl ?_
        refine V.iald (pc := 85) d_Mo_isFolding_85 (ar_stands _).1 (by omega) (by omega) ?_
        try simp (disch := omega) only [sset_n, sset_e]
        try simp only [show ii.toNat = i by omega, show (ii + 1).toNat = i + 1 by omega]
        refine V.aload_n (pc := 86) 0 d_Mo_isFolding_86 rfl rfl ?_
        refine V.getf (pc := 87) 15 cl_Mo fl_Mo_49_Mo d_Mo_isFolding_87 (hM_o _) (Nat.le_of_ble_eq_true rfl) rfl ?_
        refine V.iload (pc := 90) d_Mo_isFolding_90 rfl ?_
        refine V.iconst (pc := 92) d_Mo_isFolding_92 ⟨by decide, by decide⟩ ?_
        refine V.iadd (pc := 93) d_Mo_isFolding_93 ⟨by omega, by omega⟩ ?_
        refine V.iald (pc := 94) d_Mo_isFolding_94 (ar_stands _).1 (by omega) (by omega) ?_
        try simp (disch := omega) only [sset_n, sset_e]
        try simp only [show ii.toNat = i by omega, show (ii + 1).toNat = i + 1 by omega]
        refine V.icmp_ge (tgt := 110) (pc := 95) d_Mo_isFolding_95 (by decide) (fun c_95 => ?_) (fun c_95 => ?_)
        · skip
          try simp only [show ii.toNat = i by omega, show (ii + 1).toNat = i + 1 by omega]
          refine V.aload_n (pc := 110) 0 d_Mo_isFolding_110 rfl rfl ?_
          refine V.getf (pc := 111) 15 cl_Mo fl_Mo_49_Mo d_Mo_isFolding_111 (hM_o _) (Nat.le_of_ble_eq_true rfl) rfl ?_
          refine V.iload (pc := 114) d_Mo_isFolding_114 rfl ?_
          refine V.iald (pc := 116) d_Mo_isFolding_116 (ar_stands _).1 (by omega) (by omega) ?_
          try simp (disch := omega) only [sset_n, sset_e]
          try simp only [show ii.toNat = i by omega, show (ii + 1).toNat = i + 1 by omega]
          refine V.istore (pc := 117) d_Mo_isFolding_117 (Nat.le_of_ble_eq_true rfl) rfl ?_
          dsimp only [put]
          refine V.iload (pc := 119) d_Mo_isFolding_119 rfl ?_
          refine V.iconst (pc := 121) d_Mo_isFolding_121 ⟨by decide, by decide⟩ ?_
          refine V.iadd (pc := 122) d_Mo_isFolding_122 ⟨by omega, by omega⟩ ?_
          refine V.istore (pc := 123) d_Mo_isFolding_123 (Nat.le_of_ble_eq_true rfl) rfl ?_
          dsimp only [put]
          refine lp_Mo_isFolding_in hr h1 σ a A N ha hN hA hlr hpm sz ps hps i ii hii (by omega) hi _ _ (by omega) ?_ N (i + 2) _ x4 x5 (by omega) (by omega) (by omega) (by omega) (by omega) (fun j2 h2 => h2.2.1)
          intro jj x y _ hno
          refine V.iinc (pc := 226) d_Mo_isFolding_226 rfl ⟨by omega, by omega⟩ (Nat.le_of_ble_eq_true rfl) rfl ?_
          dsimp only [put]
          refine V.goto (tgt := 31) (pc := 229) d_Mo_isFolding_229 (by decide) ?_
          refine ih (i + 1) _ _ _ _ _ _ (by omega) (by omega) (by omega) (fun i2 j2 h2 => ?_)
          have q := hi i2 j2 h2
          by_cases e : i2 = i
          · subst e; exact absurd h2 (hno j2)
          · omega
        · skip
          try simp only [show ii.toNat = i by omega, show (ii + 1).toNat = i + 1 by omega]
          refine V.aload_n (pc := 98) 0 d_Mo_isFolding_98 rfl rfl ?_
          refine V.getf (pc := 99) 15 cl_Mo fl_Mo_49_Mo d_Mo_isFolding_99 (hM_o _) (Nat.le_of_ble_eq_true rfl) rfl ?_
          refine V.iload (pc := 102) d_Mo_isFolding_102 rfl ?_
          refine V.iconst (pc := 104) d_Mo_isFolding_104 ⟨by decide, by decide⟩ ?_
          refine V.iadd (pc := 105) d_Mo_isFolding_105 ⟨by omega, by omega⟩ ?_
          refine V.iald (pc := 106) d_Mo_isFolding_106 (ar_stands _).1 (by omega) (by omega) ?_
          try simp (disch := omega) only [sset_n, sset_e]
          try simp only [show ii.toNat = i by omega, show (ii + 1).toNat = i + 1 by omega]
          refine V.goto (tgt := 117) (pc := 107) d_Mo_isFolding_107 (by decide) ?_
          try simp only [show ii.toNat = i by omega, show (ii + 1).toNat = i + 1 by omega]
          refine V.istore (pc := 117) d_Mo_isFolding_117 (Nat.le_of_ble_eq_true rfl) rfl ?_
          dsimp only [put]
          refine V.iload (pc := 119) d_Mo_isFolding_119 rfl ?_
          refine V.iconst (pc := 121) d_Mo_isFolding_121 ⟨by decide, by decide⟩ ?_
          refine V.iadd (pc := 122) d_Mo_isFolding_122 ⟨by omega, by omega⟩ ?_
          refine V.istore (pc := 123) d_Mo_isFolding_123 (Nat.le_of_ble_eq_true rfl) rfl ?_
          dsimp only [put]
          refine lp_Mo_isFolding_in hr h1 σ a A N ha hN hA hlr hpm sz ps hps i ii hii (by omega) hi _ _ (by omega) ?_ N (i + 2) _ x4 x5 (by omega) (by omega) (by omega) (by omega) (by omega) (fun j2 h2 => h2.2.1)
          intro jj x y _ hno
          refine V.iinc (pc := 226) d_Mo_isFolding_226 rfl ⟨by omega, by omega⟩ (Nat.le_of_ble_eq_true rfl) rfl ?_
          dsimp only [put]
          refine V.goto (tgt := 31) (pc := 229) d_Mo_isFolding_229 (by decide) ?_
          refine ih (i + 1) _ _ _ _ _ _ (by omega) (by omega) (by omega) (fun i2 j2 h2 => ?_)
          have q := hi i2 j2 h2
          by_cases e : i2 = i
          · subst e; exact absurd h2 (hno j2)
          · omega
      · skip
        try simp only [show ii.toNat = i by omega, show (ii + 1).toNat = i + 1 by omega]
        refine V.aload_n (pc := 58) 0 d_Mo_isFolding_58 rfl rfl ?_
        refine V.getf (pc := 59) 15 cl_Mo fl_Mo_49_Mo d_Mo_isFolding_59 (hM_o _) (Nat.le_of_ble_eq_true rfl) rfl ?_
        refine V.iload (pc := 62) d_Mo_isFolding_62 rfl ?_
        refine V.iald (pc := 64) d_Mo_isFolding_64 (ar_stands _).1 (by omega) (by omega) ?_
        try simp (disch := omega) only [sset_n, sset_e]
        try simp only [show ii.toNat = i by omega, show (ii + 1).toNat = i + 1 by omega]
        refine V.goto (tgt := 77) (pc := 65) d_Mo_isFolding_65 (by decide) ?_
        try simp only [show ii.toNat = i by omega, show (ii + 1).toNat = i + 1 by omega]
        refine V.istore (pc := 77) d_Mo_isFolding_77 (Nat.le_of_ble_eq_true rfl) rfl ?_
        dsimp only [put]
        refine V.aload_n (pc := 79) 0 d_Mo_isFolding_79 rfl rfl ?_
        refine V.getf (pc := 80) 15 cl_Mo fl_Mo_49_Mo d_Mo_isFolding_80 (hM_o _) (Nat.le_of_ble_eq_true rfl) rfl ?_
        refine V.iload (pc := 83) d_Mo_isFolding_83 rfl ?_
        refine V.iald (pc := 85) d_Mo_isFolding_85 (ar_stands _).1 (by omega) (by omega) ?_
        try simp (disch := omega) only [sset_n, sset_e]
        try simp only [show ii.toNat = i by omega, show (ii + 1).toNat = i + 1 by omega]
        refine V.aload_n (pc := 86) 0 d_Mo_isFolding_86 rfl rfl ?_
        refine V.getf (pc := 87) 15 cl_Mo fl_Mo_49_Mo d_Mo_isFolding_87 (hM_o _) (Nat.le_of_ble_eq_true rfl) rfl ?_
        refine V.iload (pc := 90) d_Mo_isFolding_90 rfl ?_
        refine V.iconst (pc := 92) d_Mo_isFolding_92 ⟨by decide, by decide⟩ ?_
        refine V.iadd (pc := 93) d_Mo_isFolding_93 ⟨by omega, by omega⟩ ?_
        refine V.iald (pc := 94) d_Mo_isFolding_94 (ar_stands _).1 (by omega) (by omega) ?_
        try simp (disch := omega) only [sset_n, sset_e]
        try simp only [show ii.toNat = i by omega, show (ii + 1).toNat = i + 1 by omega]
        refine V.icmp_ge (tgt := 110) (pc := 95) d_Mo_isFolding_95 (by decide) (fun c_95 => ?_) (fun c_95 => ?_)
        · skip
          try simp only [show ii.toNat = i by omega, show (ii + 1).toNat = i + 1 by omega]
          refine V.aload_n (pc := 110) 0 d_Mo_isFolding_110 rfl rfl ?_
          refine V.getf (pc := 111) 15 cl_Mo fl_Mo_49_Mo d_Mo_isFolding_111 (hM_o _) (Nat.le_of_ble_eq_true rfl) rfl ?_
          refine V.iload (pc := 114) d_Mo_isFolding_114 rfl ?_
          refine V.iald (pc := 116) d_Mo_isFolding_116 (ar_stands _).1 (by omega) (by omega) ?_
          try simp (disch := omega) only [sset_n, sset_e]
          try simp only [show ii.toNat = i by omega, show (ii + 1).toNat = i + 1 by omega]
          refine V.istore (pc := 117) d_Mo_isFolding_117 (Nat.le_of_ble_eq_true rfl) rfl ?_
          dsimp only [put]
          refine V.iload (pc := 119) d_Mo_isFolding_119 rfl ?_
          refine V.iconst (pc := 121) d_Mo_isFolding_121 ⟨by decide, by decide⟩ ?_
          refine V.iadd (pc := 122) d_Mo_isFolding_122 ⟨by omega, by omega⟩ ?_
          refine V.istore (pc := 123) d_Mo_isFolding_123 (Nat.le_of_ble_eq_true rfl) rfl ?_
          dsimp only [put]
          refine lp_Mo_isFolding_in hr h1 σ a A N ha hN hA hlr hpm sz ps hps i ii hii (by omega) hi _ _ (by omega) ?_ N (i + 2) _ x4 x5 (by omega) (by omega) (by omega) (by omega) (by omega) (fun j2 h2 => h2.2.1)
          intro jj x y _ hno
          refine V.iinc (pc := 226) d_Mo_isFolding_226 rfl ⟨by omega, by omega⟩ (Nat.le_of_ble_eq_true rfl) rfl ?_
          dsimp only [put]
          refine V.goto (tgt := 31) (pc := 229) d_Mo_isFolding_229 (by decide) ?_
          refine ih (i + 1) _ _ _ _ _ _ (by omega) (by omega) (by omega) (fun i2 j2 h2 => ?_)
          have q := hi i2 j2 h2
          by_cases e : i2 = i
          · subst e; exact absurd h2 (hno j2)
          · omega
        · skip
          try simp only [show ii.toNat = i by omega, show (ii + 1).toNat = i + 1 by omega]
          refine V.aload_n (pc := 98) 0 d_Mo_isFolding_98 rfl rfl ?_
          refine V.getf (pc := 99) 15 cl_Mo fl_Mo_49_Mo d_Mo_isFolding_99 (hM_o _) (Nat.le_of_ble_eq_true rfl) rfl ?_
          refine V.iload (pc := 102) d_Mo_isFolding_102 rfl ?_
          refine V.iconst (pc := 104) d_Mo_isFolding_104 ⟨by decide, by decide⟩ ?_
          refine V.iadd (pc := 105) d_Mo_isFolding_105 ⟨by omega, by omega⟩ ?_
          refine V.iald (pc := 106) d_Mo_isFolding_106 (ar_stands _).1 (by omega) (by omega) ?_
          try simp (disch := omega) only [sset_n, sset_e]
          try simp only [show ii.toNat = i by omega, show (ii + 1).toNat = i + 1 by omega]
          refine V.goto (tgt := 117) (pc := 107) d_Mo_isFolding_107 (by decide) ?_
          try simp only [show ii.toNat = i by omega, show (ii + 1).toNat = i + 1 by omega]
          refine V.istore (pc := 117) d_Mo_isFolding_117 (Nat.le_of_ble_eq_true rfl) rfl ?_
          dsimp only [put]
          refine V.iload (pc := 119) d_Mo_isFolding_119 rfl ?_
          refine V.iconst (pc := 121) d_Mo_isFolding_121 ⟨by decide, by decide⟩ ?_
          refine V.iadd (pc := 122) d_Mo_isFolding_122 ⟨by omega, by omega⟩ ?_
          refine V.istore (pc := 123) d_Mo_isFolding_123 (Nat.le_of_ble_eq_true rfl) rfl ?_
          dsimp only [put]
          refine lp_Mo_isFolding_in hr h1 σ a A N ha hN hA hlr hpm sz ps hps i ii hii (by omega) hi _ _ (by omega) ?_ N (i + 2) _ x4 x5 (by omega) (by omega) (by omega) (by omega) (by omega) (fun j2 h2 => h2.2.1)
          intro jj x y _ hno
          refine V.iinc (pc := 226) d_Mo_isFolding_226 rfl ⟨by omega, by omega⟩ (Nat.le_of_ble_eq_true rfl) rfl ?_
          dsimp only [put]
          refine V.goto (tgt := 31) (pc := 229) d_Mo_isFolding_229 (by decide) ?_
          refine ih (i + 1) _ _ _ _ _ _ (by omega) (by omega) (by omega) (fun i2 j2 h2 => ?_)
          have q := hi i2 j2 h2
          by_cases e : i2 = i
          · subst e; exact absurd h2 (hno j2)
          · omega
set_option maxRecDepth 20000 in
theorem lp_Mo_isFolding_fill {kr ar Lr : Nat} (hr : Arr kr ar Lr) (h1 : kr ≠ 15) (σ : SM) (a : Nat → Int) (A N : Nat) (ha : a = fun q => σ kr (A + q)) (hN : N ≤ 20) (hA : A + N ≤ Lr) (hlr : Lr ≤ 10000) (hpm : isPerm a N) (sz : Nat) : ∀ (m p : Nat) (pp : Int) (fl : Nat → Int), p + m = N → pp = p → (∀ q, q < p → fl (a q).toNat = q) →
    V M_Mo_isFolding 0 3 [some (vR 8), some (vR ar), some (vI A), some (vI N), some (vI pp)] [] (hM (sset σ 15 fl)) sz 0 0 (QF σ a N sz) := by
  intro m
  induction m with
  | zero =>
    intro p pp fl hm hpp hfl
    refine V.iload (pc := 3) d_Mo_isFolding_3 rfl ?_
    refine V.iload_n (pc := 5) 3 d_Mo_isFolding_5 rfl rfl ?_
    refine V.icmp_ge (tgt := 28) (pc := 6) d_Mo_isFolding_6 (by decide) (fun c_6 => ?_) (fun c_6 => ?_)
    · skip
      refine V.iconst (pc := 28) d_Mo_isFolding_28 ⟨by decide, by decide⟩ ?_
      refine V.istore (pc := 29) d_Mo_isFolding_29 (Nat.le_of_ble_eq_true rfl) rfl ?_
      dsimp only [put]
      have hps : isPos a fl N := fun k hk => hfl k (by omega)
      have hp0 : ∀ s, s < N → 0 ≤ fl s ∧ fl s < N := fun s hs => by
        obtain ⟨k, hk, e⟩ := perm_onto hpm hs
        have := hps k hk
        rw [e] at this; simp only [Int.toNat_natCast] at this
        omega
      refine V.pad (V.pad (V.pad (V.pad (V.pad ?_))))
      exact lp_Mo_isFolding_out hr h1 σ a A N ha hN hA hlr hpm sz fl hps hp0 (N - 1) 0 0 none none none none none (by omega) (by omega) rfl (fun i2 j2 h2 => Nat.zero_le _)
    · skip
      exfalso; omega
  | succ m ih =>
    intro p pp fl hm hpp hfl
    have hap := hpm.1 p (by omega)
    refine V.iload (pc := 3) d_Mo_isFolding_3 rfl ?_
    refine V.iload_n (pc := 5) 3 d_Mo_isFolding_5 rfl rfl ?_
    refine V.icmp_ge (tgt := 28) (pc := 6) d_Mo_isFolding_6 (by decide) (fun c_6 => ?_) (fun c_6 => ?_)
    · skip
      exfalso; omega
    · skip
      refine V.aload_n (pc := 9) 0 d_Mo_isFolding_9 rfl rfl ?_
      refine V.getf (pc := 10) 15 cl_Mo fl_Mo_49_Mo d_Mo_isFolding_10 (hM_o _) (Nat.le_of_ble_eq_true rfl) rfl ?_
      refine V.aload_n (pc := 13) 1 d_Mo_isFolding_13 rfl rfl ?_
      refine V.iload_n (pc := 14) 2 d_Mo_isFolding_14 rfl rfl ?_
      refine V.iload (pc := 15) d_Mo_isFolding_15 rfl ?_
      refine V.iadd (pc := 17) d_Mo_isFolding_17 ⟨by omega, by omega⟩ ?_
      refine V.iald (pc := 18) d_Mo_isFolding_18 (hr _).1 (by omega) (by omega) ?_
      try simp (disch := omega) only [sset_n, sset_e]
      rw [show ((A : Int) + pp).toNat = A + p by omega, show σ kr (A + p) = a p by rw [ha]]
      refine V.iload (pc := 19) d_Mo_isFolding_19 rfl ?_
      refine V.iast (pc := 21) d_Mo_isFolding_21 (ar_stands _).1 (by omega) (by omega) ?_
      rw [(ar_stands _).2]
      simp (disch := omega) only [sset_n, sset_e]
      rw [sset_tw]
      refine V.iinc (pc := 22) d_Mo_isFolding_22 rfl ⟨by omega, by omega⟩ (Nat.le_of_ble_eq_true rfl) rfl ?_
      dsimp only [put]
      refine V.goto (tgt := 3) (pc := 25) d_Mo_isFolding_25 (by decide) ?_
      refine ih (p + 1) _ _ (by omega) (by omega) (fun q hq => ?_)
      unfold upf
      by_cases e : q = p
      · subst e; rw [if_pos rfl]; omega
      · have b1 := hpm.1 q (by omega)
        have b2 : (a q).toNat ≠ (a p).toNat := fun z => e (hpm.2 q (by omega) p (by omega) (by omega))
        rw [if_neg b2]; exact hfl q (by omega)
set_option maxRecDepth 20000 in
theorem ct_Mo_isFolding {kr ar Lr : Nat} (hr : Arr kr ar Lr) (h1 : kr ≠ 15) (σ : SM) (a : Nat → Int) (A N : Nat) (ha : a = fun q => σ kr (A + q)) (hN : N ≤ 20) (hA : A + N ≤ Lr) (hlr : Lr ≤ 10000) (hpm : isPerm a N) (sz : Nat) : Ct M_Mo_isFolding 0 0 0 [vR 8, vR ar, vI A, vI N] (hM σ) sz (QF σ a N sz) := by
  refine Ct.of rfl (Nat.le_of_ble_eq_true rfl) ?_
  dsimp only [lsOf]
  refine V.iconst (pc := 0) d_Mo_isFolding_0 ⟨by decide, by decide⟩ ?_
  refine V.istore (pc := 1) d_Mo_isFolding_1 (Nat.le_of_ble_eq_true rfl) rfl ?_
  dsimp only [put]
  have k := lp_Mo_isFolding_fill hr h1 σ a A N ha hN hA hlr hpm sz N 0 0 (σ 15) (by omega) rfl (fun q hq => by omega)
  rw [sset_id] at k
  exact k
