/-! THE REFERENCE: worth, printed by wip/whole/gen/refK.py -/
theorem strip_z {kd : Int} {n : Nat} {a b : Nat → Int} (hw : wfT (kd, n, a, b)) (h : 7 ≤ kd) : ∃ z, z < n ∧ a z = 0 ∧ ∀ j, j < z → a j ≠ 0 := by
  obtain ⟨hn, -, h3⟩ := hw
  rcases h3 with h3 | h3 | h3
  · have := h3.2.1; omega
  · have := h3.1; omega
  · obtain ⟨z, hz, e⟩ := perm_onto h3.2.1 (s := 0) (by omega)
    have e0 : a z = 0 := e
    refine ⟨z, hz, e0, fun j hj e2 => ?_⟩
    have := h3.2.1.2 j (by omega) z hz (by rw [e0, e2])
    omega
theorem loop_1 {kd : Int} {n : Nat} {a b : Nat → Int} (hw : wfT (kd, n, a, b)) (h : kd = 6) : nlp a b n = 1 := by
  obtain ⟨hn, -, h3⟩ := hw
  rcases h3 with h3 | h3 | h3
  · have := h3.2.1; omega
  · exact h3.2.2.2.2.2.mp h
  · have := h3.1; omega
set_option maxRecDepth 20000 in
theorem ct_Mo_worth (σ τ : SM) (l : List Int) (htr : TR σ τ l) (hl : l.length < 10) (t : Int) (ht : 0 ≤ t ∧ t ≤ 9) (kd : Int) (n : Nat) (a b : Nat → Int) (hone : R_one (kd, n, a, b) t.toNat (σ 4) (σ 5) (σ 6) (σ 7) (σ 8) (σ 9)) (sz : Nat) : Ct M_Mo_worth 2 0 0 [vR 8, vI t] (hM τ) sz (QZ σ (wthV kd n a b) (l ++ wthL kd) sz) := by
  obtain ⟨hw, hk, hn, h3, h4, h5, h6⟩ := id hone
  have hwk := wf_kind hw
  refine Ct.of rfl (Nat.le_of_ble_eq_true rfl) ?_
  dsimp only [lsOf]
  refine V.aload_n (pc := 0) 0 d_Mo_worth_0 rfl rfl ?_
  refine V.getf (pc := 1) 4 cl_Mo fl_Mo_22_Mo d_Mo_worth_1 (hM_o _) (Nat.le_of_ble_eq_true rfl) rfl ?_
  refine V.iload_n (pc := 4) 1 d_Mo_worth_4 rfl rfl ?_
  refine V.iald (pc := 5) d_Mo_worth_5 (ar_kinds _).1 (by omega) (by omega) ?_
  try simp (disch := omega) only [sset_n, sset_e]
  rw [htr.1 4 (by omega) (by omega) (by omega)]
  rw [hk]
  refine V.istore_n (pc := 6) 2 d_Mo_worth_6 rfl (Nat.le_of_ble_eq_true rfl) rfl ?_
  dsimp only [put]
  refine V.iconst (pc := 7) d_Mo_worth_7 ⟨by decide, by decide⟩ ?_
  refine V.istore_n (pc := 8) 3 d_Mo_worth_8 rfl (Nat.le_of_ble_eq_true rfl) rfl ?_
  dsimp only [put]
  refine V.iload_n (pc := 9) 2 d_Mo_worth_9 rfl rfl ?_
  refine V.iconst (pc := 10) d_Mo_worth_10 ⟨by decide, by decide⟩ ?_
  refine V.icmp_ne (tgt := 67) (pc := 11) d_Mo_worth_11 (by decide) (fun c_11 => ?_) (fun c_11 => ?_)
  · skip
    refine V.iload_n (pc := 67) 2 d_Mo_worth_67 rfl rfl ?_
    refine V.iconst (pc := 68) d_Mo_worth_68 ⟨by decide, by decide⟩ ?_
    refine V.icmp_ge (tgt := 157) (pc := 69) d_Mo_worth_69 (by decide) (fun c_69 => ?_) (fun c_69 => ?_)
    · skip
      refine V.iload_n (pc := 157) 2 d_Mo_worth_157 rfl rfl ?_
      refine V.bipush (pc := 158) d_Mo_worth_158 ⟨by decide, by decide⟩ ?_
      refine V.icmp_ge (tgt := 205) (pc := 160) d_Mo_worth_160 (by decide) (fun c_160 => ?_) (fun c_160 => ?_)
      · skip
        refine V.iload_n (pc := 205) 2 d_Mo_worth_205 rfl rfl ?_
        refine V.bipush (pc := 206) d_Mo_worth_206 ⟨by decide, by decide⟩ ?_
        refine V.icmp_ne (tgt := 217) (pc := 208) d_Mo_worth_208 (by decide) (fun c_208 => ?_) (fun c_208 => ?_)
        · skip
          refine V.aload_n (pc := 217) 0 d_Mo_worth_217 rfl rfl ?_
          refine V.bipush (pc := 218) d_Mo_worth_218 ⟨by decide, by decide⟩ ?_
          refine V.cV1 (pc := 220) (kc2 := 0) (ks2 := 0) ml_Mo_193 (hM_o _) (ct_Mo_begins _ _ (by rw [htr.2.1]; omega) _) d_Mo_worth_220 (Nat.le_of_ble_eq_true rfl) (Nat.le_of_ble_eq_true rfl) (Nat.le_of_ble_eq_true rfl) (Nat.le_of_ble_eq_true rfl) ?_
          rintro _ _ _ ⟨rfl, rfl, rfl⟩
          dsimp only [Option.toList, List.cons_append, List.nil_append]
          have htr := htr.step 25 (by first | omega | (simp only [List.length_append, List.length_cons, List.length_nil]; omega))
          generalize tr1 τ 25 = τ at htr ⊢
          obtain ⟨z, hz, hz0, hb⟩ := strip_z hw (by omega)
          have hfz := fz_is hz0 n 0 (by omega) (by omega) (fun j _ g => hb j g)
          rw [show wthV kd n a b = (if kd = 8 then (z : Int) + 100 else (z : Int)) by unfold wthV; rw [if_neg (by omega), if_neg (by omega), if_neg (by omega), hfz], show l ++ wthL kd = l ++ [25] by unfold wthL; rw [if_neg (by omega), if_neg (by omega), if_neg (by omega), if_neg (by omega)]]
          exact lp_Mo_worthS σ τ _ htr t ht n (by omega) a (fun x hx => h4 (by omega) x hx) kd z hz hz0 hb _ z 0 0 (by omega) rfl
        · skip
          refine V.aload_n (pc := 211) 0 d_Mo_worth_211 rfl rfl ?_
          refine V.bipush (pc := 212) d_Mo_worth_212 ⟨by decide, by decide⟩ ?_
          refine V.cV1 (pc := 214) (kc2 := 0) (ks2 := 0) ml_Mo_193 (hM_o _) (ct_Mo_begins _ _ (by rw [htr.2.1]; omega) _) d_Mo_worth_214 (Nat.le_of_ble_eq_true rfl) (Nat.le_of_ble_eq_true rfl) (Nat.le_of_ble_eq_true rfl) (Nat.le_of_ble_eq_true rfl) ?_
          rintro _ _ _ ⟨rfl, rfl, rfl⟩
          dsimp only [Option.toList, List.cons_append, List.nil_append]
          have htr := htr.step 26 (by first | omega | (simp only [List.length_append, List.length_cons, List.length_nil]; omega))
          generalize tr1 τ 26 = τ at htr ⊢
          refine V.aload_n (pc := 217) 0 d_Mo_worth_217 rfl rfl ?_
          refine V.bipush (pc := 218) d_Mo_worth_218 ⟨by decide, by decide⟩ ?_
          refine V.cV1 (pc := 220) (kc2 := 0) (ks2 := 0) ml_Mo_193 (hM_o _) (ct_Mo_begins _ _ (by rw [htr.2.1]; omega) _) d_Mo_worth_220 (Nat.le_of_ble_eq_true rfl) (Nat.le_of_ble_eq_true rfl) (Nat.le_of_ble_eq_true rfl) (Nat.le_of_ble_eq_true rfl) ?_
          rintro _ _ _ ⟨rfl, rfl, rfl⟩
          dsimp only [Option.toList, List.cons_append, List.nil_append]
          have htr := htr.step 25 (by first | omega | (simp only [List.length_append, List.length_cons, List.length_nil]; omega))
          generalize tr1 τ 25 = τ at htr ⊢
          obtain ⟨z, hz, hz0, hb⟩ := strip_z hw (by omega)
          have hfz := fz_is hz0 n 0 (by omega) (by omega) (fun j _ g => hb j g)
          rw [show wthV kd n a b = (if kd = 8 then (z : Int) + 100 else (z : Int)) by unfold wthV; rw [if_neg (by omega), if_neg (by omega), if_neg (by omega), hfz], show l ++ wthL kd = (l ++ [26]) ++ [25] by unfold wthL; rw [if_neg (by omega), if_neg (by omega), if_neg (by omega), if_pos (by omega)]; simp only [List.append_assoc, List.cons_append, List.nil_append]]
          exact lp_Mo_worthS σ τ _ htr t ht n (by omega) a (fun x hx => h4 (by omega) x hx) kd z hz hz0 hb _ z 0 0 (by omega) rfl
      · skip
        by_cases h66 : kd = 6
        · skip
          refine V.iload_n (pc := 163) 2 d_Mo_worth_163 rfl rfl ?_
          refine V.bipush (pc := 164) d_Mo_worth_164 ⟨by decide, by decide⟩ ?_
          refine V.icmp_ne (tgt := 175) (pc := 166) d_Mo_worth_166 (by decide) (fun c_166 => ?_) (fun c_166 => ?_)
          · skip
            exfalso; omega
          · skip
            refine V.aload_n (pc := 169) 0 d_Mo_worth_169 rfl rfl ?_
            refine V.bipush (pc := 170) d_Mo_worth_170 ⟨by decide, by decide⟩ ?_
            refine V.cV1 (pc := 172) (kc2 := 0) (ks2 := 0) ml_Mo_193 (hM_o _) (ct_Mo_begins _ _ (by rw [htr.2.1]; omega) _) d_Mo_worth_172 (Nat.le_of_ble_eq_true rfl) (Nat.le_of_ble_eq_true rfl) (Nat.le_of_ble_eq_true rfl) (Nat.le_of_ble_eq_true rfl) ?_
            rintro _ _ _ ⟨rfl, rfl, rfl⟩
            dsimp only [Option.toList, List.cons_append, List.nil_append]
            have htr := htr.step 24 (by first | omega | (simp only [List.length_append, List.length_cons, List.length_nil]; omega))
            generalize tr1 τ 24 = τ at htr ⊢
            refine V.aload_n (pc := 175) 0 d_Mo_worth_175 rfl rfl ?_
            refine V.bipush (pc := 176) d_Mo_worth_176 ⟨by decide, by decide⟩ ?_
            refine V.cV1 (pc := 178) (kc2 := 0) (ks2 := 0) ml_Mo_193 (hM_o _) (ct_Mo_begins _ _ (by rw [htr.2.1]; omega) _) d_Mo_worth_178 (Nat.le_of_ble_eq_true rfl) (Nat.le_of_ble_eq_true rfl) (Nat.le_of_ble_eq_true rfl) (Nat.le_of_ble_eq_true rfl) ?_
            rintro _ _ _ ⟨rfl, rfl, rfl⟩
            dsimp only [Option.toList, List.cons_append, List.nil_append]
            have htr := htr.step 23 (by first | omega | (simp only [List.length_append, List.length_cons, List.length_nil]; omega))
            generalize tr1 τ 23 = τ at htr ⊢
            refine V.aload_n (pc := 181) 0 d_Mo_worth_181 rfl rfl ?_
            refine V.iload_n (pc := 182) 1 d_Mo_worth_182 rfl rfl ?_
            obtain ⟨har, hbr⟩ := land_pr hw (by omega)
            refine V.cV1 (pc := 183) (kc2 := 0) (ks2 := 0) ml_Mo_141 (hM_o _) (ct_Mo_landLoops τ t.toNat n t (by omega) (by omega) (by rw [htr.1 5 (by omega) (by omega) (by omega)]; exact hn) (by omega) (pt a n) (pt b n) (fun q hq => by rw [htr.1 8 (by omega) (by omega) (by omega)]; exact h6 (by omega) (by omega) q hq) (fun q hq => by rw [htr.1 9 (by omega) (by omega) (by omega)]; exact (h5 (by omega) q hq).2) (PR_pt har) (PR_pt hbr) _) d_Mo_worth_183 (Nat.le_of_ble_eq_true rfl) (Nat.le_of_ble_eq_true rfl) (Nat.le_of_ble_eq_true rfl) (Nat.le_of_ble_eq_true rfl) ?_
            rintro _ _ _ ⟨rfl, fl, rfl, rfl, hfl⟩
            dsimp only [Option.toList, List.cons_append, List.nil_append]
            have htr := htr.lf fl
            rw [show (lpS (pt a n) (pt b n) (2 * n) (2 * n)).2 = nlp a b n from rfl]
            refine V.istore_n (pc := 186) 3 d_Mo_worth_186 rfl (Nat.le_of_ble_eq_true rfl) rfl ?_
            dsimp only [put]
            refine V.iload_n (pc := 187) 2 d_Mo_worth_187 rfl rfl ?_
            refine V.bipush (pc := 188) d_Mo_worth_188 ⟨by decide, by decide⟩ ?_
            refine V.icmp_ne (tgt := 203) (pc := 190) d_Mo_worth_190 (by decide) (fun c_190 => ?_) (fun c_190 => ?_)
            · skip
              exfalso; omega
            · skip
              refine V.iload_n (pc := 193) 3 d_Mo_worth_193 rfl rfl ?_
              refine V.aload_n (pc := 194) 0 d_Mo_worth_194 rfl rfl ?_
              refine V.iload_n (pc := 195) 1 d_Mo_worth_195 rfl rfl ?_
              refine V.cV1 (pc := 196) (kc2 := 0) (ks2 := 0) ml_Mo_197 (hM_o _) (ct_Mo_sizeOf σ (sset τ 14 fl) _ htr (by first | omega | (simp only [List.length_append, List.length_cons, List.length_nil]; omega)) t ht (by rw [hn]; omega) _) d_Mo_worth_196 (Nat.le_of_ble_eq_true rfl) (Nat.le_of_ble_eq_true rfl) (Nat.le_of_ble_eq_true rfl) (Nat.le_of_ble_eq_true rfl) ?_
              rintro _ _ _ ⟨rfl, rfl, t2, rfl, htr2⟩
              dsimp only [Option.toList, List.cons_append, List.nil_append]
              rw [hk] at htr2 ⊢
              rw [hn, show szV kd n = 2 * n by rw [h66]; exact szV6 n, loop_1 hw h66]
              refine V.imul (pc := 199) d_Mo_worth_199 ⟨by omega, by omega⟩ ?_
              refine V.goto (tgt := 204) (pc := 200) d_Mo_worth_200 (by decide) ?_
              refine V.ret (pc := 204) (r := some (vI _)) d_Mo_worth_204 (Or.inl rfl) rfl ?_
              refine ⟨rfl, ?_, t2, rfl, ?_⟩
              · unfold wthV; rw [if_neg (by omega), if_neg (by omega), if_pos (by omega), if_pos (by omega), loop_1 hw h66]
              · unfold wthL; rw [if_neg (by omega), if_neg (by omega), if_pos (by omega), if_pos (by omega)]; rw [show szL kd = [11, 10] by rw [h66]; exact szL6] at htr2; simp only [List.append_assoc, List.cons_append, List.nil_append] at htr2; exact htr2
        · skip
          refine V.iload_n (pc := 163) 2 d_Mo_worth_163 rfl rfl ?_
          refine V.bipush (pc := 164) d_Mo_worth_164 ⟨by decide, by decide⟩ ?_
          refine V.icmp_ne (tgt := 175) (pc := 166) d_Mo_worth_166 (by decide) (fun c_166 => ?_) (fun c_166 => ?_)
          · skip
            refine V.aload_n (pc := 175) 0 d_Mo_worth_175 rfl rfl ?_
            refine V.bipush (pc := 176) d_Mo_worth_176 ⟨by decide, by decide⟩ ?_
            refine V.cV1 (pc := 178) (kc2 := 0) (ks2 := 0) ml_Mo_193 (hM_o _) (ct_Mo_begins _ _ (by rw [htr.2.1]; omega) _) d_Mo_worth_178 (Nat.le_of_ble_eq_true rfl) (Nat.le_of_ble_eq_true rfl) (Nat.le_of_ble_eq_true rfl) (Nat.le_of_ble_eq_true rfl) ?_
            rintro _ _ _ ⟨rfl, rfl, rfl⟩
            dsimp only [Option.toList, List.cons_append, List.nil_append]
            have htr := htr.step 23 (by first | omega | (simp only [List.length_append, List.length_cons, List.length_nil]; omega))
            generalize tr1 τ 23 = τ at htr ⊢
            refine V.aload_n (pc := 181) 0 d_Mo_worth_181 rfl rfl ?_
            refine V.iload_n (pc := 182) 1 d_Mo_worth_182 rfl rfl ?_
            obtain ⟨har, hbr⟩ := land_pr hw (by omega)
            refine V.cV1 (pc := 183) (kc2 := 0) (ks2 := 0) ml_Mo_141 (hM_o _) (ct_Mo_landLoops τ t.toNat n t (by omega) (by omega) (by rw [htr.1 5 (by omega) (by omega) (by omega)]; exact hn) (by omega) (pt a n) (pt b n) (fun q hq => by rw [htr.1 8 (by omega) (by omega) (by omega)]; exact h6 (by omega) (by omega) q hq) (fun q hq => by rw [htr.1 9 (by omega) (by omega) (by omega)]; exact (h5 (by omega) q hq).2) (PR_pt har) (PR_pt hbr) _) d_Mo_worth_183 (Nat.le_of_ble_eq_true rfl) (Nat.le_of_ble_eq_true rfl) (Nat.le_of_ble_eq_true rfl) (Nat.le_of_ble_eq_true rfl) ?_
            rintro _ _ _ ⟨rfl, fl, rfl, rfl, hfl⟩
            dsimp only [Option.toList, List.cons_append, List.nil_append]
            have htr := htr.lf fl
            rw [show (lpS (pt a n) (pt b n) (2 * n) (2 * n)).2 = nlp a b n from rfl]
            refine V.istore_n (pc := 186) 3 d_Mo_worth_186 rfl (Nat.le_of_ble_eq_true rfl) rfl ?_
            dsimp only [put]
            refine V.iload_n (pc := 187) 2 d_Mo_worth_187 rfl rfl ?_
            refine V.bipush (pc := 188) d_Mo_worth_188 ⟨by decide, by decide⟩ ?_
            refine V.icmp_ne (tgt := 203) (pc := 190) d_Mo_worth_190 (by decide) (fun c_190 => ?_) (fun c_190 => ?_)
            · skip
              refine V.iload_n (pc := 203) 3 d_Mo_worth_203 rfl rfl ?_
              refine V.ret (pc := 204) (r := some (vI _)) d_Mo_worth_204 (Or.inl rfl) rfl ?_
              exact ⟨rfl, by unfold wthV; rw [if_neg (by omega), if_neg (by omega), if_pos (by omega), if_neg (by omega)], _, rfl, by unfold wthL; rw [if_neg (by omega), if_neg (by omega), if_pos (by omega), if_neg (by omega)]; exact htr⟩
            · skip
              exfalso; omega
          · skip
            exfalso; omega
    · skip
      refine V.iload_n (pc := 72) 2 d_Mo_worth_72 rfl rfl ?_
      refine V.iconst (pc := 73) d_Mo_worth_73 ⟨by decide, by decide⟩ ?_
      refine V.icmp_ne (tgt := 83) (pc := 74) d_Mo_worth_74 (by decide) (fun c_74 => ?_) (fun c_74 => ?_)
      · skip
        refine V.aload_n (pc := 83) 0 d_Mo_worth_83 rfl rfl ?_
        refine V.bipush (pc := 84) d_Mo_worth_84 ⟨by decide, by decide⟩ ?_
        refine V.cV1 (pc := 86) (kc2 := 0) (ks2 := 0) ml_Mo_193 (hM_o _) (ct_Mo_begins _ _ (by rw [htr.2.1]; omega) _) d_Mo_worth_86 (Nat.le_of_ble_eq_true rfl) (Nat.le_of_ble_eq_true rfl) (Nat.le_of_ble_eq_true rfl) (Nat.le_of_ble_eq_true rfl) ?_
        rintro _ _ _ ⟨rfl, rfl, rfl⟩
        dsimp only [Option.toList, List.cons_append, List.nil_append]
        have htr := htr.step 21 (by first | omega | (simp only [List.length_append, List.length_cons, List.length_nil]; omega))
        generalize tr1 τ 21 = τ at htr ⊢
        refine V.iconst (pc := 89) d_Mo_worth_89 ⟨by decide, by decide⟩ ?_
        refine V.istore (pc := 90) d_Mo_worth_90 (Nat.le_of_ble_eq_true rfl) rfl ?_
        dsimp only [put]
        rw [show wthV kd n a b = (if kd = 3 then cn (nxt a n) (2 * n - 1) + n else cn (nxt a n) (2 * n - 1)) by unfold wthV; rw [if_neg (by omega), if_pos (by omega)], show l ++ wthL kd = (if kd = 3 then (l ++ [21]) ++ [10] else l ++ [21]) by unfold wthL; rw [if_neg (by omega), if_pos (by omega), if_neg (by omega), if_neg (by omega)]]
        exact lp_Mo_worthA σ τ _ htr t ht n hn (by omega) a (by first | omega | (simp only [List.length_append, List.length_cons, List.length_nil]; omega)) (fun x hx => h6 (by omega) (by omega) x hx) kd hk _ (2 * n - 1) 0 0 0 (by omega) rfl rfl
      · skip
        refine V.aload_n (pc := 77) 0 d_Mo_worth_77 rfl rfl ?_
        refine V.bipush (pc := 78) d_Mo_worth_78 ⟨by decide, by decide⟩ ?_
        refine V.cV1 (pc := 80) (kc2 := 0) (ks2 := 0) ml_Mo_193 (hM_o _) (ct_Mo_begins _ _ (by rw [htr.2.1]; omega) _) d_Mo_worth_80 (Nat.le_of_ble_eq_true rfl) (Nat.le_of_ble_eq_true rfl) (Nat.le_of_ble_eq_true rfl) (Nat.le_of_ble_eq_true rfl) ?_
        rintro _ _ _ ⟨rfl, rfl, rfl⟩
        dsimp only [Option.toList, List.cons_append, List.nil_append]
        have htr := htr.step 22 (by first | omega | (simp only [List.length_append, List.length_cons, List.length_nil]; omega))
        generalize tr1 τ 22 = τ at htr ⊢
        refine V.aload_n (pc := 83) 0 d_Mo_worth_83 rfl rfl ?_
        refine V.bipush (pc := 84) d_Mo_worth_84 ⟨by decide, by decide⟩ ?_
        refine V.cV1 (pc := 86) (kc2 := 0) (ks2 := 0) ml_Mo_193 (hM_o _) (ct_Mo_begins _ _ (by rw [htr.2.1]; omega) _) d_Mo_worth_86 (Nat.le_of_ble_eq_true rfl) (Nat.le_of_ble_eq_true rfl) (Nat.le_of_ble_eq_true rfl) (Nat.le_of_ble_eq_true rfl) ?_
        rintro _ _ _ ⟨rfl, rfl, rfl⟩
        dsimp only [Option.toList, List.cons_append, List.nil_append]
        have htr := htr.step 21 (by first | omega | (simp only [List.length_append, List.length_cons, List.length_nil]; omega))
        generalize tr1 τ 21 = τ at htr ⊢
        refine V.iconst (pc := 89) d_Mo_worth_89 ⟨by decide, by decide⟩ ?_
        refine V.istore (pc := 90) d_Mo_worth_90 (Nat.le_of_ble_eq_true rfl) rfl ?_
        dsimp only [put]
        rw [show wthV kd n a b = (if kd = 3 then cn (nxt a n) (2 * n - 1) + n else cn (nxt a n) (2 * n - 1)) by unfold wthV; rw [if_neg (by omega), if_pos (by omega)], show l ++ wthL kd = (if kd = 3 then ((l ++ [22]) ++ [21]) ++ [10] else (l ++ [22]) ++ [21]) by unfold wthL; rw [if_neg (by omega), if_pos (by omega), if_pos (by omega), if_pos (by omega)]; simp only [List.append_assoc, List.cons_append, List.nil_append]]
        exact lp_Mo_worthA σ τ _ htr t ht n hn (by omega) a (by first | omega | (simp only [List.length_append, List.length_cons, List.length_nil]; omega)) (fun x hx => h6 (by omega) (by omega) x hx) kd hk _ (2 * n - 1) 0 0 0 (by omega) rfl rfl
  · skip
    refine V.aload_n (pc := 14) 0 d_Mo_worth_14 rfl rfl ?_
    refine V.bipush (pc := 15) d_Mo_worth_15 ⟨by decide, by decide⟩ ?_
    refine V.cV1 (pc := 17) (kc2 := 0) (ks2 := 0) ml_Mo_193 (hM_o _) (ct_Mo_begins _ _ (by rw [htr.2.1]; omega) _) d_Mo_worth_17 (Nat.le_of_ble_eq_true rfl) (Nat.le_of_ble_eq_true rfl) (Nat.le_of_ble_eq_true rfl) (Nat.le_of_ble_eq_true rfl) ?_
    rintro _ _ _ ⟨rfl, rfl, rfl⟩
    dsimp only [Option.toList, List.cons_append, List.nil_append]
    have htr := htr.step 20 (by first | omega | (simp only [List.length_append, List.length_cons, List.length_nil]; omega))
    generalize tr1 τ 20 = τ at htr ⊢
    refine V.iconst (pc := 20) d_Mo_worth_20 ⟨by decide, by decide⟩ ?_
    refine V.istore (pc := 21) d_Mo_worth_21 (Nat.le_of_ble_eq_true rfl) rfl ?_
    dsimp only [put]
    rw [show wthV kd n a b = cn (plu a) (2 * n) by unfold wthV; rw [if_pos (by omega)], show wthL kd = [20] by unfold wthL; rw [if_pos (by omega)]]
    exact lp_Mo_worthR σ τ (l ++ [20]) htr t ht n hn (by omega) a (fun x hx => h3 (by omega) x hx) kd _ (2 * n) 0 0 0 (by omega) rfl rfl
