/-! THE REFERENCE: sheet, copy, count, printed by wip/whole/gen/refC.py -/
set_option maxRecDepth 20000 in
theorem lp_Mo_sheet (S : SS) (σ : SM) (hI : RI S σ) (sh ln n : Int) (hsh : 0 ≤ sh ∧ sh ≤ 7) (hln : 0 ≤ ln ∧ ln ≤ 2) (hn : 0 ≤ n ∧ n ≤ 100) (sz : Nat) : ∀ (c p : Nat) (kk : Int) (g : Nat → Int), (p : Int) + c = n → kk = p → (∀ q, q < p → g (100 * sh.toNat + q) = 0) → (∀ j, (j < 100 * sh.toNat ∨ 100 * sh.toNat + 100 ≤ j) → g j = σ 2 j) →
    V M_Mo_sheet 2 57 [some (vR 8), some (vI sh), some (vI ln), some (vI n), some (vI kk)] [] (hM (sset (sset (sset σ 0 (upf (σ 0) sh.toNat (ln + 1))) 1 (upf (σ 1) sh.toNat n)) 2 g)) sz 0 0 (QS (sp_sheet S sh ln n) sz) := by
  intro c
  induction c with
  | zero =>
    intro p kk g hc hkk hg hf
    refine V.iload (pc := 57) d_Mo_sheet_57 rfl ?_
    refine V.iload_n (pc := 59) 3 d_Mo_sheet_59 rfl rfl ?_
    refine V.icmp_ge (tgt := 82) (pc := 60) d_Mo_sheet_60 (by decide) (fun c_60 => ?_) (fun c_60 => ?_)
    · skip
      refine V.aload_n (pc := 82) 0 d_Mo_sheet_82 rfl rfl ?_
      refine V.iload_n (pc := 83) 3 d_Mo_sheet_83 rfl rfl ?_
      refine V.cV1 (pc := 84) (kc2 := 0) (ks2 := 0) ml_Mo_117 (hM_o _) (ct_Mo_well _ _ _) d_Mo_sheet_84 (Nat.le_of_ble_eq_true rfl) (Nat.le_of_ble_eq_true rfl) (Nat.le_of_ble_eq_true rfl) (Nat.le_of_ble_eq_true rfl) ?_
      rintro _ _ _ ⟨rfl, rfl, rfl⟩
      dsimp only [Option.toList, List.cons_append, List.nil_append]
      refine V.ret (pc := 87) (r := some (vI _)) d_Mo_sheet_87 (Or.inl rfl) rfl ?_
      refine qs_of (S2 := sSh S sh.toNat (some (ln, n.toNat, fun _ => 0))) (by unfold sp_sheet; rw [if_pos (by omega), if_neg (by omega)]) (RI.sh hI (R_sh_upd hI.1 (fun j hj hne => ⟨upf_n hne, fun _ _ => ⟨upf_n hne, fun q hq => hf _ (by omega)⟩⟩) ⟨by omega, by omega, by omega, upf_e, ?_, fun q hq => hg q (by omega)⟩) rfl (fun j h4 h10 => by rw [sset_n h10, sset_n (by omega), sset_n (by omega), sset_n (by omega)]))
      show upf (σ 1) sh.toNat n sh.toNat = _
      rw [upf_e]; omega
    · skip
      exfalso; omega
  | succ c ih =>
    intro p kk g hc hkk hg hf
    refine V.iload (pc := 57) d_Mo_sheet_57 rfl ?_
    refine V.iload_n (pc := 59) 3 d_Mo_sheet_59 rfl rfl ?_
    refine V.icmp_ge (tgt := 82) (pc := 60) d_Mo_sheet_60 (by decide) (fun c_60 => ?_) (fun c_60 => ?_)
    · skip
      exfalso; omega
    · skip
      refine V.aload_n (pc := 63) 0 d_Mo_sheet_63 rfl rfl ?_
      refine V.getf (pc := 64) 2 cl_Mo fl_Mo_16_Mo d_Mo_sheet_64 (hM_o _) (Nat.le_of_ble_eq_true rfl) rfl ?_
      refine V.bipush (pc := 67) d_Mo_sheet_67 ⟨by decide, by decide⟩ ?_
      refine V.iload_n (pc := 69) 1 d_Mo_sheet_69 rfl rfl ?_
      refine V.imul (pc := 70) d_Mo_sheet_70 ⟨by omega, by omega⟩ ?_
      refine V.iload (pc := 71) d_Mo_sheet_71 rfl ?_
      refine V.iadd (pc := 73) d_Mo_sheet_73 ⟨by omega, by omega⟩ ?_
      refine V.iconst (pc := 74) d_Mo_sheet_74 ⟨by decide, by decide⟩ ?_
      refine V.iast (pc := 75) d_Mo_sheet_75 (ar_item _).1 (by omega) (by omega) ?_
      rw [(ar_item _).2]
      refine V.iinc (pc := 76) d_Mo_sheet_76 rfl ⟨by omega, by omega⟩ (Nat.le_of_ble_eq_true rfl) rfl ?_
      dsimp only [put]
      refine V.goto (tgt := 57) (pc := 79) d_Mo_sheet_79 (by decide) ?_
      rw [sset_tw]
      refine ih (p + 1) _ _ (by omega) (by omega) (fun q hq => ?_) (fun j hj => ?_)
      · rw [show (100 * sh + kk).toNat = 100 * sh.toNat + p by omega]
        by_cases e : q = p
        · rw [e, upf_e]
        · rw [upf_n (by omega)]; exact hg q (by omega)
      · rw [upf_n (by omega)]; exact hf j hj
set_option maxRecDepth 20000 in
theorem cs_Mo_sheet (S : SS) (σ : SM) (hI : RI S σ) (sh ln n : Int) (sz : Nat) : Ct M_Mo_sheet 2 0 0 [vR 8, vI sh, vI ln, vI n] (hM σ) sz (QS (sp_sheet S sh ln n) sz) := by
  refine Ct.of rfl (Nat.le_of_ble_eq_true rfl) ?_
  dsimp only [lsOf]
  refine V.iload_n (pc := 0) 1 d_Mo_sheet_0 rfl rfl ?_
  refine V.cS1 (pc := 1) (kc2 := 0) (ks2 := 0) ml_Mo_106 (ct_Mo_isSheet _ _ _) d_Mo_sheet_1 (Nat.le_of_ble_eq_true rfl) (Nat.le_of_ble_eq_true rfl) (Nat.le_of_ble_eq_true rfl) (Nat.le_of_ble_eq_true rfl) ?_
  rintro _ _ _ ⟨rfl, rfl, rfl⟩
  dsimp only [Option.toList, List.cons_append, List.nil_append]
  refine V.ifB_eq (tgt := 25) (pc := 4) d_Mo_sheet_4 (by decide) (fun c_4 => ?_) (fun c_4 => ?_)
  · skip
    refine V.ldc (pc := 25) (-1000001) ck_Mo_112 rfl ⟨by decide, by decide⟩ d_Mo_sheet_25 ?_
    refine V.ret (pc := 27) (r := some (vI _)) d_Mo_sheet_27 (Or.inl rfl) rfl ?_
    exact qs_of (by unfold sp_sheet; rw [if_neg (by omega)]) hI
  · skip
    refine V.iload_n (pc := 7) 2 d_Mo_sheet_7 rfl rfl ?_
    refine V.i2l (pc := 8) d_Mo_sheet_8 ?_
    refine V.lconst0 (pc := 9) d_Mo_sheet_9 ?_
    refine V.ldc2 (pc := 10) (2) ck_Mo_110 rfl ⟨by decide, by decide⟩ d_Mo_sheet_10 ?_
    refine V.cS3 (pc := 13) (kc2 := 0) (ks2 := 0) ml_Mo_102 (ct_Mo_in _ _ _ _ _) d_Mo_sheet_13 (Nat.le_of_ble_eq_true rfl) (Nat.le_of_ble_eq_true rfl) (Nat.le_of_ble_eq_true rfl) (Nat.le_of_ble_eq_true rfl) ?_
    rintro _ _ _ ⟨rfl, rfl, rfl⟩
    dsimp only [Option.toList, List.cons_append, List.nil_append]
    refine V.ifB_eq (tgt := 25) (pc := 16) d_Mo_sheet_16 (by decide) (fun c_16 => ?_) (fun c_16 => ?_)
    · skip
      refine V.ldc (pc := 25) (-1000001) ck_Mo_112 rfl ⟨by decide, by decide⟩ d_Mo_sheet_25 ?_
      refine V.ret (pc := 27) (r := some (vI _)) d_Mo_sheet_27 (Or.inl rfl) rfl ?_
      exact qs_of (by unfold sp_sheet; rw [if_neg (by omega)]) hI
    · skip
      refine V.iload_n (pc := 19) 3 d_Mo_sheet_19 rfl rfl ?_
      refine V.bipush (pc := 20) d_Mo_sheet_20 ⟨by decide, by decide⟩ ?_
      refine V.icmp_le (tgt := 28) (pc := 22) d_Mo_sheet_22 (by decide) (fun c_22 => ?_) (fun c_22 => ?_)
      · skip
        refine V.iload_n (pc := 28) 3 d_Mo_sheet_28 rfl rfl ?_
        refine V.if_ge (tgt := 38) (pc := 29) d_Mo_sheet_29 (by decide) (fun c_29 => ?_) (fun c_29 => ?_)
        · skip
          refine V.aload_n (pc := 38) 0 d_Mo_sheet_38 rfl rfl ?_
          refine V.getf (pc := 39) 0 cl_Mo fl_Mo_7_Mo d_Mo_sheet_39 (hM_o _) (Nat.le_of_ble_eq_true rfl) rfl ?_
          refine V.iload_n (pc := 42) 1 d_Mo_sheet_42 rfl rfl ?_
          refine V.iload_n (pc := 43) 2 d_Mo_sheet_43 rfl rfl ?_
          refine V.iconst (pc := 44) d_Mo_sheet_44 ⟨by decide, by decide⟩ ?_
          refine V.iadd (pc := 45) d_Mo_sheet_45 ⟨by omega, by omega⟩ ?_
          refine V.iast (pc := 46) d_Mo_sheet_46 (ar_lane _).1 (by omega) (by omega) ?_
          rw [(ar_lane _).2]
          refine V.aload_n (pc := 47) 0 d_Mo_sheet_47 rfl rfl ?_
          refine V.getf (pc := 48) 1 cl_Mo fl_Mo_13_Mo d_Mo_sheet_48 (hM_o _) (Nat.le_of_ble_eq_true rfl) rfl ?_
          refine V.iload_n (pc := 51) 1 d_Mo_sheet_51 rfl rfl ?_
          refine V.iload_n (pc := 52) 3 d_Mo_sheet_52 rfl rfl ?_
          refine V.iast (pc := 53) d_Mo_sheet_53 (ar_size _).1 (by omega) (by omega) ?_
          rw [(ar_size _).2]
          refine V.iconst (pc := 54) d_Mo_sheet_54 ⟨by decide, by decide⟩ ?_
          refine V.istore (pc := 55) d_Mo_sheet_55 (Nat.le_of_ble_eq_true rfl) rfl ?_
          dsimp only [put]
          have := fun s9 => lp_Mo_sheet S σ hI sh ln n (by omega) (by omega) (by omega) s9 n.toNat 0 0 (σ 2) (by omega) rfl (fun q hq => by omega) (fun j hj => rfl)
          rw [show σ 2 = (sset (sset σ 0 (upf (σ 0) sh.toNat (ln + 1))) 1 (upf (σ 1) sh.toNat n)) 2 from rfl, sset_id] at this
          exact this _
        · skip
          refine V.aload_n (pc := 32) 0 d_Mo_sheet_32 rfl rfl ?_
          refine V.iconst (pc := 33) d_Mo_sheet_33 ⟨by decide, by decide⟩ ?_
          refine V.cV1 (pc := 34) (kc2 := 0) (ks2 := 0) ml_Mo_113 (hM_o _) (ct_Mo_finds _ (by omega) _ _) d_Mo_sheet_34 (Nat.le_of_ble_eq_true rfl) (Nat.le_of_ble_eq_true rfl) (Nat.le_of_ble_eq_true rfl) (Nat.le_of_ble_eq_true rfl) ?_
          rintro _ _ _ ⟨rfl, rfl, rfl⟩
          dsimp only [Option.toList, List.cons_append, List.nil_append]
          first | rw [fi1] | rw [fi2] | rw [fi3] | rw [fi4] | rw [fi5]
          refine V.ret (pc := 37) (r := some (vI _)) d_Mo_sheet_37 (Or.inl rfl) rfl ?_
          exact qs_of (by unfold sp_sheet; rw [if_pos (by omega), if_pos (by omega)]) (hI.st 4)
      · skip
        refine V.ldc (pc := 25) (-1000001) ck_Mo_112 rfl ⟨by decide, by decide⟩ d_Mo_sheet_25 ?_
        refine V.ret (pc := 27) (r := some (vI _)) d_Mo_sheet_27 (Or.inl rfl) rfl ?_
        exact qs_of (by unfold sp_sheet; rw [if_neg (by omega)]) hI
set_option maxRecDepth 20000 in
theorem lp_Mo_copy2 (S : SS) (σ : SM) (hI : RI S σ) (a i b j n : Int) (ha : 0 ≤ a ∧ a ≤ 7) (hb : 0 ≤ b ∧ b ≤ 7) (l m : Int) (na nb : Nat) (f gg : Nat → Int) (hS : S.1 a.toNat = some (l, na, f)) (hS2 : S.1 b.toNat = some (m, nb, gg)) (hl : 0 ≤ m ∧ m ≤ 2) (hlm : l = m) (hn1 : na ≤ 100) (hn2 : nb ≤ 100) (hk2 : σ 0 b.toNat = m + 1) (hnb : σ 1 b.toNat = nb) (hi : 0 ≤ i ∧ 0 ≤ j ∧ 0 ≤ n ∧ i + n ≤ na ∧ j + n ≤ nb) (hit : ∀ i, i < na → σ 2 (100 * a.toNat + i) = f i) (hit2 : ∀ i, i < nb → σ 2 (100 * b.toNat + i) = gg i) (g : Nat → Int) (hg : ∀ q, q < n.toNat → g q = f (i.toNat + q)) (sz : Nat) : ∀ (c p : Nat) (kk : Int) (w : Nat → Int), (p : Int) + c = n → kk = p → (∀ q, q < p → w (100 * b.toNat + (j.toNat + q)) = f (i.toNat + q)) → (∀ x, (x < 100 * b.toNat + j.toNat ∨ 100 * b.toNat + j.toNat + n.toNat ≤ x) → w x = σ 2 x) →
    V M_Mo_copy 2 157 [some (vR 8), some (vI a), some (vI i), some (vI b), some (vI j), some (vI n), some (vI kk)] [] (hM (sset (sset σ 3 g) 2 w)) sz 0 0 (QS (sp_copy S a i b j n) sz) := by
  intro c
  induction c with
  | zero =>
    intro p kk w hc hkk hw hf
    refine V.iload (pc := 157) d_Mo_copy_157 rfl ?_
    refine V.iload (pc := 159) d_Mo_copy_159 rfl ?_
    refine V.icmp_ge (tgt := 192) (pc := 161) d_Mo_copy_161 (by decide) (fun c_161 => ?_) (fun c_161 => ?_)
    · skip
      refine V.aload_n (pc := 192) 0 d_Mo_copy_192 rfl rfl ?_
      refine V.iload (pc := 193) d_Mo_copy_193 rfl ?_
      refine V.cV1 (pc := 195) (kc2 := 0) (ks2 := 0) ml_Mo_117 (hM_o _) (ct_Mo_well _ _ _) d_Mo_copy_195 (Nat.le_of_ble_eq_true rfl) (Nat.le_of_ble_eq_true rfl) (Nat.le_of_ble_eq_true rfl) (Nat.le_of_ble_eq_true rfl) ?_
      rintro _ _ _ ⟨rfl, rfl, rfl⟩
      dsimp only [Option.toList, List.cons_append, List.nil_append]
      refine V.ret (pc := 198) (r := some (vI _)) d_Mo_copy_198 (Or.inl rfl) rfl ?_
      refine qs_of (S2 := sSh S b.toNat (some (m, nb, cpf f gg i.toNat j.toNat n.toNat))) (by unfold sp_copy; rw [if_pos (by omega)]; simp only [hS, hS2]; rw [if_pos hlm, if_pos hi]) (RI.sh hI (R_sh_upd hI.1 (fun x hx hne => ⟨rfl, fun _ _ => ⟨rfl, fun q hq => hf _ (by omega)⟩⟩) ⟨hl.1, hl.2, hn2, hk2, hnb, fun q hq => ?_⟩) rfl (fun j h4 h10 => by rw [sset_n h10, sset_n (by omega), sset_n (by omega)]))
      show w (100 * b.toNat + q) = _
      unfold cpf
      by_cases e : j.toNat ≤ q ∧ q < j.toNat + n.toNat
      · rw [if_pos e, show 100 * b.toNat + q = 100 * b.toNat + (j.toNat + (q - j.toNat)) by omega, hw _ (by omega)]
      · rw [if_neg e, hf _ (by omega)]; exact hit2 q hq
    · skip
      exfalso; omega
  | succ c ih =>
    intro p kk w hc hkk hw hf
    refine V.iload (pc := 157) d_Mo_copy_157 rfl ?_
    refine V.iload (pc := 159) d_Mo_copy_159 rfl ?_
    refine V.icmp_ge (tgt := 192) (pc := 161) d_Mo_copy_161 (by decide) (fun c_161 => ?_) (fun c_161 => ?_)
    · skip
      exfalso; omega
    · skip
      refine V.aload_n (pc := 164) 0 d_Mo_copy_164 rfl rfl ?_
      refine V.getf (pc := 165) 2 cl_Mo fl_Mo_16_Mo d_Mo_copy_165 (hM_o _) (Nat.le_of_ble_eq_true rfl) rfl ?_
      refine V.bipush (pc := 168) d_Mo_copy_168 ⟨by decide, by decide⟩ ?_
      refine V.iload_n (pc := 170) 3 d_Mo_copy_170 rfl rfl ?_
      refine V.imul (pc := 171) d_Mo_copy_171 ⟨by omega, by omega⟩ ?_
      refine V.iload (pc := 172) d_Mo_copy_172 rfl ?_
      refine V.iadd (pc := 174) d_Mo_copy_174 ⟨by omega, by omega⟩ ?_
      refine V.iload (pc := 175) d_Mo_copy_175 rfl ?_
      refine V.iadd (pc := 177) d_Mo_copy_177 ⟨by omega, by omega⟩ ?_
      refine V.aload_n (pc := 178) 0 d_Mo_copy_178 rfl rfl ?_
      refine V.getf (pc := 179) 3 cl_Mo fl_Mo_19_Mo d_Mo_copy_179 (hM_o _) (Nat.le_of_ble_eq_true rfl) rfl ?_
      refine V.iload (pc := 182) d_Mo_copy_182 rfl ?_
      refine V.iald (pc := 184) d_Mo_copy_184 (ar_moving _).1 (by omega) (by omega) ?_
      try simp (disch := omega) only [sset_n, sset_e]
      rw [show kk.toNat = p by omega, hg p (by omega)]
      refine V.iast (pc := 185) d_Mo_copy_185 (ar_item _).1 (by omega) (by omega) ?_
      rw [(ar_item _).2]
      refine V.iinc (pc := 186) d_Mo_copy_186 rfl ⟨by omega, by omega⟩ (Nat.le_of_ble_eq_true rfl) rfl ?_
      dsimp only [put]
      refine V.goto (tgt := 157) (pc := 189) d_Mo_copy_189 (by decide) ?_
      rw [sset_tw]
      refine ih (p + 1) _ _ (by omega) (by omega) (fun q hq => ?_) (fun x hx => ?_)
      · rw [show (100 * b + j + kk).toNat = 100 * b.toNat + (j.toNat + p) by omega]
        by_cases e : q = p
        · rw [e, upf_e]
        · rw [upf_n (by omega)]; exact hw q (by omega)
      · rw [upf_n (by omega)]; exact hf x hx
set_option maxRecDepth 20000 in
theorem lp_Mo_copy1 (S : SS) (σ : SM) (hI : RI S σ) (a i b j n : Int) (ha : 0 ≤ a ∧ a ≤ 7) (hb : 0 ≤ b ∧ b ≤ 7) (l m : Int) (na nb : Nat) (f gg : Nat → Int) (hS : S.1 a.toNat = some (l, na, f)) (hS2 : S.1 b.toNat = some (m, nb, gg)) (hl : 0 ≤ m ∧ m ≤ 2) (hlm : l = m) (hn1 : na ≤ 100) (hn2 : nb ≤ 100) (hk2 : σ 0 b.toNat = m + 1) (hnb : σ 1 b.toNat = nb) (hi : 0 ≤ i ∧ 0 ≤ j ∧ 0 ≤ n ∧ i + n ≤ na ∧ j + n ≤ nb) (hit : ∀ i, i < na → σ 2 (100 * a.toNat + i) = f i) (hit2 : ∀ i, i < nb → σ 2 (100 * b.toNat + i) = gg i) (sz : Nat) : ∀ (c p : Nat) (kk : Int) (g : Nat → Int), (p : Int) + c = n → kk = p → (∀ q, q < p → g q = f (i.toNat + q)) →
    V M_Mo_copy 2 120 [some (vR 8), some (vI a), some (vI i), some (vI b), some (vI j), some (vI n), some (vI kk)] [] (hM (sset σ 3 g)) sz 0 0 (QS (sp_copy S a i b j n) sz) := by
  intro c
  induction c with
  | zero =>
    intro p kk g hc hkk hg
    refine V.iload (pc := 120) d_Mo_copy_120 rfl ?_
    refine V.iload (pc := 122) d_Mo_copy_122 rfl ?_
    refine V.icmp_ge (tgt := 154) (pc := 124) d_Mo_copy_124 (by decide) (fun c_124 => ?_) (fun c_124 => ?_)
    · skip
      refine V.iconst (pc := 154) d_Mo_copy_154 ⟨by decide, by decide⟩ ?_
      refine V.istore (pc := 155) d_Mo_copy_155 (Nat.le_of_ble_eq_true rfl) rfl ?_
      dsimp only [put]
      have := lp_Mo_copy2 S σ hI a i b j n ha hb l m na nb f gg hS hS2 hl hlm hn1 hn2 hk2 hnb hi hit hit2 g (fun q hq => hg q (by omega)) sz n.toNat 0 0 (σ 2) (by omega) rfl (fun q hq => by omega) (fun x hx => rfl)
      rw [show σ 2 = (sset σ 3 g) 2 from rfl, sset_id] at this
      exact this
    · skip
      exfalso; omega
  | succ c ih =>
    intro p kk g hc hkk hg
    refine V.iload (pc := 120) d_Mo_copy_120 rfl ?_
    refine V.iload (pc := 122) d_Mo_copy_122 rfl ?_
    refine V.icmp_ge (tgt := 154) (pc := 124) d_Mo_copy_124 (by decide) (fun c_124 => ?_) (fun c_124 => ?_)
    · skip
      exfalso; omega
    · skip
      refine V.aload_n (pc := 127) 0 d_Mo_copy_127 rfl rfl ?_
      refine V.getf (pc := 128) 3 cl_Mo fl_Mo_19_Mo d_Mo_copy_128 (hM_o _) (Nat.le_of_ble_eq_true rfl) rfl ?_
      refine V.iload (pc := 131) d_Mo_copy_131 rfl ?_
      refine V.aload_n (pc := 133) 0 d_Mo_copy_133 rfl rfl ?_
      refine V.getf (pc := 134) 2 cl_Mo fl_Mo_16_Mo d_Mo_copy_134 (hM_o _) (Nat.le_of_ble_eq_true rfl) rfl ?_
      refine V.bipush (pc := 137) d_Mo_copy_137 ⟨by decide, by decide⟩ ?_
      refine V.iload_n (pc := 139) 1 d_Mo_copy_139 rfl rfl ?_
      refine V.imul (pc := 140) d_Mo_copy_140 ⟨by omega, by omega⟩ ?_
      refine V.iload_n (pc := 141) 2 d_Mo_copy_141 rfl rfl ?_
      refine V.iadd (pc := 142) d_Mo_copy_142 ⟨by omega, by omega⟩ ?_
      refine V.iload (pc := 143) d_Mo_copy_143 rfl ?_
      refine V.iadd (pc := 145) d_Mo_copy_145 ⟨by omega, by omega⟩ ?_
      refine V.iald (pc := 146) d_Mo_copy_146 (ar_item _).1 (by omega) (by omega) ?_
      try simp (disch := omega) only [sset_n, sset_e]
      rw [show (100 * a + i + kk).toNat = 100 * a.toNat + (i.toNat + p) by omega, hit _ (by omega)]
      refine V.iast (pc := 147) d_Mo_copy_147 (ar_moving _).1 (by omega) (by omega) ?_
      rw [(ar_moving _).2]
      refine V.iinc (pc := 148) d_Mo_copy_148 rfl ⟨by omega, by omega⟩ (Nat.le_of_ble_eq_true rfl) rfl ?_
      dsimp only [put]
      refine V.goto (tgt := 120) (pc := 151) d_Mo_copy_151 (by decide) ?_
      rw [sset_tw]
      refine ih (p + 1) _ _ (by omega) (by omega) (fun q hq => ?_)
      rw [show kk.toNat = p by omega]
      by_cases e : q = p
      · rw [e, upf_e]
      · rw [upf_n (by omega)]; exact hg q (by omega)
set_option maxRecDepth 20000 in
theorem cs_Mo_copy (S : SS) (σ : SM) (hI : RI S σ) (a i b j n : Int) (sz : Nat) : Ct M_Mo_copy 2 0 0 [vR 8, vI a, vI i, vI b, vI j, vI n] (hM σ) sz (QS (sp_copy S a i b j n) sz) := by
  refine Ct.of rfl (Nat.le_of_ble_eq_true rfl) ?_
  dsimp only [lsOf]
  refine V.iload_n (pc := 0) 1 d_Mo_copy_0 rfl rfl ?_
  refine V.cS1 (pc := 1) (kc2 := 0) (ks2 := 0) ml_Mo_106 (ct_Mo_isSheet _ _ _) d_Mo_copy_1 (Nat.le_of_ble_eq_true rfl) (Nat.le_of_ble_eq_true rfl) (Nat.le_of_ble_eq_true rfl) (Nat.le_of_ble_eq_true rfl) ?_
  rintro _ _ _ ⟨rfl, rfl, rfl⟩
  dsimp only [Option.toList, List.cons_append, List.nil_append]
  refine V.ifB_eq (tgt := 14) (pc := 4) d_Mo_copy_4 (by decide) (fun c_4 => ?_) (fun c_4 => ?_)
  · skip
    refine V.ldc (pc := 14) (-1000001) ck_Mo_112 rfl ⟨by decide, by decide⟩ d_Mo_copy_14 ?_
    refine V.ret (pc := 16) (r := some (vI _)) d_Mo_copy_16 (Or.inl rfl) rfl ?_
    exact qs_of (by unfold sp_copy; rw [if_neg (by omega)]) hI
  · skip
    refine V.iload_n (pc := 7) 3 d_Mo_copy_7 rfl rfl ?_
    refine V.cS1 (pc := 8) (kc2 := 0) (ks2 := 0) ml_Mo_106 (ct_Mo_isSheet _ _ _) d_Mo_copy_8 (Nat.le_of_ble_eq_true rfl) (Nat.le_of_ble_eq_true rfl) (Nat.le_of_ble_eq_true rfl) (Nat.le_of_ble_eq_true rfl) ?_
    rintro _ _ _ ⟨rfl, rfl, rfl⟩
    dsimp only [Option.toList, List.cons_append, List.nil_append]
    refine V.ifB_ne (tgt := 17) (pc := 11) d_Mo_copy_11 (by decide) (fun c_11 => ?_) (fun c_11 => ?_)
    · skip
      rcases sh_cases hI.1 (show a.toNat < 8 by omega) with ⟨hS, hk⟩ | ⟨l, na, f, hS, hl1, hl2, hn1, hk, hn, hit⟩ <;> rcases sh_cases hI.1 (show b.toNat < 8 by omega) with ⟨hS2, hk2⟩ | ⟨m, nb, gg, hS2, hm1, hm2, hn2, hk2, hnb, hit2⟩
      · skip
        refine V.aload_n (pc := 17) 0 d_Mo_copy_17 rfl rfl ?_
        refine V.getf (pc := 18) 0 cl_Mo fl_Mo_7_Mo d_Mo_copy_18 (hM_o _) (Nat.le_of_ble_eq_true rfl) rfl ?_
        refine V.iload_n (pc := 21) 1 d_Mo_copy_21 rfl rfl ?_
        refine V.iald (pc := 22) d_Mo_copy_22 (ar_lane _).1 (by omega) (by omega) ?_
        try simp (disch := omega) only [sset_n, sset_e]
        refine V.if_eq (tgt := 35) (pc := 23) d_Mo_copy_23 (by decide) (fun c_23 => ?_) (fun c_23 => ?_)
        · skip
          refine V.aload_n (pc := 35) 0 d_Mo_copy_35 rfl rfl ?_
          refine V.iconst (pc := 36) d_Mo_copy_36 ⟨by decide, by decide⟩ ?_
          refine V.cV1 (pc := 37) (kc2 := 0) (ks2 := 0) ml_Mo_113 (hM_o _) (ct_Mo_finds _ (by omega) _ _) d_Mo_copy_37 (Nat.le_of_ble_eq_true rfl) (Nat.le_of_ble_eq_true rfl) (Nat.le_of_ble_eq_true rfl) (Nat.le_of_ble_eq_true rfl) ?_
          rintro _ _ _ ⟨rfl, rfl, rfl⟩
          dsimp only [Option.toList, List.cons_append, List.nil_append]
          first | rw [fi1] | rw [fi2] | rw [fi3] | rw [fi4] | rw [fi5]
          refine V.ret (pc := 40) (r := some (vI _)) d_Mo_copy_40 (Or.inl rfl) rfl ?_
          refine qs_of (S2 := sSt S 1) ?_ (hI.st 1)
          unfold sp_copy; rw [if_pos (by omega)]; simp only [hS, hS2]
        · skip
          exfalso; omega
      · skip
        refine V.aload_n (pc := 17) 0 d_Mo_copy_17 rfl rfl ?_
        refine V.getf (pc := 18) 0 cl_Mo fl_Mo_7_Mo d_Mo_copy_18 (hM_o _) (Nat.le_of_ble_eq_true rfl) rfl ?_
        refine V.iload_n (pc := 21) 1 d_Mo_copy_21 rfl rfl ?_
        refine V.iald (pc := 22) d_Mo_copy_22 (ar_lane _).1 (by omega) (by omega) ?_
        try simp (disch := omega) only [sset_n, sset_e]
        refine V.if_eq (tgt := 35) (pc := 23) d_Mo_copy_23 (by decide) (fun c_23 => ?_) (fun c_23 => ?_)
        · skip
          refine V.aload_n (pc := 35) 0 d_Mo_copy_35 rfl rfl ?_
          refine V.iconst (pc := 36) d_Mo_copy_36 ⟨by decide, by decide⟩ ?_
          refine V.cV1 (pc := 37) (kc2 := 0) (ks2 := 0) ml_Mo_113 (hM_o _) (ct_Mo_finds _ (by omega) _ _) d_Mo_copy_37 (Nat.le_of_ble_eq_true rfl) (Nat.le_of_ble_eq_true rfl) (Nat.le_of_ble_eq_true rfl) (Nat.le_of_ble_eq_true rfl) ?_
          rintro _ _ _ ⟨rfl, rfl, rfl⟩
          dsimp only [Option.toList, List.cons_append, List.nil_append]
          first | rw [fi1] | rw [fi2] | rw [fi3] | rw [fi4] | rw [fi5]
          refine V.ret (pc := 40) (r := some (vI _)) d_Mo_copy_40 (Or.inl rfl) rfl ?_
          refine qs_of (S2 := sSt S 1) ?_ (hI.st 1)
          unfold sp_copy; rw [if_pos (by omega)]; simp only [hS, hS2]
        · skip
          exfalso; omega
      · skip
        refine V.aload_n (pc := 17) 0 d_Mo_copy_17 rfl rfl ?_
        refine V.getf (pc := 18) 0 cl_Mo fl_Mo_7_Mo d_Mo_copy_18 (hM_o _) (Nat.le_of_ble_eq_true rfl) rfl ?_
        refine V.iload_n (pc := 21) 1 d_Mo_copy_21 rfl rfl ?_
        refine V.iald (pc := 22) d_Mo_copy_22 (ar_lane _).1 (by omega) (by omega) ?_
        try simp (disch := omega) only [sset_n, sset_e]
        refine V.if_eq (tgt := 35) (pc := 23) d_Mo_copy_23 (by decide) (fun c_23 => ?_) (fun c_23 => ?_)
        · skip
          exfalso; omega
        · skip
          refine V.aload_n (pc := 26) 0 d_Mo_copy_26 rfl rfl ?_
          refine V.getf (pc := 27) 0 cl_Mo fl_Mo_7_Mo d_Mo_copy_27 (hM_o _) (Nat.le_of_ble_eq_true rfl) rfl ?_
          refine V.iload_n (pc := 30) 3 d_Mo_copy_30 rfl rfl ?_
          refine V.iald (pc := 31) d_Mo_copy_31 (ar_lane _).1 (by omega) (by omega) ?_
          try simp (disch := omega) only [sset_n, sset_e]
          refine V.if_ne (tgt := 41) (pc := 32) d_Mo_copy_32 (by decide) (fun c_32 => ?_) (fun c_32 => ?_)
          · skip
            exfalso; omega
          · skip
            refine V.aload_n (pc := 35) 0 d_Mo_copy_35 rfl rfl ?_
            refine V.iconst (pc := 36) d_Mo_copy_36 ⟨by decide, by decide⟩ ?_
            refine V.cV1 (pc := 37) (kc2 := 0) (ks2 := 0) ml_Mo_113 (hM_o _) (ct_Mo_finds _ (by omega) _ _) d_Mo_copy_37 (Nat.le_of_ble_eq_true rfl) (Nat.le_of_ble_eq_true rfl) (Nat.le_of_ble_eq_true rfl) (Nat.le_of_ble_eq_true rfl) ?_
            rintro _ _ _ ⟨rfl, rfl, rfl⟩
            dsimp only [Option.toList, List.cons_append, List.nil_append]
            first | rw [fi1] | rw [fi2] | rw [fi3] | rw [fi4] | rw [fi5]
            refine V.ret (pc := 40) (r := some (vI _)) d_Mo_copy_40 (Or.inl rfl) rfl ?_
            refine qs_of (S2 := sSt S 1) ?_ (hI.st 1)
            unfold sp_copy; rw [if_pos (by omega)]; simp only [hS, hS2]
      · skip
        refine V.aload_n (pc := 17) 0 d_Mo_copy_17 rfl rfl ?_
        refine V.getf (pc := 18) 0 cl_Mo fl_Mo_7_Mo d_Mo_copy_18 (hM_o _) (Nat.le_of_ble_eq_true rfl) rfl ?_
        refine V.iload_n (pc := 21) 1 d_Mo_copy_21 rfl rfl ?_
        refine V.iald (pc := 22) d_Mo_copy_22 (ar_lane _).1 (by omega) (by omega) ?_
        try simp (disch := omega) only [sset_n, sset_e]
        refine V.if_eq (tgt := 35) (pc := 23) d_Mo_copy_23 (by decide) (fun c_23 => ?_) (fun c_23 => ?_)
        · skip
          exfalso; omega
        · skip
          refine V.aload_n (pc := 26) 0 d_Mo_copy_26 rfl rfl ?_
          refine V.getf (pc := 27) 0 cl_Mo fl_Mo_7_Mo d_Mo_copy_27 (hM_o _) (Nat.le_of_ble_eq_true rfl) rfl ?_
          refine V.iload_n (pc := 30) 3 d_Mo_copy_30 rfl rfl ?_
          refine V.iald (pc := 31) d_Mo_copy_31 (ar_lane _).1 (by omega) (by omega) ?_
          try simp (disch := omega) only [sset_n, sset_e]
          refine V.if_ne (tgt := 41) (pc := 32) d_Mo_copy_32 (by decide) (fun c_32 => ?_) (fun c_32 => ?_)
          · skip
            refine V.aload_n (pc := 41) 0 d_Mo_copy_41 rfl rfl ?_
            refine V.getf (pc := 42) 0 cl_Mo fl_Mo_7_Mo d_Mo_copy_42 (hM_o _) (Nat.le_of_ble_eq_true rfl) rfl ?_
            refine V.iload_n (pc := 45) 1 d_Mo_copy_45 rfl rfl ?_
            refine V.iald (pc := 46) d_Mo_copy_46 (ar_lane _).1 (by omega) (by omega) ?_
            try simp (disch := omega) only [sset_n, sset_e]
            refine V.aload_n (pc := 47) 0 d_Mo_copy_47 rfl rfl ?_
            refine V.getf (pc := 48) 0 cl_Mo fl_Mo_7_Mo d_Mo_copy_48 (hM_o _) (Nat.le_of_ble_eq_true rfl) rfl ?_
            refine V.iload_n (pc := 51) 3 d_Mo_copy_51 rfl rfl ?_
            refine V.iald (pc := 52) d_Mo_copy_52 (ar_lane _).1 (by omega) (by omega) ?_
            try simp (disch := omega) only [sset_n, sset_e]
            refine V.icmp_eq (tgt := 62) (pc := 53) d_Mo_copy_53 (by decide) (fun c_53 => ?_) (fun c_53 => ?_)
            · skip
              refine V.iload_n (pc := 62) 2 d_Mo_copy_62 rfl rfl ?_
              refine V.if_lt (tgt := 111) (pc := 63) d_Mo_copy_63 (by decide) (fun c_63 => ?_) (fun c_63 => ?_)
              · skip
                refine V.aload_n (pc := 111) 0 d_Mo_copy_111 rfl rfl ?_
                refine V.iconst (pc := 112) d_Mo_copy_112 ⟨by decide, by decide⟩ ?_
                refine V.cV1 (pc := 113) (kc2 := 0) (ks2 := 0) ml_Mo_113 (hM_o _) (ct_Mo_finds _ (by omega) _ _) d_Mo_copy_113 (Nat.le_of_ble_eq_true rfl) (Nat.le_of_ble_eq_true rfl) (Nat.le_of_ble_eq_true rfl) (Nat.le_of_ble_eq_true rfl) ?_
                rintro _ _ _ ⟨rfl, rfl, rfl⟩
                dsimp only [Option.toList, List.cons_append, List.nil_append]
                first | rw [fi1] | rw [fi2] | rw [fi3] | rw [fi4] | rw [fi5]
                refine V.ret (pc := 116) (r := some (vI _)) d_Mo_copy_116 (Or.inl rfl) rfl ?_
                (try simp only [lc_le, lc_gt] at *)
                refine qs_of (S2 := sSt S 2) ?_ (hI.st 2)
                unfold sp_copy; rw [if_pos (by omega)]; simp only [hS, hS2]; rw [if_pos (by omega), if_neg (by omega)]
              · skip
                refine V.iload (pc := 66) d_Mo_copy_66 rfl ?_
                refine V.if_lt (tgt := 111) (pc := 68) d_Mo_copy_68 (by decide) (fun c_68 => ?_) (fun c_68 => ?_)
                · skip
                  refine V.aload_n (pc := 111) 0 d_Mo_copy_111 rfl rfl ?_
                  refine V.iconst (pc := 112) d_Mo_copy_112 ⟨by decide, by decide⟩ ?_
                  refine V.cV1 (pc := 113) (kc2 := 0) (ks2 := 0) ml_Mo_113 (hM_o _) (ct_Mo_finds _ (by omega) _ _) d_Mo_copy_113 (Nat.le_of_ble_eq_true rfl) (Nat.le_of_ble_eq_true rfl) (Nat.le_of_ble_eq_true rfl) (Nat.le_of_ble_eq_true rfl) ?_
                  rintro _ _ _ ⟨rfl, rfl, rfl⟩
                  dsimp only [Option.toList, List.cons_append, List.nil_append]
                  first | rw [fi1] | rw [fi2] | rw [fi3] | rw [fi4] | rw [fi5]
                  refine V.ret (pc := 116) (r := some (vI _)) d_Mo_copy_116 (Or.inl rfl) rfl ?_
                  (try simp only [lc_le, lc_gt] at *)
                  refine qs_of (S2 := sSt S 2) ?_ (hI.st 2)
                  unfold sp_copy; rw [if_pos (by omega)]; simp only [hS, hS2]; rw [if_pos (by omega), if_neg (by omega)]
                · skip
                  refine V.iload (pc := 71) d_Mo_copy_71 rfl ?_
                  refine V.if_lt (tgt := 111) (pc := 73) d_Mo_copy_73 (by decide) (fun c_73 => ?_) (fun c_73 => ?_)
                  · skip
                    refine V.aload_n (pc := 111) 0 d_Mo_copy_111 rfl rfl ?_
                    refine V.iconst (pc := 112) d_Mo_copy_112 ⟨by decide, by decide⟩ ?_
                    refine V.cV1 (pc := 113) (kc2 := 0) (ks2 := 0) ml_Mo_113 (hM_o _) (ct_Mo_finds _ (by omega) _ _) d_Mo_copy_113 (Nat.le_of_ble_eq_true rfl) (Nat.le_of_ble_eq_true rfl) (Nat.le_of_ble_eq_true rfl) (Nat.le_of_ble_eq_true rfl) ?_
                    rintro _ _ _ ⟨rfl, rfl, rfl⟩
                    dsimp only [Option.toList, List.cons_append, List.nil_append]
                    first | rw [fi1] | rw [fi2] | rw [fi3] | rw [fi4] | rw [fi5]
                    refine V.ret (pc := 116) (r := some (vI _)) d_Mo_copy_116 (Or.inl rfl) rfl ?_
                    (try simp only [lc_le, lc_gt] at *)
                    refine qs_of (S2 := sSt S 2) ?_ (hI.st 2)
                    unfold sp_copy; rw [if_pos (by omega)]; simp only [hS, hS2]; rw [if_pos (by omega), if_neg (by omega)]
                  · skip
                    refine V.lrng 2 rfl (fun hri => ?_)
                    refine V.lrng 5 rfl (fun hrn => ?_)
                    obtain ⟨hri1, hri2⟩ := hri
                    obtain ⟨hrn1, hrn2⟩ := hrn
                    refine V.iload_n (pc := 76) 2 d_Mo_copy_76 rfl rfl ?_
                    refine V.i2l (pc := 77) d_Mo_copy_77 ?_
                    refine V.iload (pc := 78) d_Mo_copy_78 rfl ?_
                    refine V.i2l (pc := 80) d_Mo_copy_80 ?_
                    refine V.ladd (pc := 81) d_Mo_copy_81 ⟨by omega, by omega⟩ ?_
                    refine V.aload_n (pc := 82) 0 d_Mo_copy_82 rfl rfl ?_
                    refine V.getf (pc := 83) 1 cl_Mo fl_Mo_13_Mo d_Mo_copy_83 (hM_o _) (Nat.le_of_ble_eq_true rfl) rfl ?_
                    refine V.iload_n (pc := 86) 1 d_Mo_copy_86 rfl rfl ?_
                    refine V.iald (pc := 87) d_Mo_copy_87 (ar_size _).1 (by omega) (by omega) ?_
                    try simp (disch := omega) only [sset_n, sset_e]
                    rw [hn]
                    refine V.i2l (pc := 88) d_Mo_copy_88 ?_
                    refine V.lcmp (pc := 89) d_Mo_copy_89 ?_
                    refine V.if_gt (tgt := 111) (pc := 90) d_Mo_copy_90 (by decide) (fun c_90 => ?_) (fun c_90 => ?_)
                    · skip
                      refine V.aload_n (pc := 111) 0 d_Mo_copy_111 rfl rfl ?_
                      refine V.iconst (pc := 112) d_Mo_copy_112 ⟨by decide, by decide⟩ ?_
                      refine V.cV1 (pc := 113) (kc2 := 0) (ks2 := 0) ml_Mo_113 (hM_o _) (ct_Mo_finds _ (by omega) _ _) d_Mo_copy_113 (Nat.le_of_ble_eq_true rfl) (Nat.le_of_ble_eq_true rfl) (Nat.le_of_ble_eq_true rfl) (Nat.le_of_ble_eq_true rfl) ?_
                      rintro _ _ _ ⟨rfl, rfl, rfl⟩
                      dsimp only [Option.toList, List.cons_append, List.nil_append]
                      first | rw [fi1] | rw [fi2] | rw [fi3] | rw [fi4] | rw [fi5]
                      refine V.ret (pc := 116) (r := some (vI _)) d_Mo_copy_116 (Or.inl rfl) rfl ?_
                      (try simp only [lc_le, lc_gt] at *)
                      refine qs_of (S2 := sSt S 2) ?_ (hI.st 2)
                      unfold sp_copy; rw [if_pos (by omega)]; simp only [hS, hS2]; rw [if_pos (by omega), if_neg (by omega)]
                    · skip
                      refine V.lrng 4 rfl (fun hrj => ?_)
                      obtain ⟨hrj1, hrj2⟩ := hrj
                      refine V.iload (pc := 93) d_Mo_copy_93 rfl ?_
                      refine V.i2l (pc := 95) d_Mo_copy_95 ?_
                      refine V.iload (pc := 96) d_Mo_copy_96 rfl ?_
                      refine V.i2l (pc := 98) d_Mo_copy_98 ?_
                      refine V.ladd (pc := 99) d_Mo_copy_99 ⟨by omega, by omega⟩ ?_
                      refine V.aload_n (pc := 100) 0 d_Mo_copy_100 rfl rfl ?_
                      refine V.getf (pc := 101) 1 cl_Mo fl_Mo_13_Mo d_Mo_copy_101 (hM_o _) (Nat.le_of_ble_eq_true rfl) rfl ?_
                      refine V.iload_n (pc := 104) 3 d_Mo_copy_104 rfl rfl ?_
                      refine V.iald (pc := 105) d_Mo_copy_105 (ar_size _).1 (by omega) (by omega) ?_
                      try simp (disch := omega) only [sset_n, sset_e]
                      rw [hnb]
                      refine V.i2l (pc := 106) d_Mo_copy_106 ?_
                      refine V.lcmp (pc := 107) d_Mo_copy_107 ?_
                      refine V.if_le (tgt := 117) (pc := 108) d_Mo_copy_108 (by decide) (fun c_108 => ?_) (fun c_108 => ?_)
                      · skip
                        refine V.iconst (pc := 117) d_Mo_copy_117 ⟨by decide, by decide⟩ ?_
                        refine V.istore (pc := 118) d_Mo_copy_118 (Nat.le_of_ble_eq_true rfl) rfl ?_
                        dsimp only [put]
                        simp only [lc_le, lc_gt] at c_90 c_108
                        have := fun s9 => lp_Mo_copy1 S σ hI a i b j n (by omega) (by omega) l m na nb f gg hS hS2 (by omega) (by omega) hn1 hn2 hk2 hnb (by omega) hit hit2 s9 n.toNat 0 0 (σ 3) (by omega) rfl (fun q hq => by omega)
                        rw [sset_id] at this
                        exact this _
                      · skip
                        refine V.aload_n (pc := 111) 0 d_Mo_copy_111 rfl rfl ?_
                        refine V.iconst (pc := 112) d_Mo_copy_112 ⟨by decide, by decide⟩ ?_
                        refine V.cV1 (pc := 113) (kc2 := 0) (ks2 := 0) ml_Mo_113 (hM_o _) (ct_Mo_finds _ (by omega) _ _) d_Mo_copy_113 (Nat.le_of_ble_eq_true rfl) (Nat.le_of_ble_eq_true rfl) (Nat.le_of_ble_eq_true rfl) (Nat.le_of_ble_eq_true rfl) ?_
                        rintro _ _ _ ⟨rfl, rfl, rfl⟩
                        dsimp only [Option.toList, List.cons_append, List.nil_append]
                        first | rw [fi1] | rw [fi2] | rw [fi3] | rw [fi4] | rw [fi5]
                        refine V.ret (pc := 116) (r := some (vI _)) d_Mo_copy_116 (Or.inl rfl) rfl ?_
                        (try simp only [lc_le, lc_gt] at *)
                        refine qs_of (S2 := sSt S 2) ?_ (hI.st 2)
                        unfold sp_copy; rw [if_pos (by omega)]; simp only [hS, hS2]; rw [if_pos (by omega), if_neg (by omega)]
            · skip
              refine V.aload_n (pc := 56) 0 d_Mo_copy_56 rfl rfl ?_
              refine V.iconst (pc := 57) d_Mo_copy_57 ⟨by decide, by decide⟩ ?_
              refine V.cV1 (pc := 58) (kc2 := 0) (ks2 := 0) ml_Mo_113 (hM_o _) (ct_Mo_finds _ (by omega) _ _) d_Mo_copy_58 (Nat.le_of_ble_eq_true rfl) (Nat.le_of_ble_eq_true rfl) (Nat.le_of_ble_eq_true rfl) (Nat.le_of_ble_eq_true rfl) ?_
              rintro _ _ _ ⟨rfl, rfl, rfl⟩
              dsimp only [Option.toList, List.cons_append, List.nil_append]
              first | rw [fi1] | rw [fi2] | rw [fi3] | rw [fi4] | rw [fi5]
              refine V.ret (pc := 61) (r := some (vI _)) d_Mo_copy_61 (Or.inl rfl) rfl ?_
              refine qs_of (S2 := sSt S 5) ?_ (hI.st 5)
              unfold sp_copy; rw [if_pos (by omega)]; simp only [hS, hS2]; rw [if_neg (by omega)]
          · skip
            exfalso; omega
    · skip
      refine V.ldc (pc := 14) (-1000001) ck_Mo_112 rfl ⟨by decide, by decide⟩ d_Mo_copy_14 ?_
      refine V.ret (pc := 16) (r := some (vI _)) d_Mo_copy_16 (Or.inl rfl) rfl ?_
      exact qs_of (by unfold sp_copy; rw [if_neg (by omega)]) hI
