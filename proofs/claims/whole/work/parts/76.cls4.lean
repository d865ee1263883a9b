/-! THE CLASS: endings, ranks, mirrors, printed by wip/whole/gen/cls4.py -/
theorem En_diag : ∀ m : Nat, En m m = 1
  | 0 => rfl
  | m + 1 => by
    show En m (m + 1 + 1) + (if 0 < m + 1 then En m (m + 1 - 1) else 0) = 1
    rw [En_far m (m + 1 + 1) (by omega), if_pos (by omega), Nat.add_sub_cancel, En_diag m]; rfl
/-- in how many ways arches end, by the + and the - to come -/
def enT (e : Nat → Int) : Prop := ∀ p m : Nat, p ≤ m → m ≤ 12 → e (13 * p + m) = En (p + m) (m - p)
theorem En_pm {p m : Nat} (h1 : 1 ≤ p) (h2 : p ≤ m) : En (p + m) (m - p) = En (p - 1 + m) (m - (p - 1)) + (if p < m then En (p + (m - 1)) (m - 1 - p) else 0) := by
  obtain ⟨l, hl⟩ : ∃ l, p + m = l + 1 := ⟨p + m - 1, by omega⟩
  rw [hl]
  show En l (m - p + 1) + (if 0 < m - p then En l (m - p - 1) else 0) = _
  rw [show p - 1 + m = l by omega, show m - (p - 1) = m - p + 1 by omega]
  by_cases e : p < m
  · rw [if_pos e, if_pos (by omega), show p + (m - 1) = l by omega, show m - 1 - p = m - p - 1 by omega]
  · rw [if_neg e, if_neg (by omega)]
theorem ht_lip (a : Nat → Int) (p : Nat) : ∀ k : Nat, ht a p ≤ ht a (p + k) + k
  | 0 => by rw [Nat.add_zero]; omega
  | k + 1 => by
    have ih := ht_lip a p k
    have e : ht a (p + (k + 1)) = ht a (p + k) + (if 0 < a (p + k) then 1 else -1) := rfl
    rw [e]; split <;> omega
theorem ht_top {a : Nat → Int} {n : Nat} (ha : arch a n) {p : Nat} (hp : p ≤ 2 * n) : ht a p ≤ 2 * n - p := by
  have := ht_lip a p (2 * n - p)
  rw [show p + (2 * n - p) = 2 * n by omega, (arch_iff.mp ha).2] at this
  omega
set_option maxRecDepth 20000 in
theorem lq_RR_countE1 (h : MH) (sz m : Nat) (hm12 : m ≤ 12) (mm : Int) (hmm : mm = m) (Q : QT) (K : ∀ (e : Nat → Int) (x y : Option MV), (∀ p2 m2 : Nat, p2 ≤ m2 → m2 < m + 1 → e (13 * p2 + m2) = En (p2 + m2) (m2 - p2)) → V M_RR_countEndings 1 8 [some (vR sz), some (vI (mm + 1)), x, y] [] (hset h sz (kA 0 169 e)) (sz + 1) 0 0 Q) : ∀ (c p : Nat) (pp : Int) (x : Option MV) (e : Nat → Int), p + c = m + 1 → 1 ≤ p → pp = p → (∀ p2 m2 : Nat, p2 ≤ m2 → m2 < m → e (13 * p2 + m2) = En (p2 + m2) (m2 - p2)) → (∀ p2 : Nat, p2 < p → e (13 * p2 + m) = En (p2 + m) (m - p2)) →
    V M_RR_countEndings 1 24 [some (vR sz), some (vI mm), some (vI pp), x] [] (hset h sz (kA 0 169 e)) (sz + 1) 0 0 Q := by
  intro c
  induction c with
  | zero =>
    intro p pp x e hc h1 hpp hm hp2
    refine V.iload_n (pc := 24) 2 d_RR_countEndings_24 rfl rfl ?_
    refine V.iload_n (pc := 25) 1 d_RR_countEndings_25 rfl rfl ?_
    refine V.icmp_gt (tgt := 72) (pc := 26) d_RR_countEndings_26 (by decide) (fun c_26 => ?_) (fun c_26 => ?_)
    · skip
      refine V.iinc (pc := 72) d_RR_countEndings_72 rfl ⟨by omega, by omega⟩ (Nat.le_of_ble_eq_true rfl) rfl ?_
      dsimp only [put]
      refine V.goto (tgt := 8) (pc := 75) d_RR_countEndings_75 (by decide) ?_
      refine K e _ _ (fun p2 m2 h1 h2 => ?_)
      by_cases e9 : m2 = m
      · rw [e9]; exact hp2 p2 (by omega)
      · exact hm p2 m2 h1 (by omega)
    · skip
      exfalso; omega
  | succ c ih =>
    intro p pp x e hc h1 hpp hm hp2
    refine V.iload_n (pc := 24) 2 d_RR_countEndings_24 rfl rfl ?_
    refine V.iload_n (pc := 25) 1 d_RR_countEndings_25 rfl rfl ?_
    refine V.icmp_gt (tgt := 72) (pc := 26) d_RR_countEndings_26 (by decide) (fun c_26 => ?_) (fun c_26 => ?_)
    · skip
      exfalso; omega
    · skip
      refine V.iload_n (pc := 29) 2 d_RR_countEndings_29 rfl rfl ?_
      refine V.iload_n (pc := 30) 1 d_RR_countEndings_30 rfl rfl ?_
      refine V.icmp_ge (tgt := 46) (pc := 31) d_RR_countEndings_31 (by decide) (fun c_31 => ?_) (fun c_31 => ?_)
      · skip
        refine V.iconst (pc := 46) d_RR_countEndings_46 ⟨by decide, by decide⟩ ?_
        refine V.istore_n (pc := 47) 3 d_RR_countEndings_47 rfl (Nat.le_of_ble_eq_true rfl) rfl ?_
        dsimp only [put]
        refine V.aload_n (pc := 48) 0 d_RR_countEndings_48 rfl rfl ?_
        refine V.iload_n (pc := 49) 2 d_RR_countEndings_49 rfl rfl ?_
        refine V.iload_n (pc := 50) 1 d_RR_countEndings_50 rfl rfl ?_
        refine V.cS2 (pc := 51) (kc2 := 0) (ks2 := 0) ml_RR_257 (cc_RR_endingsAt _ _ (by omega) _ _) d_RR_countEndings_51 (Nat.le_of_ble_eq_true rfl) (Nat.le_of_ble_eq_true rfl) (Nat.le_of_ble_eq_true rfl) (Nat.le_of_ble_eq_true rfl) ?_
        rintro _ _ _ ⟨rfl, rfl, rfl⟩
        dsimp only [Option.toList, List.cons_append, List.nil_append]
        refine V.aload_n (pc := 54) 0 d_RR_countEndings_54 rfl rfl ?_
        refine V.iload_n (pc := 55) 2 d_RR_countEndings_55 rfl rfl ?_
        refine V.iconst (pc := 56) d_RR_countEndings_56 ⟨by decide, by decide⟩ ?_
        refine V.isub (pc := 57) d_RR_countEndings_57 ⟨by omega, by omega⟩ ?_
        refine V.iload_n (pc := 58) 1 d_RR_countEndings_58 rfl rfl ?_
        refine V.cS2 (pc := 59) (kc2 := 0) (ks2 := 0) ml_RR_257 (cc_RR_endingsAt _ _ (by omega) _ _) d_RR_countEndings_59 (Nat.le_of_ble_eq_true rfl) (Nat.le_of_ble_eq_true rfl) (Nat.le_of_ble_eq_true rfl) (Nat.le_of_ble_eq_true rfl) ?_
        rintro _ _ _ ⟨rfl, rfl, rfl⟩
        dsimp only [Option.toList, List.cons_append, List.nil_append]
        refine V.iald (pc := 62) d_RR_countEndings_62 hset_s (by omega) (by omega) ?_
        rw [show ((pp - 1) * 13 + mm).toNat = 13 * (p - 1) + m by omega, hp2 (p - 1) (by omega)]
        have hb1 := En_24 (show p - 1 + m ≤ 24 by omega) (m - (p - 1))
        refine V.iload_n (pc := 63) 3 d_RR_countEndings_63 rfl rfl ?_
        refine V.iadd (pc := 64) d_RR_countEndings_64 ⟨by omega, by omega⟩ ?_
        refine V.iast (pc := 65) d_RR_countEndings_65 hset_s (by omega) (by omega) ?_
        refine V.iinc (pc := 66) d_RR_countEndings_66 rfl ⟨by omega, by omega⟩ (Nat.le_of_ble_eq_true rfl) rfl ?_
        dsimp only [put]
        refine V.goto (tgt := 24) (pc := 69) d_RR_countEndings_69 (by decide) ?_
        rw [hset_tw]
        refine ih (p + 1) _ _ _ (by omega) (by omega) (by omega) (fun p2 m2 h1 h2 => ?_) (fun p2 h2 => ?_)
        · rw [upf_n (by omega)]; exact hm p2 m2 h1 h2
        · by_cases e9 : p2 = p
          · rw [e9, show (pp * 13 + mm).toNat = 13 * p + m by omega, upf_e, show En (p + m) (m - p) = En (p - 1 + m) (m - (p - 1)) + (if p < m then En (p + (m - 1)) (m - 1 - p) else 0) from En_pm (by omega) (by omega), if_neg (by omega)]
          · rw [upf_n (by omega)]; exact hp2 p2 (by omega)
      · skip
        refine V.aload_n (pc := 34) 0 d_RR_countEndings_34 rfl rfl ?_
        refine V.iload_n (pc := 35) 2 d_RR_countEndings_35 rfl rfl ?_
        refine V.iload_n (pc := 36) 1 d_RR_countEndings_36 rfl rfl ?_
        refine V.iconst (pc := 37) d_RR_countEndings_37 ⟨by decide, by decide⟩ ?_
        refine V.isub (pc := 38) d_RR_countEndings_38 ⟨by omega, by omega⟩ ?_
        refine V.cS2 (pc := 39) (kc2 := 0) (ks2 := 0) ml_RR_257 (cc_RR_endingsAt _ _ (by omega) _ _) d_RR_countEndings_39 (Nat.le_of_ble_eq_true rfl) (Nat.le_of_ble_eq_true rfl) (Nat.le_of_ble_eq_true rfl) (Nat.le_of_ble_eq_true rfl) ?_
        rintro _ _ _ ⟨rfl, rfl, rfl⟩
        dsimp only [Option.toList, List.cons_append, List.nil_append]
        refine V.iald (pc := 42) d_RR_countEndings_42 hset_s (by omega) (by omega) ?_
        rw [show (pp * 13 + (mm - 1)).toNat = 13 * p + (m - 1) by omega, hm p (m - 1) (by omega) (by omega)]
        have hb2 := En_24 (show p + (m - 1) ≤ 24 by omega) (m - 1 - p)
        refine V.goto (tgt := 47) (pc := 43) d_RR_countEndings_43 (by decide) ?_
        refine V.istore_n (pc := 47) 3 d_RR_countEndings_47 rfl (Nat.le_of_ble_eq_true rfl) rfl ?_
        dsimp only [put]
        refine V.aload_n (pc := 48) 0 d_RR_countEndings_48 rfl rfl ?_
        refine V.iload_n (pc := 49) 2 d_RR_countEndings_49 rfl rfl ?_
        refine V.iload_n (pc := 50) 1 d_RR_countEndings_50 rfl rfl ?_
        refine V.cS2 (pc := 51) (kc2 := 0) (ks2 := 0) ml_RR_257 (cc_RR_endingsAt _ _ (by omega) _ _) d_RR_countEndings_51 (Nat.le_of_ble_eq_true rfl) (Nat.le_of_ble_eq_true rfl) (Nat.le_of_ble_eq_true rfl) (Nat.le_of_ble_eq_true rfl) ?_
        rintro _ _ _ ⟨rfl, rfl, rfl⟩
        dsimp only [Option.toList, List.cons_append, List.nil_append]
        refine V.aload_n (pc := 54) 0 d_RR_countEndings_54 rfl rfl ?_
        refine V.iload_n (pc := 55) 2 d_RR_countEndings_55 rfl rfl ?_
        refine V.iconst (pc := 56) d_RR_countEndings_56 ⟨by decide, by decide⟩ ?_
        refine V.isub (pc := 57) d_RR_countEndings_57 ⟨by omega, by omega⟩ ?_
        refine V.iload_n (pc := 58) 1 d_RR_countEndings_58 rfl rfl ?_
        refine V.cS2 (pc := 59) (kc2 := 0) (ks2 := 0) ml_RR_257 (cc_RR_endingsAt _ _ (by omega) _ _) d_RR_countEndings_59 (Nat.le_of_ble_eq_true rfl) (Nat.le_of_ble_eq_true rfl) (Nat.le_of_ble_eq_true rfl) (Nat.le_of_ble_eq_true rfl) ?_
        rintro _ _ _ ⟨rfl, rfl, rfl⟩
        dsimp only [Option.toList, List.cons_append, List.nil_append]
        refine V.iald (pc := 62) d_RR_countEndings_62 hset_s (by omega) (by omega) ?_
        rw [show ((pp - 1) * 13 + mm).toNat = 13 * (p - 1) + m by omega, hp2 (p - 1) (by omega)]
        have hb1 := En_24 (show p - 1 + m ≤ 24 by omega) (m - (p - 1))
        refine V.iload_n (pc := 63) 3 d_RR_countEndings_63 rfl rfl ?_
        refine V.iadd (pc := 64) d_RR_countEndings_64 ⟨by omega, by omega⟩ ?_
        refine V.iast (pc := 65) d_RR_countEndings_65 hset_s (by omega) (by omega) ?_
        refine V.iinc (pc := 66) d_RR_countEndings_66 rfl ⟨by omega, by omega⟩ (Nat.le_of_ble_eq_true rfl) rfl ?_
        dsimp only [put]
        refine V.goto (tgt := 24) (pc := 69) d_RR_countEndings_69 (by decide) ?_
        rw [hset_tw]
        refine ih (p + 1) _ _ _ (by omega) (by omega) (by omega) (fun p2 m2 h1 h2 => ?_) (fun p2 h2 => ?_)
        · rw [upf_n (by omega)]; exact hm p2 m2 h1 h2
        · by_cases e9 : p2 = p
          · rw [e9, show (pp * 13 + mm).toNat = 13 * p + m by omega, upf_e, show En (p + m) (m - p) = En (p - 1 + m) (m - (p - 1)) + (if p < m then En (p + (m - 1)) (m - 1 - p) else 0) from En_pm (by omega) (by omega), if_pos (by omega)]
          · rw [upf_n (by omega)]; exact hp2 p2 (by omega)
set_option maxRecDepth 20000 in
theorem lq_RR_countE2 (h : MH) (sz : Nat) : ∀ (c m : Nat) (mm : Int) (x y : Option MV) (e : Nat → Int), m + c = 13 → mm = m → (∀ p2 m2 : Nat, p2 ≤ m2 → m2 < m → e (13 * p2 + m2) = En (p2 + m2) (m2 - p2)) →
    V M_RR_countEndings 1 8 [some (vR sz), some (vI mm), x, y] [] (hset h sz (kA 0 169 e)) (sz + 1) 0 0 (fun r h2 s => r = some (vR sz) ∧ s = sz + 1 ∧ ∃ e : Nat → Int, h2 = hset h sz (kA 0 169 e) ∧ enT e) := by
  intro c
  induction c with
  | zero =>
    intro m mm x y e hc hmm hm
    refine V.iload_n (pc := 8) 1 d_RR_countEndings_8 rfl rfl ?_
    refine V.bipush (pc := 9) d_RR_countEndings_9 ⟨by decide, by decide⟩ ?_
    refine V.icmp_gt (tgt := 78) (pc := 11) d_RR_countEndings_11 (by decide) (fun c_11 => ?_) (fun c_11 => ?_)
    · skip
      refine V.aload_n (pc := 78) 0 d_RR_countEndings_78 rfl rfl ?_
      refine V.ret (pc := 79) (r := some (vR _)) d_RR_countEndings_79 (Or.inl ⟨_, rfl⟩) rfl ?_
      exact ⟨rfl, rfl, e, rfl, fun p2 m2 h1 h2 => hm p2 m2 h1 (by omega)⟩
    · skip
      exfalso; omega
  | succ c ih =>
    intro m mm x y e hc hmm hm
    refine V.iload_n (pc := 8) 1 d_RR_countEndings_8 rfl rfl ?_
    refine V.bipush (pc := 9) d_RR_countEndings_9 ⟨by decide, by decide⟩ ?_
    refine V.icmp_gt (tgt := 78) (pc := 11) d_RR_countEndings_11 (by decide) (fun c_11 => ?_) (fun c_11 => ?_)
    · skip
      exfalso; omega
    · skip
      refine V.aload_n (pc := 14) 0 d_RR_countEndings_14 rfl rfl ?_
      refine V.iconst (pc := 15) d_RR_countEndings_15 ⟨by decide, by decide⟩ ?_
      refine V.iload_n (pc := 16) 1 d_RR_countEndings_16 rfl rfl ?_
      refine V.cS2 (pc := 17) (kc2 := 0) (ks2 := 0) ml_RR_257 (cc_RR_endingsAt _ _ (by omega) _ _) d_RR_countEndings_17 (Nat.le_of_ble_eq_true rfl) (Nat.le_of_ble_eq_true rfl) (Nat.le_of_ble_eq_true rfl) (Nat.le_of_ble_eq_true rfl) ?_
      rintro _ _ _ ⟨rfl, rfl, rfl⟩
      dsimp only [Option.toList, List.cons_append, List.nil_append]
      refine V.iconst (pc := 20) d_RR_countEndings_20 ⟨by decide, by decide⟩ ?_
      refine V.iast (pc := 21) d_RR_countEndings_21 hset_s (by omega) (by omega) ?_
      refine V.iconst (pc := 22) d_RR_countEndings_22 ⟨by decide, by decide⟩ ?_
      refine V.istore_n (pc := 23) 2 d_RR_countEndings_23 rfl (Nat.le_of_ble_eq_true rfl) rfl ?_
      dsimp only [put]
      rw [hset_tw]
      refine lq_RR_countE1 h sz m (by omega) mm hmm _ (fun e x y he => ih (m + 1) _ _ _ _ (by omega) (by omega) he) m 1 1 _ _ (by omega) (by omega) rfl (fun p2 m2 h1 h2 => ?_) (fun p2 h2 => ?_)
      · rw [upf_n (by omega)]; exact hm p2 m2 h1 h2
      · rw [show p2 = 0 by omega, show ((0 : Int) * 13 + mm).toNat = 13 * 0 + m by omega, upf_e, Nat.zero_add, Nat.sub_zero, En_diag]
set_option maxRecDepth 20000 in
theorem cc_RR_countEndings (h : MH) (sz : Nat) : Ct M_RR_countEndings 1 1 169 [] h sz (fun r h2 s => r = some (vR sz) ∧ s = sz + 1 ∧ ∃ e : Nat → Int, h2 = hset h sz (kA 0 169 e) ∧ enT e) := by
  refine Ct.of rfl (Nat.le_of_ble_eq_true rfl) ?_
  dsimp only [lsOf]
  refine V.sipush (pc := 0) d_RR_countEndings_0 ⟨by decide, by decide⟩ ?_
  refine V.newi (pc := 3) 0 (kc2 := 0) (ks2 := 0) d_RR_countEndings_3 (by omega) (by omega) (Nat.le_of_ble_eq_true rfl) (by omega) ?_
  refine V.astore_n (pc := 5) 0 d_RR_countEndings_5 rfl (Nat.le_of_ble_eq_true rfl) rfl ?_
  dsimp only [put]
  refine V.iconst (pc := 6) d_RR_countEndings_6 ⟨by decide, by decide⟩ ?_
  refine V.istore_n (pc := 7) 1 d_RR_countEndings_7 rfl (Nat.le_of_ble_eq_true rfl) rfl ?_
  dsimp only [put]
  refine V.pad ?_
  refine V.pad ?_
  exact lq_RR_countE2 h sz 13 0 0 none none (fun _ => 0) rfl rfl (fun p2 m2 h1 h2 => by omega)
set_option maxRecDepth 20000 in
theorem cc_RR_endingsOf (p m : Int) (hp : -1 ≤ p ∧ p ≤ m ∧ 0 ≤ m ∧ m ≤ 12) (h : MH) (x : Int) (e : Nat → Int) (h0 : h 0 = some (oRR x)) (h5 : h 5 = some (kA 0 169 e)) (he : enT e) (sz : Nat) : Ct M_RR_endingsOf 1 0 0 [vR 0, vI p, vI m] h sz (Det (some (vI (En (p + m).toNat (m - p).toNat))) h sz) := by
  refine Ct.of rfl (Nat.le_of_ble_eq_true rfl) ?_
  dsimp only [lsOf]
  refine V.iload_n (pc := 0) 1 d_RR_endingsOf_0 rfl rfl ?_
  refine V.if_ge (tgt := 8) (pc := 1) d_RR_endingsOf_1 (by decide) (fun c_1 => ?_) (fun c_1 => ?_)
  · skip
    refine V.aload_n (pc := 8) 0 d_RR_endingsOf_8 rfl rfl ?_
    refine V.getf (pc := 9) 3 cl_RR fl_RR_32_RR d_RR_endingsOf_9 h0 (Nat.le_of_ble_eq_true rfl) rfl ?_
    refine V.iload_n (pc := 12) 1 d_RR_endingsOf_12 rfl rfl ?_
    refine V.iload_n (pc := 13) 2 d_RR_endingsOf_13 rfl rfl ?_
    refine V.cS2 (pc := 14) (kc2 := 0) (ks2 := 0) ml_RR_257 (cc_RR_endingsAt _ _ (by omega) _ _) d_RR_endingsOf_14 (Nat.le_of_ble_eq_true rfl) (Nat.le_of_ble_eq_true rfl) (Nat.le_of_ble_eq_true rfl) (Nat.le_of_ble_eq_true rfl) ?_
    rintro _ _ _ ⟨rfl, rfl, rfl⟩
    dsimp only [Option.toList, List.cons_append, List.nil_append]
    refine V.iald (pc := 17) d_RR_endingsOf_17 h5 (by omega) (by omega) ?_
    refine V.ret (pc := 18) (r := some (vI _)) d_RR_endingsOf_18 (Or.inl rfl) rfl ?_
    rw [show (p * 13 + m).toNat = 13 * p.toNat + m.toNat by omega, he p.toNat m.toNat (by omega) (by omega)]
    exact detI (by rw [show (p + m).toNat = p.toNat + m.toNat by omega, show (m - p).toNat = m.toNat - p.toNat by omega])
  · skip
    refine V.iconst (pc := 4) d_RR_endingsOf_4 ⟨by decide, by decide⟩ ?_
    refine V.goto (tgt := 18) (pc := 5) d_RR_endingsOf_5 (by decide) ?_
    refine V.ret (pc := 18) (r := some (vI _)) d_RR_endingsOf_18 (Or.inl rfl) rfl ?_
    exact detI (by rw [En_far _ _ (by omega)])
set_option maxRecDepth 20000 in
theorem lq_RR_plusOfRank (n : Nat) (hn : 1 ≤ n ∧ n ≤ 12) (i : Int) (hi : 0 ≤ i ∧ i < En (2 * n) 0) (h : MH) (x : Int) (e : Nat → Int) (h0 : h 0 = some (oRR x)) (h5 : h 5 = some (kA 0 169 e)) (he : enT e) (sz : Nat) : ∀ (c p : Nat) (N ah pl mi9 pp ht9 : Int) (x : Option MV), p + c = 2 * n → pp = p → (ah, ht9) = tlS n i p → pl + mi9 = 2 * n - p → mi9 - pl = ht9 → N = (pls (tls n i) p : Int) →
    V M_RR_plusOfRank 2 14 [some (vR 0), some (vI (n : Nat)), some (vI i), some (vL N), none, some (vI ah), some (vI pl), some (vI mi9), some (vI pp), x] [] h sz 0 0 (Det (some (vL (pls (tls n i) (2 * n) : Int))) h sz) := by
  intro c
  induction c with
  | zero =>
    intro p N ah pl mi9 pp ht9 x hc hpp hS h1 h2 hNN
    refine V.iload (pc := 14) d_RR_plusOfRank_14 rfl ?_
    refine V.iconst (pc := 16) d_RR_plusOfRank_16 ⟨by decide, by decide⟩ ?_
    refine V.iload_n (pc := 17) 1 d_RR_plusOfRank_17 rfl rfl ?_
    refine V.imul (pc := 18) d_RR_plusOfRank_18 ⟨by omega, by omega⟩ ?_
    refine V.icmp_ge (tgt := 70) (pc := 19) d_RR_plusOfRank_19 (by decide) (fun c_19 => ?_) (fun c_19 => ?_)
    · skip
      refine V.lload_n (pc := 70) 3 d_RR_plusOfRank_70 rfl rfl ?_
      refine V.ret (pc := 71) (r := some (vL _)) d_RR_plusOfRank_71 rfl rfl ?_
      rw [hNN, show p = 2 * n by omega]
      exact detR
    · skip
      exfalso; omega
  | succ c ih =>
    intro p N ah pl mi9 pp ht9 x hc hpp hS h1 h2 hNN
    refine V.iload (pc := 14) d_RR_plusOfRank_14 rfl ?_
    refine V.iconst (pc := 16) d_RR_plusOfRank_16 ⟨by decide, by decide⟩ ?_
    refine V.iload_n (pc := 17) 1 d_RR_plusOfRank_17 rfl rfl ?_
    refine V.imul (pc := 18) d_RR_plusOfRank_18 ⟨by omega, by omega⟩ ?_
    refine V.icmp_ge (tgt := 70) (pc := 19) d_RR_plusOfRank_19 (by decide) (fun c_19 => ?_) (fun c_19 => ?_)
    · skip
      exfalso; omega
    · skip
      have hiv := tlS_inv hi p (by omega)
      have htp := ht_top (tls_arch hi) (show p ≤ 2 * n by omega)
      rw [← hS] at hiv
      dsimp only at hiv
      rw [hiv.2.2.2.2] at htp
      have hiv3 := (En_24 (show 2 * n - p ≤ 24 by omega) ht9.toNat).2
      have hp40 := pls_40 (tls n i) (show p ≤ 40 by omega)
      have hpw := two40 (show p ≤ 40 by omega)
      have e1 : tlS n i (p + 1) = if (tlS n i p).1 < En (2 * n - p - 1) ((tlS n i p).2 + 1).toNat then ((tlS n i p).1, (tlS n i p).2 + 1) else ((tlS n i p).1 - En (2 * n - p - 1) ((tlS n i p).2 + 1).toNat, (tlS n i p).2 - 1) := rfl
      have e3 : tls n i p = if (tlS n i p).1 < En (2 * n - p - 1) ((tlS n i p).2 + 1).toNat then 1 else -1 := rfl
      rw [← hS] at e1 e3
      dsimp only at e1 e3
      have e4 : pls (tls n i) (p + 1) = if 0 < tls n i p then pls (tls n i) p ||| 2 ^ p else pls (tls n i) p := rfl
      refine V.aload_n (pc := 22) 0 d_RR_plusOfRank_22 rfl rfl ?_
      refine V.iload (pc := 23) d_RR_plusOfRank_23 rfl ?_
      refine V.iconst (pc := 25) d_RR_plusOfRank_25 ⟨by decide, by decide⟩ ?_
      refine V.isub (pc := 26) d_RR_plusOfRank_26 ⟨by omega, by omega⟩ ?_
      refine V.iload (pc := 27) d_RR_plusOfRank_27 rfl ?_
      refine V.cV2 (pc := 29) (kc2 := 0) (ks2 := 0) ml_RR_113 h0 (cc_RR_endingsOf _ _ (by omega) _ _ _ h0 h5 he _) d_RR_plusOfRank_29 (Nat.le_of_ble_eq_true rfl) (Nat.le_of_ble_eq_true rfl) (Nat.le_of_ble_eq_true rfl) (Nat.le_of_ble_eq_true rfl) ?_
      rintro _ _ _ ⟨rfl, rfl, rfl⟩
      dsimp only [Option.toList, List.cons_append, List.nil_append]
      rw [show (pl - 1 + mi9).toNat = 2 * n - p - 1 by omega, show (mi9 - (pl - 1)).toNat = (ht9 + 1).toNat by omega]
      have hb2 := En_24 (show 2 * n - p - 1 ≤ 24 by omega) (ht9 + 1).toNat
      refine V.istore (pc := 32) d_RR_plusOfRank_32 (Nat.le_of_ble_eq_true rfl) rfl ?_
      dsimp only [put]
      refine V.iload (pc := 34) d_RR_plusOfRank_34 rfl ?_
      refine V.iload (pc := 36) d_RR_plusOfRank_36 rfl ?_
      refine V.icmp_ge (tgt := 54) (pc := 38) d_RR_plusOfRank_38 (by decide) (fun c_38 => ?_) (fun c_38 => ?_)
      · skip
        refine V.iload (pc := 54) d_RR_plusOfRank_54 rfl ?_
        refine V.iload (pc := 56) d_RR_plusOfRank_56 rfl ?_
        refine V.isub (pc := 58) d_RR_plusOfRank_58 ⟨by omega, by omega⟩ ?_
        refine V.istore (pc := 59) d_RR_plusOfRank_59 (Nat.le_of_ble_eq_true rfl) rfl ?_
        dsimp only [put]
        refine V.iinc (pc := 61) d_RR_plusOfRank_61 rfl ⟨by omega, by omega⟩ (Nat.le_of_ble_eq_true rfl) rfl ?_
        dsimp only [put]
        refine V.iinc (pc := 64) d_RR_plusOfRank_64 rfl ⟨by omega, by omega⟩ (Nat.le_of_ble_eq_true rfl) rfl ?_
        dsimp only [put]
        refine V.goto (tgt := 14) (pc := 67) d_RR_plusOfRank_67 (by decide) ?_
        refine ih (p + 1) _ _ _ _ _ _ _ (by omega) (by omega) (e1.trans (if_neg (by omega))).symm ?_ ?_ ?_
        · omega
        · omega
        · rw [e4, e3, if_neg (by omega)]; exact hNN
      · skip
        rw [hNN]
        refine V.lload_n (pc := 41) 3 d_RR_plusOfRank_41 rfl rfl ?_
        refine V.lconst1 (pc := 42) d_RR_plusOfRank_42 ?_
        refine V.iload (pc := 43) d_RR_plusOfRank_43 rfl ?_
        refine V.lshl (pc := 45) (((2 ^ p : Nat) : Int)) d_RR_plusOfRank_45 (b_one (by omega) (by omega)) ?_
        refine V.lor (pc := 46) (((pls (tls n i) p ||| 2 ^ p : Nat) : Int)) d_RR_plusOfRank_46 (b_or (by omega) (by omega)) ?_
        refine V.lstore_n (pc := 47) 3 d_RR_plusOfRank_47 rfl (Nat.le_of_ble_eq_true rfl) rfl ?_
        dsimp only [put]
        refine V.iinc (pc := 48) d_RR_plusOfRank_48 rfl ⟨by omega, by omega⟩ (Nat.le_of_ble_eq_true rfl) rfl ?_
        dsimp only [put]
        refine V.goto (tgt := 64) (pc := 51) d_RR_plusOfRank_51 (by decide) ?_
        refine V.iinc (pc := 64) d_RR_plusOfRank_64 rfl ⟨by omega, by omega⟩ (Nat.le_of_ble_eq_true rfl) rfl ?_
        dsimp only [put]
        refine V.goto (tgt := 14) (pc := 67) d_RR_plusOfRank_67 (by decide) ?_
        refine ih (p + 1) _ _ _ _ _ _ _ (by omega) (by omega) (e1.trans (if_pos (by omega))).symm ?_ ?_ ?_
        · omega
        · omega
        · rw [e4, e3, if_pos (by omega)]
set_option maxRecDepth 20000 in
theorem cc_RR_plusOfRank (n : Nat) (hn : 1 ≤ n ∧ n ≤ 12) (i : Int) (hi : 0 ≤ i ∧ i < En (2 * n) 0) (h : MH) (x : Int) (e : Nat → Int) (h0 : h 0 = some (oRR x)) (h5 : h 5 = some (kA 0 169 e)) (he : enT e) (sz : Nat) : Ct M_RR_plusOfRank 2 0 0 [vR 0, vI (n : Nat), vI i] h sz (Det (some (vL (pls (tls n i) (2 * n) : Int))) h sz) := by
  refine Ct.of rfl (Nat.le_of_ble_eq_true rfl) ?_
  dsimp only [lsOf]
  refine V.lconst0 (pc := 0) d_RR_plusOfRank_0 ?_
  refine V.lstore_n (pc := 1) 3 d_RR_plusOfRank_1 rfl (Nat.le_of_ble_eq_true rfl) rfl ?_
  dsimp only [put]
  refine V.iload_n (pc := 2) 2 d_RR_plusOfRank_2 rfl rfl ?_
  refine V.istore (pc := 3) d_RR_plusOfRank_3 (Nat.le_of_ble_eq_true rfl) rfl ?_
  dsimp only [put]
  refine V.iload_n (pc := 5) 1 d_RR_plusOfRank_5 rfl rfl ?_
  refine V.istore (pc := 6) d_RR_plusOfRank_6 (Nat.le_of_ble_eq_true rfl) rfl ?_
  dsimp only [put]
  refine V.iload_n (pc := 8) 1 d_RR_plusOfRank_8 rfl rfl ?_
  refine V.istore (pc := 9) d_RR_plusOfRank_9 (Nat.le_of_ble_eq_true rfl) rfl ?_
  dsimp only [put]
  refine V.iconst (pc := 11) d_RR_plusOfRank_11 ⟨by decide, by decide⟩ ?_
  refine V.istore (pc := 12) d_RR_plusOfRank_12 (Nat.le_of_ble_eq_true rfl) rfl ?_
  dsimp only [put]
  refine V.pad ?_
  exact lq_RR_plusOfRank n hn i hi h x e h0 h5 he sz (2 * n) 0 0 _ _ _ 0 0 none (by omega) rfl rfl (by omega) (by omega) rfl
set_option maxRecDepth 20000 in
theorem lq_RR_rankOf {ci : Nat} {C : String} (hC : Cls ci C F_Ar 3 t_Ar) (b c9 : Nat) (n : Nat) (a : Nat → Int) (hn : 1 ≤ n ∧ n ≤ 12) (ha : arch a n) (h : MH) (x : Int) (e : Nat → Int) (h0 : h 0 = some (oRR x)) (h5 : h 5 = some (kA 0 169 e)) (he : enT e) (hb : h b = some (kO ci [vI (n : Int), vL (pls a (2 * n) : Int), vR c9])) (sz : Nat) : ∀ (c p : Nat) (r pl mi9 pp : Int), p + c = 2 * n → pp = p → r = rk a n p → pl + mi9 = 2 * n - p → mi9 - pl = ht a p →
    V M_RR_rankOf 2 16 [some (vR 0), some (vR b), some (vI r), some (vI pl), some (vI mi9), some (vI pp)] [] h sz 0 0 (Det (some (vI (rk a n (2 * n)))) h sz) := by
  intro c
  induction c with
  | zero =>
    intro p r pl mi9 pp hc hpp hr h1 h2
    refine V.iload (pc := 16) d_RR_rankOf_16 rfl ?_
    refine V.iconst (pc := 18) d_RR_rankOf_18 ⟨by decide, by decide⟩ ?_
    refine V.aload_n (pc := 19) 1 d_RR_rankOf_19 rfl rfl ?_
    refine V.getf (pc := 20) 0 hC fl_RR_96_Ar d_RR_rankOf_20 hb (Nat.le_of_ble_eq_true rfl) rfl ?_
    refine V.imul (pc := 23) d_RR_rankOf_23 ⟨by omega, by omega⟩ ?_
    refine V.icmp_ge (tgt := 66) (pc := 24) d_RR_rankOf_24 (by decide) (fun c_24 => ?_) (fun c_24 => ?_)
    · skip
      refine V.iload_n (pc := 66) 2 d_RR_rankOf_66 rfl rfl ?_
      refine V.ret (pc := 67) (r := some (vI _)) d_RR_rankOf_67 (Or.inl rfl) rfl ?_
      rw [hr, show p = 2 * n by omega]
      exact detR
    · skip
      exfalso; omega
  | succ c ih =>
    intro p r pl mi9 pp hc hpp hr h1 h2
    refine V.iload (pc := 16) d_RR_rankOf_16 rfl ?_
    refine V.iconst (pc := 18) d_RR_rankOf_18 ⟨by decide, by decide⟩ ?_
    refine V.aload_n (pc := 19) 1 d_RR_rankOf_19 rfl rfl ?_
    refine V.getf (pc := 20) 0 hC fl_RR_96_Ar d_RR_rankOf_20 hb (Nat.le_of_ble_eq_true rfl) rfl ?_
    refine V.imul (pc := 23) d_RR_rankOf_23 ⟨by omega, by omega⟩ ?_
    refine V.icmp_ge (tgt := 66) (pc := 24) d_RR_rankOf_24 (by decide) (fun c_24 => ?_) (fun c_24 => ?_)
    · skip
      exfalso; omega
    · skip
      have hrg := rk_rng (a := a) hn.2 p
      have hh1 := (arch_iff.mp ha).1 p (by omega)
      have hh2 := ht_le a p
      have hh3 := ht_top ha (show p ≤ 2 * n by omega)
      have hp40 := pls_40 a (show 2 * n ≤ 40 by omega)
      have hpb := pls_bit a (2 * n) p
      by_cases hp : 0 < a p
      · skip
        refine V.aload_n (pc := 27) 1 d_RR_rankOf_27 rfl rfl ?_
        refine V.getf (pc := 28) 1 hC fl_RR_126_Ar d_RR_rankOf_28 hb (Nat.le_of_ble_eq_true rfl) rfl ?_
        refine V.iload (pc := 31) d_RR_rankOf_31 rfl ?_
        refine V.cS2 (pc := 33) (kc2 := 0) (ks2 := 0) ml_RR_178 (cc_RR_isPlus _ _ (by omega) (by omega) _ _) d_RR_rankOf_33 (Nat.le_of_ble_eq_true rfl) (Nat.le_of_ble_eq_true rfl) (Nat.le_of_ble_eq_true rfl) (Nat.le_of_ble_eq_true rfl) ?_
        rintro _ _ _ ⟨rfl, rfl, rfl⟩
        dsimp only [Option.toList, List.cons_append, List.nil_append]
        refine V.ifB_eq (tgt := 45) (pc := 36) d_RR_rankOf_36 (by decide) (fun c_36 => ?_) (fun c_36 => ?_)
        · skip
          exact absurd (hpb.mpr ⟨by omega, hp⟩) (by rw [show pp.toNat = p by omega] at c_36; exact c_36)
        · skip
          refine V.iinc (pc := 39) d_RR_rankOf_39 rfl ⟨by omega, by omega⟩ (Nat.le_of_ble_eq_true rfl) rfl ?_
          dsimp only [put]
          refine V.goto (tgt := 60) (pc := 42) d_RR_rankOf_42 (by decide) ?_
          refine V.iinc (pc := 60) d_RR_rankOf_60 rfl ⟨by omega, by omega⟩ (Nat.le_of_ble_eq_true rfl) rfl ?_
          dsimp only [put]
          refine V.goto (tgt := 16) (pc := 63) d_RR_rankOf_63 (by decide) ?_
          refine ih (p + 1) _ _ _ _ (by omega) (by omega) ?_ (by omega) ?_
          · show _ = rk a n p + (if 0 < a p then 0 else En (2 * n - p - 1) (ht a p + 1).toNat)
            rw [if_pos hp, hr]; omega
          · show _ = ht a p + (if 0 < a p then 1 else -1)
            rw [if_pos hp]; omega
      · skip
        refine V.aload_n (pc := 27) 1 d_RR_rankOf_27 rfl rfl ?_
        refine V.getf (pc := 28) 1 hC fl_RR_126_Ar d_RR_rankOf_28 hb (Nat.le_of_ble_eq_true rfl) rfl ?_
        refine V.iload (pc := 31) d_RR_rankOf_31 rfl ?_
        refine V.cS2 (pc := 33) (kc2 := 0) (ks2 := 0) ml_RR_178 (cc_RR_isPlus _ _ (by omega) (by omega) _ _) d_RR_rankOf_33 (Nat.le_of_ble_eq_true rfl) (Nat.le_of_ble_eq_true rfl) (Nat.le_of_ble_eq_true rfl) (Nat.le_of_ble_eq_true rfl) ?_
        rintro _ _ _ ⟨rfl, rfl, rfl⟩
        dsimp only [Option.toList, List.cons_append, List.nil_append]
        refine V.ifB_eq (tgt := 45) (pc := 36) d_RR_rankOf_36 (by decide) (fun c_36 => ?_) (fun c_36 => ?_)
        · skip
          refine V.iload_n (pc := 45) 2 d_RR_rankOf_45 rfl rfl ?_
          refine V.aload_n (pc := 46) 0 d_RR_rankOf_46 rfl rfl ?_
          refine V.iload_n (pc := 47) 3 d_RR_rankOf_47 rfl rfl ?_
          refine V.iconst (pc := 48) d_RR_rankOf_48 ⟨by decide, by decide⟩ ?_
          refine V.isub (pc := 49) d_RR_rankOf_49 ⟨by omega, by omega⟩ ?_
          refine V.iload (pc := 50) d_RR_rankOf_50 rfl ?_
          refine V.cV2 (pc := 52) (kc2 := 0) (ks2 := 0) ml_RR_113 h0 (cc_RR_endingsOf _ _ (by omega) _ _ _ h0 h5 he _) d_RR_rankOf_52 (Nat.le_of_ble_eq_true rfl) (Nat.le_of_ble_eq_true rfl) (Nat.le_of_ble_eq_true rfl) (Nat.le_of_ble_eq_true rfl) ?_
          rintro _ _ _ ⟨rfl, rfl, rfl⟩
          dsimp only [Option.toList, List.cons_append, List.nil_append]
          rw [show (pl - 1 + mi9).toNat = 2 * n - p - 1 by omega, show (mi9 - (pl - 1)).toNat = (ht a p + 1).toNat by omega]
          have hb2 := En_24 (show 2 * n - p - 1 ≤ 24 by omega) (ht a p + 1).toNat
          refine V.iadd (pc := 55) d_RR_rankOf_55 ⟨by omega, by omega⟩ ?_
          refine V.istore_n (pc := 56) 2 d_RR_rankOf_56 rfl (Nat.le_of_ble_eq_true rfl) rfl ?_
          dsimp only [put]
          refine V.iinc (pc := 57) d_RR_rankOf_57 rfl ⟨by omega, by omega⟩ (Nat.le_of_ble_eq_true rfl) rfl ?_
          dsimp only [put]
          refine V.iinc (pc := 60) d_RR_rankOf_60 rfl ⟨by omega, by omega⟩ (Nat.le_of_ble_eq_true rfl) rfl ?_
          dsimp only [put]
          refine V.goto (tgt := 16) (pc := 63) d_RR_rankOf_63 (by decide) ?_
          refine ih (p + 1) _ _ _ _ (by omega) (by omega) ?_ (by omega) ?_
          · show _ = rk a n p + (if 0 < a p then 0 else En (2 * n - p - 1) (ht a p + 1).toNat)
            rw [if_neg hp, hr]
          · show _ = ht a p + (if 0 < a p then 1 else -1)
            rw [if_neg hp]; omega
        · skip
          exact absurd (hpb.mp (by rw [show pp.toNat = p by omega] at c_36; exact c_36)).2 hp
set_option maxRecDepth 20000 in
theorem cc_RR_rankOf {ci : Nat} {C : String} (hC : Cls ci C F_Ar 3 t_Ar) (b c9 : Nat) (n : Nat) (a : Nat → Int) (hn : 1 ≤ n ∧ n ≤ 12) (ha : arch a n) (h : MH) (x : Int) (e : Nat → Int) (h0 : h 0 = some (oRR x)) (h5 : h 5 = some (kA 0 169 e)) (he : enT e) (hb : h b = some (kO ci [vI (n : Int), vL (pls a (2 * n) : Int), vR c9])) (sz : Nat) : Ct M_RR_rankOf 2 0 0 [vR 0, vR b] h sz (Det (some (vI (rk a n (2 * n)))) h sz) := by
  refine Ct.of rfl (Nat.le_of_ble_eq_true rfl) ?_
  dsimp only [lsOf]
  refine V.iconst (pc := 0) d_RR_rankOf_0 ⟨by decide, by decide⟩ ?_
  refine V.istore_n (pc := 1) 2 d_RR_rankOf_1 rfl (Nat.le_of_ble_eq_true rfl) rfl ?_
  dsimp only [put]
  refine V.aload_n (pc := 2) 1 d_RR_rankOf_2 rfl rfl ?_
  refine V.getf (pc := 3) 0 hC fl_RR_96_Ar d_RR_rankOf_3 hb (Nat.le_of_ble_eq_true rfl) rfl ?_
  refine V.istore_n (pc := 6) 3 d_RR_rankOf_6 rfl (Nat.le_of_ble_eq_true rfl) rfl ?_
  dsimp only [put]
  refine V.aload_n (pc := 7) 1 d_RR_rankOf_7 rfl rfl ?_
  refine V.getf (pc := 8) 0 hC fl_RR_96_Ar d_RR_rankOf_8 hb (Nat.le_of_ble_eq_true rfl) rfl ?_
  refine V.istore (pc := 11) d_RR_rankOf_11 (Nat.le_of_ble_eq_true rfl) rfl ?_
  dsimp only [put]
  refine V.iconst (pc := 13) d_RR_rankOf_13 ⟨by decide, by decide⟩ ?_
  refine V.istore (pc := 14) d_RR_rankOf_14 (Nat.le_of_ble_eq_true rfl) rfl ?_
  dsimp only [put]
  exact lq_RR_rankOf hC b c9 n a hn ha h x e h0 h5 he hb sz (2 * n) 0 0 _ _ 0 (by omega) rfl rfl (by omega) (by show (n : Int) - n = 0; omega)
set_option maxRecDepth 20000 in
theorem lq_RR_mirrored {ci : Nat} {C : String} (hC : Cls ci C F_Ar 3 t_Ar) (b c9 : Nat) (n : Nat) (a : Nat → Int) (hn : 1 ≤ n ∧ n ≤ 20) (ha : arch a n) (hsg : ∀ p, p < 2 * n → a p = 1 ∨ a p = -1) (h : MH) (hb : h b = some (kO ci [vI (n : Int), vL (pls a (2 * n) : Int), vR c9])) (sz : Nat) (la : Int) (hla : la = 2 * n - 1) : ∀ (c p : Nat) (N pp : Int), p + c = 2 * n → pp = p → N = (pls (mi a n) p : Int) →
    V M_RR_mirrored 7 14 [some (vR b), some (vI la), some (vL N), none, some (vI pp)] [] h sz 2 43 (QAr n (mi a n) h sz) := by
  intro c
  induction c with
  | zero =>
    intro p N pp hc hpp hNN
    refine V.iload (pc := 14) d_RR_mirrored_14 rfl ?_
    refine V.iload_n (pc := 16) 1 d_RR_mirrored_16 rfl rfl ?_
    refine V.icmp_gt (tgt := 47) (pc := 17) d_RR_mirrored_17 (by decide) (fun c_17 => ?_) (fun c_17 => ?_)
    · skip
      refine V.aload_n (pc := 47) 0 d_RR_mirrored_47 rfl rfl ?_
      refine V.getf (pc := 48) 0 hC fl_RR_96_Ar d_RR_mirrored_48 hb (Nat.le_of_ble_eq_true rfl) rfl ?_
      refine V.lload_n (pc := 51) 2 d_RR_mirrored_51 rfl rfl ?_
      rw [hNN, show p = 2 * n by omega]
      refine V.cS2 (pc := 52) (kc2 := 0) (ks2 := 0) ml_RR_122 (cc_RR_archesOf n (mi a n) hn (arch_mi hsg ha) _ _) d_RR_mirrored_52 (Nat.le_of_ble_eq_true rfl) (Nat.le_of_ble_eq_true rfl) (Nat.le_of_ble_eq_true rfl) (Nat.le_of_ble_eq_true rfl) ?_
      rintro _ _ _ ⟨rfl, rfl, f, rfl, hf⟩
      dsimp only [Option.toList, List.cons_append, List.nil_append]
      refine V.ret (pc := 55) (r := some (vR _)) d_RR_mirrored_55 (Or.inr ⟨_, rfl⟩) rfl ?_
      exact ⟨rfl, rfl, f, rfl, hf⟩
    · skip
      exfalso; omega
  | succ c ih =>
    intro p N pp hc hpp hNN
    refine V.iload (pc := 14) d_RR_mirrored_14 rfl ?_
    refine V.iload_n (pc := 16) 1 d_RR_mirrored_16 rfl rfl ?_
    refine V.icmp_gt (tgt := 47) (pc := 17) d_RR_mirrored_17 (by decide) (fun c_17 => ?_) (fun c_17 => ?_)
    · skip
      exfalso; omega
    · skip
      have hp40 := pls_40 (mi a n) (show p ≤ 40 by omega)
      have hq40 := pls_40 a (show 2 * n ≤ 40 by omega)
      have hpw := two40 (show p ≤ 40 by omega)
      have hpb := pls_bit a (2 * n) (2 * n - 1 - p)
      have hs9 := hsg (2 * n - 1 - p) (by omega)
      have e4 : pls (mi a n) (p + 1) = if 0 < mi a n p then pls (mi a n) p ||| 2 ^ p else pls (mi a n) p := rfl
      have e5 : mi a n p = - a (2 * n - 1 - p) := rfl
      by_cases hp : 0 < a (2 * n - 1 - p)
      · skip
        rw [if_neg (by omega)] at e4
        refine V.aload_n (pc := 20) 0 d_RR_mirrored_20 rfl rfl ?_
        refine V.getf (pc := 21) 1 hC fl_RR_126_Ar d_RR_mirrored_21 hb (Nat.le_of_ble_eq_true rfl) rfl ?_
        refine V.iload_n (pc := 24) 1 d_RR_mirrored_24 rfl rfl ?_
        refine V.iload (pc := 25) d_RR_mirrored_25 rfl ?_
        refine V.isub (pc := 27) d_RR_mirrored_27 ⟨by omega, by omega⟩ ?_
        refine V.cS2 (pc := 28) (kc2 := 2) (ks2 := 43) ml_RR_178 (cc_RR_isPlus _ _ (by omega) (by omega) _ _) d_RR_mirrored_28 (Nat.le_of_ble_eq_true rfl) (Nat.le_of_ble_eq_true rfl) (Nat.le_of_ble_eq_true rfl) (Nat.le_of_ble_eq_true rfl) ?_
        rintro _ _ _ ⟨rfl, rfl, rfl⟩
        dsimp only [Option.toList, List.cons_append, List.nil_append]
        refine V.ifB_ne (tgt := 41) (pc := 31) d_RR_mirrored_31 (by decide) (fun c_31 => ?_) (fun c_31 => ?_)
        · skip
          refine V.iinc (pc := 41) d_RR_mirrored_41 rfl ⟨by omega, by omega⟩ (Nat.le_of_ble_eq_true rfl) rfl ?_
          dsimp only [put]
          refine V.goto (tgt := 14) (pc := 44) d_RR_mirrored_44 (by decide) ?_
          exact ih (p + 1) _ _ (by omega) (by omega) (by rw [e4]; exact hNN)
        · skip
          exact absurd (hpb.mpr ⟨by omega, hp⟩) (by rw [show (la - pp).toNat = 2 * n - 1 - p by omega] at c_31; exact c_31)
      · skip
        rw [if_pos (by omega)] at e4
        refine V.aload_n (pc := 20) 0 d_RR_mirrored_20 rfl rfl ?_
        refine V.getf (pc := 21) 1 hC fl_RR_126_Ar d_RR_mirrored_21 hb (Nat.le_of_ble_eq_true rfl) rfl ?_
        refine V.iload_n (pc := 24) 1 d_RR_mirrored_24 rfl rfl ?_
        refine V.iload (pc := 25) d_RR_mirrored_25 rfl ?_
        refine V.isub (pc := 27) d_RR_mirrored_27 ⟨by omega, by omega⟩ ?_
        refine V.cS2 (pc := 28) (kc2 := 2) (ks2 := 43) ml_RR_178 (cc_RR_isPlus _ _ (by omega) (by omega) _ _) d_RR_mirrored_28 (Nat.le_of_ble_eq_true rfl) (Nat.le_of_ble_eq_true rfl) (Nat.le_of_ble_eq_true rfl) (Nat.le_of_ble_eq_true rfl) ?_
        rintro _ _ _ ⟨rfl, rfl, rfl⟩
        dsimp only [Option.toList, List.cons_append, List.nil_append]
        refine V.ifB_ne (tgt := 41) (pc := 31) d_RR_mirrored_31 (by decide) (fun c_31 => ?_) (fun c_31 => ?_)
        · skip
          exact absurd (hpb.mp (by rw [show (la - pp).toNat = 2 * n - 1 - p by omega] at c_31; exact c_31)).2 hp
        · skip
          rw [hNN]
          refine V.lload_n (pc := 34) 2 d_RR_mirrored_34 rfl rfl ?_
          refine V.lconst1 (pc := 35) d_RR_mirrored_35 ?_
          refine V.iload (pc := 36) d_RR_mirrored_36 rfl ?_
          refine V.lshl (pc := 38) (((2 ^ p : Nat) : Int)) d_RR_mirrored_38 (b_one (by omega) (by omega)) ?_
          refine V.lor (pc := 39) (((pls (mi a n) p ||| 2 ^ p : Nat) : Int)) d_RR_mirrored_39 (b_or (by omega) (by omega)) ?_
          refine V.lstore_n (pc := 40) 2 d_RR_mirrored_40 rfl (Nat.le_of_ble_eq_true rfl) rfl ?_
          dsimp only [put]
          refine V.iinc (pc := 41) d_RR_mirrored_41 rfl ⟨by omega, by omega⟩ (Nat.le_of_ble_eq_true rfl) rfl ?_
          dsimp only [put]
          refine V.goto (tgt := 14) (pc := 44) d_RR_mirrored_44 (by decide) ?_
          exact ih (p + 1) _ _ (by omega) (by omega) (by rw [e4])
set_option maxRecDepth 20000 in
theorem cc_RR_mirrored {ci : Nat} {C : String} (hC : Cls ci C F_Ar 3 t_Ar) (b c9 : Nat) (n : Nat) (a : Nat → Int) (hn : 1 ≤ n ∧ n ≤ 20) (ha : arch a n) (hsg : ∀ p, p < 2 * n → a p = 1 ∨ a p = -1) (h : MH) (hb : h b = some (kO ci [vI (n : Int), vL (pls a (2 * n) : Int), vR c9])) (sz : Nat) : Ct M_RR_mirrored 7 2 43 [vR b] h sz (QAr n (mi a n) h sz) := by
  refine Ct.of rfl (Nat.le_of_ble_eq_true rfl) ?_
  dsimp only [lsOf]
  refine V.iconst (pc := 0) d_RR_mirrored_0 ⟨by decide, by decide⟩ ?_
  refine V.aload_n (pc := 1) 0 d_RR_mirrored_1 rfl rfl ?_
  refine V.getf (pc := 2) 0 hC fl_RR_96_Ar d_RR_mirrored_2 hb (Nat.le_of_ble_eq_true rfl) rfl ?_
  refine V.imul (pc := 5) d_RR_mirrored_5 ⟨by omega, by omega⟩ ?_
  refine V.iconst (pc := 6) d_RR_mirrored_6 ⟨by decide, by decide⟩ ?_
  refine V.isub (pc := 7) d_RR_mirrored_7 ⟨by omega, by omega⟩ ?_
  refine V.istore_n (pc := 8) 1 d_RR_mirrored_8 rfl (Nat.le_of_ble_eq_true rfl) rfl ?_
  dsimp only [put]
  refine V.lconst0 (pc := 9) d_RR_mirrored_9 ?_
  refine V.lstore_n (pc := 10) 2 d_RR_mirrored_10 rfl (Nat.le_of_ble_eq_true rfl) rfl ?_
  dsimp only [put]
  refine V.iconst (pc := 11) d_RR_mirrored_11 ⟨by decide, by decide⟩ ?_
  refine V.istore (pc := 12) d_RR_mirrored_12 (Nat.le_of_ble_eq_true rfl) rfl ?_
  dsimp only [put]
  exact lq_RR_mirrored hC b c9 n a hn ha hsg h hb sz _ rfl (2 * n) 0 0 0 (by omega) rfl rfl
