/-! THE CLASS: strips, printed by wip/whole/gen/cls6.py -/
set_option maxRecDepth 20000 in
theorem cc_JA_checkLength (a b : Int) (hab : a ≤ b) (h : MH) (sz : Nat) : Ct M_JA_checkLength 0 0 0 [vI a, vI b] h sz (Det none h sz) := by
  refine Ct.of rfl (Nat.le_of_ble_eq_true rfl) ?_
  dsimp only [lsOf]
  refine V.iload_n (pc := 0) 1 d_JA_checkLength_0 rfl rfl ?_
  refine V.iload_n (pc := 1) 0 d_JA_checkLength_1 rfl rfl ?_
  refine V.icmp_ge (tgt := 37) (pc := 2) d_JA_checkLength_2 (by decide) (fun c_2 => ?_) (fun c_2 => ?_)
  · skip
    refine V.ret (pc := 37) (r := none) d_JA_checkLength_37 rfl rfl ?_
    exact detR
  · skip
    exfalso; omega
set_option maxRecDepth 20000 in
theorem cc_JA_copyOfRangeInt (b t m : Nat) (f : Nat → Int) (i k : Int) (hi : 0 ≤ i ∧ i ≤ k ∧ k ≤ m ∧ k - i ≤ 20) (hm : m ≤ 1000) (h : MH) (hb : h b = some (kA t m f)) (sz : Nat) : Ct M_JA_copyOfRangeInt 2 1 20 [vR b, vI i, vI k] h sz (fun r h2 s => r = some (vR sz) ∧ s = sz + 1 ∧ ∃ g : Nat → Int, h2 = hset h sz (kA 0 (k - i).toNat g) ∧ ∀ q : Nat, q < (k - i).toNat → g q = f (i.toNat + q)) := by
  refine Ct.of rfl (Nat.le_of_ble_eq_true rfl) ?_
  dsimp only [lsOf]
  refine V.fresh (fun hfr => ?_)
  have l1 := hfr _ _ hb
  refine V.iload_n (pc := 0) 1 d_JA_copyOfRangeInt_0 rfl rfl ?_
  refine V.iload_n (pc := 1) 2 d_JA_copyOfRangeInt_1 rfl rfl ?_
  refine V.cS2 (pc := 2) (kc2 := 1) (ks2 := 20) ml_JA_343 (cc_JA_checkLength _ _ (by omega) _ _) d_JA_copyOfRangeInt_2 (Nat.le_of_ble_eq_true rfl) (Nat.le_of_ble_eq_true rfl) (Nat.le_of_ble_eq_true rfl) (Nat.le_of_ble_eq_true rfl) ?_
  rintro _ _ _ ⟨rfl, rfl, rfl⟩
  dsimp only [Option.toList, List.cons_append, List.nil_append]
  refine V.iload_n (pc := 5) 2 d_JA_copyOfRangeInt_5 rfl rfl ?_
  refine V.iload_n (pc := 6) 1 d_JA_copyOfRangeInt_6 rfl rfl ?_
  refine V.isub (pc := 7) d_JA_copyOfRangeInt_7 ⟨by omega, by omega⟩ ?_
  refine V.istore_n (pc := 8) 3 d_JA_copyOfRangeInt_8 rfl (Nat.le_of_ble_eq_true rfl) rfl ?_
  dsimp only [put]
  refine V.iload_n (pc := 9) 3 d_JA_copyOfRangeInt_9 rfl rfl ?_
  refine V.newi (pc := 10) 0 (kc2 := 0) (ks2 := 0) d_JA_copyOfRangeInt_10 (by omega) (by omega) (Nat.le_of_ble_eq_true rfl) (by omega) ?_
  refine V.astore (pc := 12) d_JA_copyOfRangeInt_12 (Nat.le_of_ble_eq_true rfl) rfl ?_
  dsimp only [put]
  refine V.aload_n (pc := 14) 0 d_JA_copyOfRangeInt_14 rfl rfl ?_
  refine V.iload_n (pc := 15) 1 d_JA_copyOfRangeInt_15 rfl rfl ?_
  refine V.aload (pc := 16) d_JA_copyOfRangeInt_16 rfl ?_
  refine V.iconst (pc := 18) d_JA_copyOfRangeInt_18 ⟨by decide, by decide⟩ ?_
  refine V.aload_n (pc := 19) 0 d_JA_copyOfRangeInt_19 rfl rfl ?_
  refine V.alen (pc := 20) d_JA_copyOfRangeInt_20 (hset_o (by omega) hb) ?_
  refine V.iload_n (pc := 21) 1 d_JA_copyOfRangeInt_21 rfl rfl ?_
  refine V.isub (pc := 22) d_JA_copyOfRangeInt_22 ⟨by omega, by omega⟩ ?_
  refine V.iload_n (pc := 23) 3 d_JA_copyOfRangeInt_23 rfl rfl ?_
  refine V.mmin (pc := 24) ml_JA_304 (Nat.le_of_ble_eq_true rfl) (Nat.le_of_ble_eq_true rfl) d_JA_copyOfRangeInt_24 ?_
  rw [show (if (k - i : Int) < (m : Int) - i then k - i else (m : Int) - i) = k - i by split <;> omega]
  refine V.acopy (pc := 27) ml_JA_150 (Nat.le_of_ble_eq_true rfl) (Nat.le_of_ble_eq_true rfl) d_JA_copyOfRangeInt_27 (hset_o (by omega) hb) hset_s (by omega) (by omega) (by omega) (by omega) (by omega) ?_
  rw [hset_tw]
  refine V.aload (pc := 30) d_JA_copyOfRangeInt_30 rfl ?_
  refine V.ret (pc := 32) (r := some (vR _)) d_JA_copyOfRangeInt_32 (Or.inl ⟨_, rfl⟩) rfl ?_
  refine ⟨rfl, rfl, _, rfl, fun q hq => ?_⟩
  unfold cpf
  rw [if_pos (by omega), show (0 : Int).toNat = 0 from rfl, Nat.sub_zero]
set_option maxRecDepth 20000 in
theorem cc_JA_copyOfRange (b t m : Nat) (f : Nat → Int) (i k : Int) (hi : 0 ≤ i ∧ i ≤ k ∧ k ≤ m ∧ k - i ≤ 20) (hm : m ≤ 1000) (h : MH) (hb : h b = some (kA t m f)) (sz : Nat) : Ct M_JA_copyOfRange 3 1 20 [vR b, vI i, vI k] h sz (fun r h2 s => r = some (vR sz) ∧ s = sz + 1 ∧ ∃ g : Nat → Int, h2 = hset h sz (kA 0 (k - i).toNat g) ∧ ∀ q : Nat, q < (k - i).toNat → g q = f (i.toNat + q)) := by
  refine Ct.of rfl (Nat.le_of_ble_eq_true rfl) ?_
  dsimp only [lsOf]
  refine V.fresh (fun hfr => ?_)
  have l1 := hfr _ _ hb
  refine V.iload_n (pc := 0) 1 d_JA_copyOfRange_0 rfl rfl ?_
  refine V.if_ne (tgt := 10) (pc := 1) d_JA_copyOfRange_1 (by decide) (fun c_1 => ?_) (fun c_1 => ?_)
  · skip
    refine V.aload_n (pc := 10) 0 d_JA_copyOfRange_10 rfl rfl ?_
    refine V.iload_n (pc := 11) 1 d_JA_copyOfRange_11 rfl rfl ?_
    refine V.iload_n (pc := 12) 2 d_JA_copyOfRange_12 rfl rfl ?_
    refine V.cS3 (pc := 13) (kc2 := 0) (ks2 := 0) ml_JA_351 (cc_JA_copyOfRangeInt b t m f i k hi hm _ hb _) d_JA_copyOfRange_13 (Nat.le_of_ble_eq_true rfl) (Nat.le_of_ble_eq_true rfl) (Nat.le_of_ble_eq_true rfl) (Nat.le_of_ble_eq_true rfl) ?_
    rintro _ _ _ ⟨rfl, rfl, g, rfl, hg⟩
    dsimp only [Option.toList, List.cons_append, List.nil_append]
    refine V.ret (pc := 16) (r := some (vR _)) d_JA_copyOfRange_16 (Or.inl ⟨_, rfl⟩) rfl ?_
    exact ⟨rfl, rfl, g, rfl, hg⟩
  · skip
    refine V.iload_n (pc := 4) 2 d_JA_copyOfRange_4 rfl rfl ?_
    refine V.aload_n (pc := 5) 0 d_JA_copyOfRange_5 rfl rfl ?_
    refine V.alen (pc := 6) d_JA_copyOfRange_6 hb ?_
    refine V.icmp_eq (tgt := 17) (pc := 7) d_JA_copyOfRange_7 (by decide) (fun c_7 => ?_) (fun c_7 => ?_)
    · skip
      refine V.aload_n (pc := 17) 0 d_JA_copyOfRange_17 rfl rfl ?_
      refine V.aclone (pc := 18) 0 (kc2 := 0) (ks2 := 0) ml_JA_316 (Nat.le_of_ble_eq_true rfl) (Nat.le_of_ble_eq_true rfl) d_JA_copyOfRange_18 hb (Nat.le_of_ble_eq_true rfl) (by omega) ?_
      refine V.castA (pc := 21) cl_JA_317 d_JA_copyOfRange_21 hset_s ?_
      refine V.ret (pc := 24) (r := some (vR _)) d_JA_copyOfRange_24 (Or.inl ⟨_, rfl⟩) rfl ?_
      refine ⟨rfl, rfl, f, by rw [show (k - i).toNat = m by omega], fun q hq => by rw [show i.toNat + q = q by omega]⟩
    · skip
      refine V.aload_n (pc := 10) 0 d_JA_copyOfRange_10 rfl rfl ?_
      refine V.iload_n (pc := 11) 1 d_JA_copyOfRange_11 rfl rfl ?_
      refine V.iload_n (pc := 12) 2 d_JA_copyOfRange_12 rfl rfl ?_
      refine V.cS3 (pc := 13) (kc2 := 0) (ks2 := 0) ml_JA_351 (cc_JA_copyOfRangeInt b t m f i k hi hm _ hb _) d_JA_copyOfRange_13 (Nat.le_of_ble_eq_true rfl) (Nat.le_of_ble_eq_true rfl) (Nat.le_of_ble_eq_true rfl) (Nat.le_of_ble_eq_true rfl) ?_
      rintro _ _ _ ⟨rfl, rfl, g, rfl, hg⟩
      dsimp only [Option.toList, List.cons_append, List.nil_append]
      refine V.ret (pc := 16) (r := some (vR _)) d_JA_copyOfRange_16 (Or.inl ⟨_, rfl⟩) rfl ?_
      exact ⟨rfl, rfl, g, rfl, hg⟩
set_option maxRecDepth 20000 in
theorem cc_JA_copyOf (b t m : Nat) (f : Nat → Int) (k : Int) (hk : 0 ≤ k ∧ k ≤ m ∧ k ≤ 20) (hm : m ≤ 1000) (h : MH) (hb : h b = some (kA t m f)) (sz : Nat) : Ct M_JA_copyOf 2 1 20 [vR b, vI k] h sz (fun r h2 s => r = some (vR sz) ∧ s = sz + 1 ∧ ∃ g : Nat → Int, h2 = hset h sz (kA 0 k.toNat g) ∧ ∀ q : Nat, q < k.toNat → g q = f q) := by
  refine Ct.of rfl (Nat.le_of_ble_eq_true rfl) ?_
  dsimp only [lsOf]
  refine V.fresh (fun hfr => ?_)
  have l1 := hfr _ _ hb
  refine V.iload_n (pc := 0) 1 d_JA_copyOf_0 rfl rfl ?_
  refine V.aload_n (pc := 1) 0 d_JA_copyOf_1 rfl rfl ?_
  refine V.alen (pc := 2) d_JA_copyOf_2 hb ?_
  refine V.icmp_ne (tgt := 14) (pc := 3) d_JA_copyOf_3 (by decide) (fun c_3 => ?_) (fun c_3 => ?_)
  · skip
    refine V.iload_n (pc := 14) 1 d_JA_copyOf_14 rfl rfl ?_
    refine V.newi (pc := 15) 0 (kc2 := 0) (ks2 := 0) d_JA_copyOf_15 (by omega) (by omega) (Nat.le_of_ble_eq_true rfl) (by omega) ?_
    refine V.astore_n (pc := 17) 2 d_JA_copyOf_17 rfl (Nat.le_of_ble_eq_true rfl) rfl ?_
    dsimp only [put]
    refine V.aload_n (pc := 18) 0 d_JA_copyOf_18 rfl rfl ?_
    refine V.iconst (pc := 19) d_JA_copyOf_19 ⟨by decide, by decide⟩ ?_
    refine V.aload_n (pc := 20) 2 d_JA_copyOf_20 rfl rfl ?_
    refine V.iconst (pc := 21) d_JA_copyOf_21 ⟨by decide, by decide⟩ ?_
    refine V.aload_n (pc := 22) 0 d_JA_copyOf_22 rfl rfl ?_
    refine V.alen (pc := 23) d_JA_copyOf_23 (hset_o (by omega) hb) ?_
    refine V.iload_n (pc := 24) 1 d_JA_copyOf_24 rfl rfl ?_
    refine V.mmin (pc := 25) ml_JA_304 (Nat.le_of_ble_eq_true rfl) (Nat.le_of_ble_eq_true rfl) d_JA_copyOf_25 ?_
    rw [show (if k < (m : Int) then k else (m : Int)) = k by split <;> omega]
    refine V.acopy (pc := 28) ml_JA_150 (Nat.le_of_ble_eq_true rfl) (Nat.le_of_ble_eq_true rfl) d_JA_copyOf_28 (hset_o (by omega) hb) hset_s (by omega) (by omega) (by omega) (by omega) (by omega) ?_
    rw [hset_tw]
    refine V.aload_n (pc := 31) 2 d_JA_copyOf_31 rfl rfl ?_
    refine V.ret (pc := 32) (r := some (vR _)) d_JA_copyOf_32 (Or.inl ⟨_, rfl⟩) rfl ?_
    refine ⟨rfl, rfl, _, rfl, fun q hq => ?_⟩
    unfold cpf
    rw [if_pos (by omega), show (0 : Int).toNat = 0 from rfl, Nat.sub_zero, Nat.zero_add]
  · skip
    refine V.aload_n (pc := 6) 0 d_JA_copyOf_6 rfl rfl ?_
    refine V.aclone (pc := 7) 0 (kc2 := 0) (ks2 := 0) ml_JA_316 (Nat.le_of_ble_eq_true rfl) (Nat.le_of_ble_eq_true rfl) d_JA_copyOf_7 hb (Nat.le_of_ble_eq_true rfl) (by omega) ?_
    refine V.castA (pc := 10) cl_JA_317 d_JA_copyOf_10 hset_s ?_
    refine V.ret (pc := 13) (r := some (vR _)) d_JA_copyOf_13 (Or.inl ⟨_, rfl⟩) rfl ?_
    exact ⟨rfl, rfl, f, by rw [show k.toNat = m by omega], fun q hq => rfl⟩
set_option maxRecDepth 20000 in
theorem lq_RR_firstClash (c t n i : Nat) (f : Nat → Int) (hi : i + 1 < n) (hn : n ≤ 20) (hf : ∀ s, s < n → 0 ≤ f s ∧ f s ≤ 20) (h : MH) (hc : h c = some (kA t n f)) (sz : Nat) (ii lo hg : Int) (hbw : ∀ k, (lo < f k ∧ f k < hg) ↔ btw f i k) : ∀ (c2 j : Nat) (jj : Int), n ≤ j + c2 + 1 → jj = j → (i + 2 ≤ j ∧ (j - i) % 2 = 0) → (∀ j2, j2 < j → ¬ clashAt f n i j2) → j ≤ 40 →
    V M_RR_firstClashWith 1 29 [some (vI ii), some (vR c), some (vI lo), some (vI hg), some (vI jj)] [] h sz 0 0 (fun r h2 s => h2 = h ∧ s = sz ∧ ((∃ j : Nat, clashAt f n i j ∧ r = some (vI (j : Int)) ∧ ∀ j2, clashAt f n i j2 → j ≤ j2) ∨ (r = some (vI (-1000000)) ∧ ∀ j, ¬ clashAt f n i j))) := by
  intro c2
  induction c2 with
  | zero =>
    intro j jj hcc hjj hij hno hj40
    refine V.iload (pc := 29) d_RR_firstClashWith_29 rfl ?_
    refine V.aload_n (pc := 31) 1 d_RR_firstClashWith_31 rfl rfl ?_
    refine V.alen (pc := 32) d_RR_firstClashWith_32 hc ?_
    refine V.iconst (pc := 33) d_RR_firstClashWith_33 ⟨by decide, by decide⟩ ?_
    refine V.isub (pc := 34) d_RR_firstClashWith_34 ⟨by omega, by omega⟩ ?_
    refine V.icmp_ge (tgt := 70) (pc := 35) d_RR_firstClashWith_35 (by decide) (fun c_35 => ?_) (fun c_35 => ?_)
    · skip
      refine V.ldc (pc := 70) (-1000000) ck_RR_117 rfl ⟨by decide, by decide⟩ d_RR_firstClashWith_70 ?_
      refine V.ret (pc := 72) (r := some (vI _)) d_RR_firstClashWith_72 (Or.inl rfl) rfl ?_
      exact ⟨rfl, rfl, Or.inr ⟨rfl, fun j2 z => by by_cases e : j2 < j; exact hno j2 e z; obtain ⟨z1, z2, z3, z4⟩ := z; omega⟩⟩
    · skip
      exfalso; omega
  | succ c2 ih =>
    intro j jj hcc hjj hij hno hj40
    by_cases hlt : n ≤ j + 1
    · skip
      refine V.iload (pc := 29) d_RR_firstClashWith_29 rfl ?_
      refine V.aload_n (pc := 31) 1 d_RR_firstClashWith_31 rfl rfl ?_
      refine V.alen (pc := 32) d_RR_firstClashWith_32 hc ?_
      refine V.iconst (pc := 33) d_RR_firstClashWith_33 ⟨by decide, by decide⟩ ?_
      refine V.isub (pc := 34) d_RR_firstClashWith_34 ⟨by omega, by omega⟩ ?_
      refine V.icmp_ge (tgt := 70) (pc := 35) d_RR_firstClashWith_35 (by decide) (fun c_35 => ?_) (fun c_35 => ?_)
      · skip
        refine V.ldc (pc := 70) (-1000000) ck_RR_117 rfl ⟨by decide, by decide⟩ d_RR_firstClashWith_70 ?_
        refine V.ret (pc := 72) (r := some (vI _)) d_RR_firstClashWith_72 (Or.inl rfl) rfl ?_
        exact ⟨rfl, rfl, Or.inr ⟨rfl, fun j2 z => by by_cases e : j2 < j; exact hno j2 e z; obtain ⟨z1, z2, z3, z4⟩ := z; omega⟩⟩
      · skip
        exfalso; omega
    · skip
      refine V.iload (pc := 29) d_RR_firstClashWith_29 rfl ?_
      refine V.aload_n (pc := 31) 1 d_RR_firstClashWith_31 rfl rfl ?_
      refine V.alen (pc := 32) d_RR_firstClashWith_32 hc ?_
      refine V.iconst (pc := 33) d_RR_firstClashWith_33 ⟨by decide, by decide⟩ ?_
      refine V.isub (pc := 34) d_RR_firstClashWith_34 ⟨by omega, by omega⟩ ?_
      refine V.icmp_ge (tgt := 70) (pc := 35) d_RR_firstClashWith_35 (by decide) (fun c_35 => ?_) (fun c_35 => ?_)
      · skip
        exfalso; omega
      · skip
        have b1 := hf j (by omega)
        have b2 := hf (j + 1) (by omega)
        refine V.aload_n (pc := 38) 1 d_RR_firstClashWith_38 rfl rfl ?_
        refine V.iload (pc := 39) d_RR_firstClashWith_39 rfl ?_
        refine V.iald (pc := 41) d_RR_firstClashWith_41 hc (by omega) (by omega) ?_
        rw [show jj.toNat = j by omega]
        refine V.iload_n (pc := 42) 2 d_RR_firstClashWith_42 rfl rfl ?_
        refine V.iload_n (pc := 43) 3 d_RR_firstClashWith_43 rfl rfl ?_
        refine V.cS3 (pc := 44) (kc2 := 0) (ks2 := 0) ml_RR_295 (cc_RR_isBetween _ _ _ _ _) d_RR_firstClashWith_44 (Nat.le_of_ble_eq_true rfl) (Nat.le_of_ble_eq_true rfl) (Nat.le_of_ble_eq_true rfl) (Nat.le_of_ble_eq_true rfl) ?_
        rintro _ _ _ ⟨rfl, rfl, rfl⟩
        dsimp only [Option.toList, List.cons_append, List.nil_append]
        refine V.aload_n (pc := 47) 1 d_RR_firstClashWith_47 rfl rfl ?_
        refine V.iload (pc := 48) d_RR_firstClashWith_48 rfl ?_
        refine V.iconst (pc := 50) d_RR_firstClashWith_50 ⟨by decide, by decide⟩ ?_
        refine V.iadd (pc := 51) d_RR_firstClashWith_51 ⟨by omega, by omega⟩ ?_
        refine V.iald (pc := 52) d_RR_firstClashWith_52 hc (by omega) (by omega) ?_
        rw [show (jj + 1).toNat = j + 1 by omega]
        refine V.iload_n (pc := 53) 2 d_RR_firstClashWith_53 rfl rfl ?_
        refine V.iload_n (pc := 54) 3 d_RR_firstClashWith_54 rfl rfl ?_
        refine V.cS3 (pc := 55) (kc2 := 0) (ks2 := 0) ml_RR_295 (cc_RR_isBetween _ _ _ _ _) d_RR_firstClashWith_55 (Nat.le_of_ble_eq_true rfl) (Nat.le_of_ble_eq_true rfl) (Nat.le_of_ble_eq_true rfl) (Nat.le_of_ble_eq_true rfl) ?_
        rintro _ _ _ ⟨rfl, rfl, rfl⟩
        dsimp only [Option.toList, List.cons_append, List.nil_append]
        refine V.icmp_eq (tgt := 64) (pc := 58) d_RR_firstClashWith_58 (by decide) (fun c_58 => ?_) (fun c_58 => ?_)
        · skip
          refine V.iinc (pc := 64) d_RR_firstClashWith_64 rfl ⟨by omega, by omega⟩ (Nat.le_of_ble_eq_true rfl) rfl ?_
          dsimp only [put]
          refine V.goto (tgt := 29) (pc := 67) d_RR_firstClashWith_67 (by decide) ?_
          refine ih (j + 2) _ (by omega) (by omega) (by omega) (fun j2 hj2 z => ?_) (by omega)
          by_cases e : j2 < j
          · exact hno j2 e z
          · obtain ⟨z1, z2, z3, z4⟩ := z
            rw [show j2 = j by omega] at z4
            simp only [hbw] at c_58
            by_cases e1 : btw f i j <;> by_cases e2 : btw f i (j + 1) <;> simp_all
        · skip
          refine V.iload (pc := 61) d_RR_firstClashWith_61 rfl ?_
          refine V.ret (pc := 63) (r := some (vI _)) d_RR_firstClashWith_63 (Or.inl rfl) rfl ?_
          refine ⟨rfl, rfl, Or.inl ⟨j, ⟨by omega, by omega, by omega, fun z => ?_⟩, by rw [hjj], fun j2 hj2 => ?_⟩⟩
          · simp only [hbw] at c_58
            simp only [z] at c_58
            exact c_58 rfl
          · by_cases e : j2 < j
            · exact absurd hj2 (hno j2 e)
            · omega
set_option maxRecDepth 20000 in
theorem cc_RR_firstClashWith (c t n i : Nat) (f : Nat → Int) (hi : i + 1 < n) (hn : n ≤ 20) (hf : ∀ s, s < n → 0 ≤ f s ∧ f s ≤ 20) (h : MH) (hc : h c = some (kA t n f)) (sz : Nat) : Ct M_RR_firstClashWith 1 0 0 [vI (i : Int), vR c] h sz (fun r h2 s => h2 = h ∧ s = sz ∧ ((∃ j : Nat, clashAt f n i j ∧ r = some (vI (j : Int)) ∧ ∀ j2, clashAt f n i j2 → j ≤ j2) ∨ (r = some (vI (-1000000)) ∧ ∀ j, ¬ clashAt f n i j))) := by
  refine Ct.of rfl (Nat.le_of_ble_eq_true rfl) ?_
  dsimp only [lsOf]
  refine V.aload_n (pc := 0) 1 d_RR_firstClashWith_0 rfl rfl ?_
  refine V.iload_n (pc := 1) 0 d_RR_firstClashWith_1 rfl rfl ?_
  refine V.iald (pc := 2) d_RR_firstClashWith_2 hc (by omega) (by omega) ?_
  refine V.aload_n (pc := 3) 1 d_RR_firstClashWith_3 rfl rfl ?_
  refine V.iload_n (pc := 4) 0 d_RR_firstClashWith_4 rfl rfl ?_
  refine V.iconst (pc := 5) d_RR_firstClashWith_5 ⟨by decide, by decide⟩ ?_
  refine V.iadd (pc := 6) d_RR_firstClashWith_6 ⟨by omega, by omega⟩ ?_
  refine V.iald (pc := 7) d_RR_firstClashWith_7 hc (by omega) (by omega) ?_
  rw [show (i : Int).toNat = i by omega, show ((i : Int) + 1).toNat = i + 1 by omega]
  refine V.mmin (pc := 8) ml_RR_287 (Nat.le_of_ble_eq_true rfl) (Nat.le_of_ble_eq_true rfl) d_RR_firstClashWith_8 ?_
  refine V.istore_n (pc := 11) 2 d_RR_firstClashWith_11 rfl (Nat.le_of_ble_eq_true rfl) rfl ?_
  dsimp only [put]
  refine V.aload_n (pc := 12) 1 d_RR_firstClashWith_12 rfl rfl ?_
  refine V.iload_n (pc := 13) 0 d_RR_firstClashWith_13 rfl rfl ?_
  refine V.iald (pc := 14) d_RR_firstClashWith_14 hc (by omega) (by omega) ?_
  refine V.aload_n (pc := 15) 1 d_RR_firstClashWith_15 rfl rfl ?_
  refine V.iload_n (pc := 16) 0 d_RR_firstClashWith_16 rfl rfl ?_
  refine V.iconst (pc := 17) d_RR_firstClashWith_17 ⟨by decide, by decide⟩ ?_
  refine V.iadd (pc := 18) d_RR_firstClashWith_18 ⟨by omega, by omega⟩ ?_
  refine V.iald (pc := 19) d_RR_firstClashWith_19 hc (by omega) (by omega) ?_
  rw [show (i : Int).toNat = i by omega, show ((i : Int) + 1).toNat = i + 1 by omega]
  refine V.mmax (pc := 20) ml_RR_292 (Nat.le_of_ble_eq_true rfl) (Nat.le_of_ble_eq_true rfl) d_RR_firstClashWith_20 ?_
  refine V.istore_n (pc := 23) 3 d_RR_firstClashWith_23 rfl (Nat.le_of_ble_eq_true rfl) rfl ?_
  dsimp only [put]
  refine V.iload_n (pc := 24) 0 d_RR_firstClashWith_24 rfl rfl ?_
  refine V.iconst (pc := 25) d_RR_firstClashWith_25 ⟨by decide, by decide⟩ ?_
  refine V.iadd (pc := 26) d_RR_firstClashWith_26 ⟨by omega, by omega⟩ ?_
  refine V.istore (pc := 27) d_RR_firstClashWith_27 (Nat.le_of_ble_eq_true rfl) rfl ?_
  dsimp only [put]
  refine lq_RR_firstClash c t n i f hi hn hf h hc sz _ _ _ (fun k => ?_) n (i + 2) _ (by omega) (by omega) (by omega) (fun j2 hj2 z => by obtain ⟨z1, z2, z3, z4⟩ := z; omega) (by omega)
  unfold btw
  split <;> split <;> omega
set_option maxRecDepth 20000 in
theorem ci_St_init_St (a : Nat) (b p9 : Nat) (x y : Int) (t n : Nat) (f : Nat → Int) (hne : b ≠ a) (h : MH) (ha : h a = some (kO 9 d0_St)) (hb : h b = some (kA t n f)) (sz : Nat) : Ct M_St_init 3 0 0 [vR a, vR b, vR p9, vI x, vI y] h sz (Det none (hset h a (kO 9 [vI (n : Int), vR b, vR p9, vI x, vI y])) sz) := by
  refine Ct.of rfl (Nat.le_of_ble_eq_true rfl) ?_
  dsimp only [lsOf]
  refine V.aload_n (pc := 0) 0 d_St_init_0 rfl rfl ?_
  refine V.aload_n (pc := 1) 1 d_St_init_1 rfl rfl ?_
  refine V.alen (pc := 2) d_St_init_2 hb ?_
  refine V.cI1 (pc := 3) (kc2 := 0) (ks2 := 0) ml_St_1 (ci_Th_init_St _ _ _ ha _) d_St_init_3 (Nat.le_of_ble_eq_true rfl) (Nat.le_of_ble_eq_true rfl) (Nat.le_of_ble_eq_true rfl) (Nat.le_of_ble_eq_true rfl) ?_
  rintro _ _ _ ⟨rfl, rfl, rfl⟩
  dsimp only [Option.toList, List.cons_append, List.nil_append]
  refine V.aload_n (pc := 6) 0 d_St_init_6 rfl rfl ?_
  refine V.aload_n (pc := 7) 1 d_St_init_7 rfl rfl ?_
  refine V.putF (pc := 8) 1 cl_St fl_St_7_St d_St_init_8 hset_s (Nat.le_of_ble_eq_true rfl) (Nat.le_of_ble_eq_true rfl) rfl rfl rfl (fun _ => ⟨rfl, rfl⟩) ?_
  dsimp only [List.set]
  refine V.aload_n (pc := 11) 0 d_St_init_11 rfl rfl ?_
  refine V.aload_n (pc := 12) 2 d_St_init_12 rfl rfl ?_
  refine V.putF (pc := 13) 2 cl_St fl_St_13_St d_St_init_13 hset_s (Nat.le_of_ble_eq_true rfl) (Nat.le_of_ble_eq_true rfl) rfl rfl rfl (fun _ => ⟨rfl, rfl⟩) ?_
  dsimp only [List.set]
  refine V.aload_n (pc := 16) 0 d_St_init_16 rfl rfl ?_
  refine V.iload_n (pc := 17) 3 d_St_init_17 rfl rfl ?_
  refine V.putF (pc := 18) 3 cl_St fl_St_16_St d_St_init_18 hset_s (Nat.le_of_ble_eq_true rfl) (Nat.le_of_ble_eq_true rfl) rfl rfl rfl (fun _ => ⟨rfl, rfl⟩) ?_
  dsimp only [List.set]
  refine V.aload_n (pc := 21) 0 d_St_init_21 rfl rfl ?_
  refine V.iload (pc := 22) d_St_init_22 rfl ?_
  refine V.putF (pc := 24) 4 cl_St fl_St_20_St d_St_init_24 hset_s (Nat.le_of_ble_eq_true rfl) (Nat.le_of_ble_eq_true rfl) rfl rfl rfl (fun _ => ⟨rfl, rfl⟩) ?_
  dsimp only [List.set]
  refine V.ret (pc := 27) (r := none) d_St_init_27 rfl rfl ?_
  try simp only [hset_tw]
  exact detR
set_option maxRecDepth 20000 in
theorem ci_St_init_Fo (a : Nat) (b p9 : Nat) (x y : Int) (t n : Nat) (f : Nat → Int) (hne : b ≠ a) (h : MH) (ha : h a = some (kO 10 d0_St)) (hb : h b = some (kA t n f)) (sz : Nat) : Ct M_St_init 3 0 0 [vR a, vR b, vR p9, vI x, vI y] h sz (Det none (hset h a (kO 10 [vI (n : Int), vR b, vR p9, vI x, vI y])) sz) := by
  refine Ct.of rfl (Nat.le_of_ble_eq_true rfl) ?_
  dsimp only [lsOf]
  refine V.aload_n (pc := 0) 0 d_St_init_0 rfl rfl ?_
  refine V.aload_n (pc := 1) 1 d_St_init_1 rfl rfl ?_
  refine V.alen (pc := 2) d_St_init_2 hb ?_
  refine V.cI1 (pc := 3) (kc2 := 0) (ks2 := 0) ml_St_1 (ci_Th_init_Fo _ _ _ ha _) d_St_init_3 (Nat.le_of_ble_eq_true rfl) (Nat.le_of_ble_eq_true rfl) (Nat.le_of_ble_eq_true rfl) (Nat.le_of_ble_eq_true rfl) ?_
  rintro _ _ _ ⟨rfl, rfl, rfl⟩
  dsimp only [Option.toList, List.cons_append, List.nil_append]
  refine V.aload_n (pc := 6) 0 d_St_init_6 rfl rfl ?_
  refine V.aload_n (pc := 7) 1 d_St_init_7 rfl rfl ?_
  refine V.putF (pc := 8) 1 cl_Fo fl_St_7_St d_St_init_8 hset_s (Nat.le_of_ble_eq_true rfl) (Nat.le_of_ble_eq_true rfl) rfl rfl rfl (fun _ => ⟨rfl, rfl⟩) ?_
  dsimp only [List.set]
  refine V.aload_n (pc := 11) 0 d_St_init_11 rfl rfl ?_
  refine V.aload_n (pc := 12) 2 d_St_init_12 rfl rfl ?_
  refine V.putF (pc := 13) 2 cl_Fo fl_St_13_St d_St_init_13 hset_s (Nat.le_of_ble_eq_true rfl) (Nat.le_of_ble_eq_true rfl) rfl rfl rfl (fun _ => ⟨rfl, rfl⟩) ?_
  dsimp only [List.set]
  refine V.aload_n (pc := 16) 0 d_St_init_16 rfl rfl ?_
  refine V.iload_n (pc := 17) 3 d_St_init_17 rfl rfl ?_
  refine V.putF (pc := 18) 3 cl_Fo fl_St_16_St d_St_init_18 hset_s (Nat.le_of_ble_eq_true rfl) (Nat.le_of_ble_eq_true rfl) rfl rfl rfl (fun _ => ⟨rfl, rfl⟩) ?_
  dsimp only [List.set]
  refine V.aload_n (pc := 21) 0 d_St_init_21 rfl rfl ?_
  refine V.iload (pc := 22) d_St_init_22 rfl ?_
  refine V.putF (pc := 24) 4 cl_Fo fl_St_20_St d_St_init_24 hset_s (Nat.le_of_ble_eq_true rfl) (Nat.le_of_ble_eq_true rfl) rfl rfl rfl (fun _ => ⟨rfl, rfl⟩) ?_
  dsimp only [List.set]
  refine V.ret (pc := 27) (r := none) d_St_init_27 rfl rfl ?_
  try simp only [hset_tw]
  exact detR
set_option maxRecDepth 20000 in
theorem ci_Fo_init (a : Nat) (b p9 : Nat) (t n : Nat) (f : Nat → Int) (hne : b ≠ a) (h : MH) (ha : h a = some (kO 10 d0_St)) (hb : h b = some (kA t n f)) (sz : Nat) : Ct M_Fo_init 4 0 0 [vR a, vR b, vR p9] h sz (Det none (hset h a (kO 10 [vI (n : Int), vR b, vR p9, vI (-1000000), vI (-1000000)])) sz) := by
  refine Ct.of rfl (Nat.le_of_ble_eq_true rfl) ?_
  dsimp only [lsOf]
  refine V.aload_n (pc := 0) 0 d_Fo_init_0 rfl rfl ?_
  refine V.aload_n (pc := 1) 1 d_Fo_init_1 rfl rfl ?_
  refine V.aload_n (pc := 2) 2 d_Fo_init_2 rfl rfl ?_
  refine V.ldc (pc := 3) (-1000000) ck_Fo_3 rfl ⟨by decide, by decide⟩ d_Fo_init_3 ?_
  refine V.ldc (pc := 5) (-1000000) ck_Fo_3 rfl ⟨by decide, by decide⟩ d_Fo_init_5 ?_
  refine V.cI4 (pc := 7) (kc2 := 0) (ks2 := 0) ml_Fo_4 (ci_St_init_Fo _ _ _ _ _ t n f hne _ ha hb _) d_Fo_init_7 (Nat.le_of_ble_eq_true rfl) (Nat.le_of_ble_eq_true rfl) (Nat.le_of_ble_eq_true rfl) (Nat.le_of_ble_eq_true rfl) ?_
  rintro _ _ _ ⟨rfl, rfl, rfl⟩
  dsimp only [Option.toList, List.cons_append, List.nil_append]
  refine V.ret (pc := 10) (r := none) d_Fo_init_10 rfl rfl ?_
  exact detR
def QSt (b n : Nat) (s : Nat → Int) (h : MH) (sz : Nat) : QT := fun r h2 s9 => r = some (vR (sz + 1)) ∧ s9 = sz + 2 ∧ ∃ (ps : Nat → Int) (x y k : Int), h2 = hset (hset h sz (kA 0 n ps)) (sz + 1) (kO (if k = 8 then 10 else 9) [vI (n : Int), vR b, vR sz, vI x, vI y]) ∧ isPos s ps n ∧ firstClash ps n x y ∧ ((k = 8 ∧ noClash ps n) ∨ (k = 7 ∧ ¬ noClash ps n))
theorem pos_rng {s ps : Nat → Int} {n : Nat} (hp : isPerm s n) (h : isPos s ps n) (hn : n ≤ 20) : ∀ x, x < n → 0 ≤ ps x ∧ ps x ≤ 20 := by
  intro x hx
  obtain ⟨k, hk, e⟩ := perm_onto hp hx
  have := h k hk
  rw [e, Int.toNat_natCast] at this
  rw [this]; omega
set_option maxRecDepth 20000 in
theorem lq_RR_stripOf2 (sz : Nat) (b t n : Nat) (s : Nat → Int) (hn : 1 ≤ n ∧ n ≤ 20) (hpm : isPerm s n) (h : MH) (hb : h b = some (kA t n s)) (hbs : b < sz) (ps : Nat → Int) (hps : isPos s ps n) : ∀ (c i : Nat) (ii : Int) (x : Option MV), i + c + 1 = n → ii = i → (∀ i2 j2, i2 < i → ¬ clashAt ps n i2 j2) →
    V M_RR_stripOf 5 27 [some (vR b), some (vR sz), some (vI ii), x] [] (hset h sz (kA 0 n ps)) (sz + 1) 1 5 (QSt b n s h sz) := by
  intro c
  induction c with
  | zero =>
    intro i ii x hc hii hno
    refine V.iload_n (pc := 27) 2 d_RR_stripOf_27 rfl rfl ?_
    refine V.aload_n (pc := 28) 0 d_RR_stripOf_28 rfl rfl ?_
    refine V.alen (pc := 29) d_RR_stripOf_29 (hset_o (by omega) hb) ?_
    refine V.iconst (pc := 30) d_RR_stripOf_30 ⟨by decide, by decide⟩ ?_
    refine V.isub (pc := 31) d_RR_stripOf_31 ⟨by omega, by omega⟩ ?_
    refine V.icmp_ge (tgt := 65) (pc := 32) d_RR_stripOf_32 (by decide) (fun c_32 => ?_) (fun c_32 => ?_)
    · skip
      refine V.new (pc := 65) d0_St (kc2 := 0) (ks2 := 0) cl_Fo cl_RR_237 nw_Fo.1 nw_Fo.2 d_RR_stripOf_65 df_St ok_St (Nat.le_of_ble_eq_true rfl) (Nat.le_of_ble_eq_true rfl) ?_
      refine V.dup (pc := 68) d_RR_stripOf_68 (fun _ => rfl) ?_
      refine V.aload_n (pc := 69) 0 d_RR_stripOf_69 rfl rfl ?_
      refine V.aload_n (pc := 70) 1 d_RR_stripOf_70 rfl rfl ?_
      refine V.cI2 (pc := 71) (kc2 := 0) (ks2 := 0) ml_RR_284 (ci_Fo_init (sz + 1) b sz t n s (by omega) _ hset_s (hset_o (by omega) (hset_o (by omega) hb)) _) d_RR_stripOf_71 (Nat.le_of_ble_eq_true rfl) (Nat.le_of_ble_eq_true rfl) (Nat.le_of_ble_eq_true rfl) (Nat.le_of_ble_eq_true rfl) ?_
      rintro _ _ _ ⟨rfl, rfl, rfl⟩
      dsimp only [Option.toList, List.cons_append, List.nil_append]
      refine V.ret (pc := 74) (r := some (vR _)) d_RR_stripOf_74 (Or.inr ⟨_, rfl⟩) rfl ?_
      simp only [hset_tw]
      have hnc : noClash ps n := fun i2 j2 z => by
        have := z.1
        have := z.2.1
        exact hno i2 j2 (by omega) z
      exact ⟨rfl, rfl, ps, -1000000, -1000000, 8, by rw [if_pos rfl], hps, Or.inl ⟨hnc, rfl, rfl⟩, Or.inl ⟨rfl, hnc⟩⟩
    · skip
      exfalso; omega
  | succ c ih =>
    intro i ii x hc hii hno
    refine V.iload_n (pc := 27) 2 d_RR_stripOf_27 rfl rfl ?_
    refine V.aload_n (pc := 28) 0 d_RR_stripOf_28 rfl rfl ?_
    refine V.alen (pc := 29) d_RR_stripOf_29 (hset_o (by omega) hb) ?_
    refine V.iconst (pc := 30) d_RR_stripOf_30 ⟨by decide, by decide⟩ ?_
    refine V.isub (pc := 31) d_RR_stripOf_31 ⟨by omega, by omega⟩ ?_
    refine V.icmp_ge (tgt := 65) (pc := 32) d_RR_stripOf_32 (by decide) (fun c_32 => ?_) (fun c_32 => ?_)
    · skip
      exfalso; omega
    · skip
      refine V.iload_n (pc := 35) 2 d_RR_stripOf_35 rfl rfl ?_
      refine V.aload_n (pc := 36) 1 d_RR_stripOf_36 rfl rfl ?_
      have ei : (vI ii : MV) = vI (i : Int) := by rw [hii]
      rw [ei]
      refine V.cS2 (pc := 37) (kc2 := 1) (ks2 := 5) ml_RR_277 (cc_RR_firstClashWith sz 0 n i ps (by omega) (by omega) (pos_rng hpm hps (by omega)) _ hset_s _) d_RR_stripOf_37 (Nat.le_of_ble_eq_true rfl) (Nat.le_of_ble_eq_true rfl) (Nat.le_of_ble_eq_true rfl) (Nat.le_of_ble_eq_true rfl) ?_
      rintro r9 _ _ ⟨rfl, rfl, hcl⟩
      rcases hcl with ⟨j, hj, rfl, hjm⟩ | ⟨rfl, hnc⟩
      · skip
        dsimp only [Option.toList, List.cons_append, List.nil_append]
        refine V.istore_n (pc := 40) 3 d_RR_stripOf_40 rfl (Nat.le_of_ble_eq_true rfl) rfl ?_
        dsimp only [put]
        refine V.iload_n (pc := 41) 3 d_RR_stripOf_41 rfl rfl ?_
        refine V.ldc (pc := 42) (-1000000) ck_RR_117 rfl ⟨by decide, by decide⟩ d_RR_stripOf_42 ?_
        refine V.icmp_eq (tgt := 59) (pc := 44) d_RR_stripOf_44 (by decide) (fun c_44 => ?_) (fun c_44 => ?_)
        · skip
          exfalso; have := hj.1; omega
        · skip
          refine V.new (pc := 47) d0_St (kc2 := 0) (ks2 := 0) cl_St cl_RR_205 nw_St.1 nw_St.2 d_RR_stripOf_47 df_St ok_St (Nat.le_of_ble_eq_true rfl) (Nat.le_of_ble_eq_true rfl) ?_
          refine V.dup (pc := 50) d_RR_stripOf_50 (fun _ => rfl) ?_
          refine V.aload_n (pc := 51) 0 d_RR_stripOf_51 rfl rfl ?_
          refine V.aload_n (pc := 52) 1 d_RR_stripOf_52 rfl rfl ?_
          refine V.iload_n (pc := 53) 2 d_RR_stripOf_53 rfl rfl ?_
          refine V.iload_n (pc := 54) 3 d_RR_stripOf_54 rfl rfl ?_
          refine V.cI4 (pc := 55) (kc2 := 0) (ks2 := 0) ml_RR_281 (ci_St_init_St (sz + 1) b sz _ _ t n s (by omega) _ hset_s (hset_o (by omega) (hset_o (by omega) hb)) _) d_RR_stripOf_55 (Nat.le_of_ble_eq_true rfl) (Nat.le_of_ble_eq_true rfl) (Nat.le_of_ble_eq_true rfl) (Nat.le_of_ble_eq_true rfl) ?_
          rintro _ _ _ ⟨rfl, rfl, rfl⟩
          dsimp only [Option.toList, List.cons_append, List.nil_append]
          refine V.ret (pc := 58) (r := some (vR _)) d_RR_stripOf_58 (Or.inr ⟨_, rfl⟩) rfl ?_
          simp only [hset_tw]
          refine ⟨rfl, rfl, ps, i, j, 7, ?_, hps, Or.inr ⟨i, j, hj, rfl, rfl, fun i2 j2 h2 => ?_⟩, Or.inr ⟨rfl, fun z => z i j hj⟩⟩
          · rw [if_neg (by decide)]
          · by_cases e : i2 < i
            · exact absurd h2 (hno i2 j2 e)
            · by_cases e2 : i2 = i
              · rw [e2] at h2; have := hjm j2 h2; omega
              · omega
      · skip
        dsimp only [Option.toList, List.cons_append, List.nil_append]
        refine V.istore_n (pc := 40) 3 d_RR_stripOf_40 rfl (Nat.le_of_ble_eq_true rfl) rfl ?_
        dsimp only [put]
        refine V.iload_n (pc := 41) 3 d_RR_stripOf_41 rfl rfl ?_
        refine V.ldc (pc := 42) (-1000000) ck_RR_117 rfl ⟨by decide, by decide⟩ d_RR_stripOf_42 ?_
        refine V.icmp_eq (tgt := 59) (pc := 44) d_RR_stripOf_44 (by decide) (fun c_44 => ?_) (fun c_44 => ?_)
        · skip
          refine V.iinc (pc := 59) d_RR_stripOf_59 rfl ⟨by omega, by omega⟩ (Nat.le_of_ble_eq_true rfl) rfl ?_
          dsimp only [put]
          refine V.goto (tgt := 27) (pc := 62) d_RR_stripOf_62 (by decide) ?_
          try rw [← ei]
          refine ih (i + 1) _ _ (by omega) (by omega) (fun i2 j2 h2 z => ?_)
          by_cases e : i2 = i
          · rw [e] at z; exact hnc j2 z
          · exact hno i2 j2 (by omega) z
        · skip
          exact absurd rfl c_44
set_option maxRecDepth 20000 in
theorem lq_RR_stripOf1 (sz : Nat) (b t n : Nat) (s : Nat → Int) (hn : 1 ≤ n ∧ n ≤ 20) (hpm : isPerm s n) (h : MH) (hb : h b = some (kA t n s)) (hbs : b < sz) : ∀ (c k : Nat) (kk : Int) (g : Nat → Int), k + c = n → kk = k → (∀ q, q < k → g (s q).toNat = (q : Int)) →
    V M_RR_stripOf 5 7 [some (vR b), some (vR sz), some (vI kk)] [] (hset h sz (kA 0 n g)) (sz + 1) 1 5 (QSt b n s h sz) := by
  intro c
  induction c with
  | zero =>
    intro k kk g hc hkk hg
    refine V.iload_n (pc := 7) 2 d_RR_stripOf_7 rfl rfl ?_
    refine V.aload_n (pc := 8) 0 d_RR_stripOf_8 rfl rfl ?_
    refine V.alen (pc := 9) d_RR_stripOf_9 (hset_o (by omega) hb) ?_
    refine V.icmp_ge (tgt := 25) (pc := 10) d_RR_stripOf_10 (by decide) (fun c_10 => ?_) (fun c_10 => ?_)
    · skip
      refine V.iconst (pc := 25) d_RR_stripOf_25 ⟨by decide, by decide⟩ ?_
      refine V.istore_n (pc := 26) 2 d_RR_stripOf_26 rfl (Nat.le_of_ble_eq_true rfl) rfl ?_
      dsimp only [put]
      refine V.pad ?_
      exact lq_RR_stripOf2 sz b t n s hn hpm h hb hbs g (fun q hq => hg q (by omega)) (n - 1) 0 0 none (by omega) rfl (fun i2 j2 h2 => by omega)
    · skip
      exfalso; omega
  | succ c ih =>
    intro k kk g hc hkk hg
    refine V.iload_n (pc := 7) 2 d_RR_stripOf_7 rfl rfl ?_
    refine V.aload_n (pc := 8) 0 d_RR_stripOf_8 rfl rfl ?_
    refine V.alen (pc := 9) d_RR_stripOf_9 (hset_o (by omega) hb) ?_
    refine V.icmp_ge (tgt := 25) (pc := 10) d_RR_stripOf_10 (by decide) (fun c_10 => ?_) (fun c_10 => ?_)
    · skip
      exfalso; omega
    · skip
      have hr := hpm.1 k (by omega)
      refine V.aload_n (pc := 13) 1 d_RR_stripOf_13 rfl rfl ?_
      refine V.aload_n (pc := 14) 0 d_RR_stripOf_14 rfl rfl ?_
      refine V.iload_n (pc := 15) 2 d_RR_stripOf_15 rfl rfl ?_
      refine V.iald (pc := 16) d_RR_stripOf_16 (hset_o (by omega) hb) (by omega) (by omega) ?_
      rw [show kk.toNat = k by omega]
      refine V.iload_n (pc := 17) 2 d_RR_stripOf_17 rfl rfl ?_
      refine V.iast (pc := 18) d_RR_stripOf_18 hset_s (by omega) (by omega) ?_
      refine V.iinc (pc := 19) d_RR_stripOf_19 rfl ⟨by omega, by omega⟩ (Nat.le_of_ble_eq_true rfl) rfl ?_
      dsimp only [put]
      refine V.goto (tgt := 7) (pc := 22) d_RR_stripOf_22 (by decide) ?_
      rw [hset_tw]
      refine ih (k + 1) _ _ (by omega) (by omega) (fun q hq => ?_)
      by_cases e : q = k
      · rw [e, upf_e, hkk]
      · have e2 : (s q).toNat ≠ (s k).toNat := fun z => by
          have h1 := hpm.1 q (by omega)
          exact e (hpm.2 q (by omega) k (by omega) (by omega))
        rw [upf_n e2]; exact hg q (by omega)
set_option maxRecDepth 20000 in
theorem cc_RR_stripOf (sz : Nat) (b t n : Nat) (s : Nat → Int) (hn : 1 ≤ n ∧ n ≤ 20) (hpm : isPerm s n) (h : MH) (hb : h b = some (kA t n s)) : Ct M_RR_stripOf 5 2 25 [vR b] h sz (QSt b n s h sz) := by
  refine Ct.of rfl (Nat.le_of_ble_eq_true rfl) ?_
  dsimp only [lsOf]
  refine V.fresh (fun hfr => ?_)
  have hbs := hfr _ _ hb
  refine V.aload_n (pc := 0) 0 d_RR_stripOf_0 rfl rfl ?_
  refine V.alen (pc := 1) d_RR_stripOf_1 hb ?_
  refine V.newi (pc := 2) 0 (kc2 := 1) (ks2 := 5) d_RR_stripOf_2 (by omega) (by omega) (Nat.le_of_ble_eq_true rfl) (by omega) ?_
  refine V.astore_n (pc := 4) 1 d_RR_stripOf_4 rfl (Nat.le_of_ble_eq_true rfl) rfl ?_
  dsimp only [put]
  refine V.iconst (pc := 5) d_RR_stripOf_5 ⟨by decide, by decide⟩ ?_
  refine V.istore_n (pc := 6) 2 d_RR_stripOf_6 rfl (Nat.le_of_ble_eq_true rfl) rfl ?_
  dsimp only [put]
  rw [show ((n : Nat) : Int).toNat = n by omega]
  exact lq_RR_stripOf1 sz b t n s hn hpm h hb hbs n 0 0 (fun _ => 0) (by omega) rfl (fun q hq => by omega)
