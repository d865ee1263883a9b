/-! THE CLASS: ask, its worths and marks, printed by wip/whole/gen/cls18.py -/
set_option maxRecDepth 20000 in
theorem cc_Row_askWorth (h : MH) (a : Nat) (ha37 : 37 ≤ a) (n : Nat) (hn : n ≤ 20) (s : Nat → Int) (ha : h a = some (kO 3 [vI (n : Int), vL (pls s (2 * n) : Int)])) (tr : Nat → Int) (l : List Int) (htr : TRl tr l) (hl : l.length < 10) (sz : Nat) : Ct M_Row_askWorth 1 0 0 [vR a, vR 3] (hT h tr l.length) sz (QAk h (cn (plu s) (2 * n)) (l ++ [20]) sz) := by
  refine Ct.of rfl (Nat.le_of_ble_eq_true rfl) ?_
  dsimp only [lsOf]
  refine V.aload_n (pc := 0) 1 d_Row_askWorth_0 rfl rfl ?_
  refine V.bipush (pc := 1) d_Row_askWorth_1 ⟨by decide, by decide⟩ ?_
  refine V.cV1 (pc := 3) (kc2 := 0) (ks2 := 0) ml_Row_13 hT_3 (cc_Tr_leave _ tr _ htr (by first | omega | (simp only [List.length_append, List.length_cons, List.length_nil]; omega)) _ _) d_Row_askWorth_3 (Nat.le_of_ble_eq_true rfl) (Nat.le_of_ble_eq_true rfl) (Nat.le_of_ble_eq_true rfl) (Nat.le_of_ble_eq_true rfl) ?_
  rintro _ _ _ ⟨rfl, rfl, tr, rfl, htr⟩
  dsimp only [Option.toList, List.cons_append, List.nil_append]
  refine V.aload_n (pc := 6) 0 d_Row_askWorth_6 rfl rfl ?_
  refine V.getf (pc := 7) 1 cl_Row fl_Row_7_Row d_Row_askWorth_7 (hT_o (by omega) (by omega) ha) (Nat.le_of_ble_eq_true rfl) rfl ?_
  refine V.cS1 (pc := 10) (kc2 := 0) (ks2 := 0) ml_Row_18 (cc_JL_bitCount _ (pls_40 s (by omega)) _ _) d_Row_askWorth_10 (Nat.le_of_ble_eq_true rfl) (Nat.le_of_ble_eq_true rfl) (Nat.le_of_ble_eq_true rfl) (Nat.le_of_ble_eq_true rfl) ?_
  rintro _ _ _ ⟨rfl, rfl, rfl⟩
  dsimp only [Option.toList, List.cons_append, List.nil_append]
  rw [pls_cn hn]
  refine V.ret (pc := 13) (r := some (vI _)) d_Row_askWorth_13 (Or.inl rfl) rfl ?_
  refine ⟨rfl, rfl, tr, ?_⟩
  try simp only [List.append_assoc, List.cons_append, List.nil_append] at htr ⊢
  first | exact ⟨rfl, htr⟩ | exact ⟨trivial, htr⟩
theorem nxt_r9 (a : Nat → Int) (n k : Nat) : 0 ≤ nxt a n k ∧ nxt a n k ≤ 1 := by unfold nxt; split <;> omega
theorem cn_last {a : Nat → Int} {n : Nat} (hn : 1 ≤ n) (h : arch a n) : cn (nxt a n) (2 * n) = cn (nxt a n) (2 * n - 1) := by
  obtain ⟨m, hm⟩ : ∃ m, 2 * n = m + 1 := ⟨2 * n - 1, by omega⟩
  rw [hm]
  show cn (nxt a n) m + nxt a n m = cn (nxt a n) (m + 1 - 1)
  have := (PR_pt h).nat (q := m) (by omega)
  have e : nxt a n m = 0 := by unfold nxt; rw [if_neg (by omega)]
  rw [e, Nat.add_sub_cancel]; omega
set_option maxRecDepth 20000 in
theorem lq_Ar_askWorth (h : MH) (a c : Nat) (ha37 : 37 ≤ a) (hc37 : 37 ≤ c) {ci : Nat} {C : String} {v2 : MV} (hC : Cls ci C F_Ar 3 t_Ar) (n : Nat) (hn : 1 ≤ n ∧ n ≤ 20) (s f : Nat → Int) (har : arch s n) (ha : h a = some (kO ci [vI (n : Int), v2, vR c])) (hc : h c = some (kA 0 (2 * n) f)) (hf : ∀ q, q < 2 * n → f q = pt s n q) (tr : Nat → Int) (l : List Int) (htr : TRl tr l) (sz : Nat) : ∀ (m i : Nat), i + m = 2 * n →
    V M_Ar_askWorth 1 10 [some (vR a), some (vR 3), some (vI (cn (nxt s n) i)), some (vI (i : Int))] [] (hT h tr l.length) sz 0 0 (QAk h (cn (nxt s n) (2 * n - 1)) l sz) := by
  intro m
  induction m with
  | zero =>
    intro i hi
    refine V.iload_n (pc := 10) 3 d_Ar_askWorth_10 rfl rfl ?_
    refine V.aload_n (pc := 11) 0 d_Ar_askWorth_11 rfl rfl ?_
    refine V.getf (pc := 12) 2 hC fl_Ar_7_Ar d_Ar_askWorth_12 (hT_o (by omega) (by omega) ha) (Nat.le_of_ble_eq_true rfl) rfl ?_
    refine V.alen (pc := 15) d_Ar_askWorth_15 (hT_o (by omega) (by omega) hc) ?_
    refine V.icmp_ge (tgt := 45) (pc := 16) d_Ar_askWorth_16 (by decide) (fun c_16 => ?_) (fun c_16 => ?_)
    · skip
      refine V.iload_n (pc := 45) 2 d_Ar_askWorth_45 rfl rfl ?_
      rw [show i = 2 * n by omega, cn_last hn.1 har]
      refine V.ret (pc := 46) (r := some (vI _)) d_Ar_askWorth_46 (Or.inl rfl) rfl ?_
      refine ⟨rfl, rfl, tr, ?_⟩
      try simp only [List.append_assoc, List.cons_append, List.nil_append] at htr ⊢
      first | exact ⟨rfl, htr⟩ | exact ⟨trivial, htr⟩
    · skip
      exfalso; omega
  | succ m ih =>
    intro i hi
    refine V.iload_n (pc := 10) 3 d_Ar_askWorth_10 rfl rfl ?_
    refine V.aload_n (pc := 11) 0 d_Ar_askWorth_11 rfl rfl ?_
    refine V.getf (pc := 12) 2 hC fl_Ar_7_Ar d_Ar_askWorth_12 (hT_o (by omega) (by omega) ha) (Nat.le_of_ble_eq_true rfl) rfl ?_
    refine V.alen (pc := 15) d_Ar_askWorth_15 (hT_o (by omega) (by omega) hc) ?_
    refine V.icmp_ge (tgt := 45) (pc := 16) d_Ar_askWorth_16 (by decide) (fun c_16 => ?_) (fun c_16 => ?_)
    · skip
      exfalso; omega
    · skip
      have hr := cn_rng (nxt_r9 s n) i
      have hn9 := hf i (by omega)
      refine V.iload_n (pc := 19) 2 d_Ar_askWorth_19 rfl rfl ?_
      refine V.aload_n (pc := 20) 0 d_Ar_askWorth_20 rfl rfl ?_
      refine V.getf (pc := 21) 2 hC fl_Ar_7_Ar d_Ar_askWorth_21 (hT_o (by omega) (by omega) ha) (Nat.le_of_ble_eq_true rfl) rfl ?_
      refine V.iload_n (pc := 24) 3 d_Ar_askWorth_24 rfl rfl ?_
      refine V.iald (pc := 25) d_Ar_askWorth_25 (hT_o (by omega) (by omega) hc) (by omega) (by omega) ?_
      refine V.iload_n (pc := 26) 3 d_Ar_askWorth_26 rfl rfl ?_
      refine V.iconst (pc := 27) d_Ar_askWorth_27 ⟨by decide, by decide⟩ ?_
      refine V.iadd (pc := 28) d_Ar_askWorth_28 ⟨by omega, by omega⟩ ?_
      refine V.icmp_ne (tgt := 36) (pc := 29) d_Ar_askWorth_29 (by decide) (fun c_29 => ?_) (fun c_29 => ?_)
      · skip
        refine V.iconst (pc := 36) d_Ar_askWorth_36 ⟨by decide, by decide⟩ ?_
        refine V.iadd (pc := 37) d_Ar_askWorth_37 ⟨by omega, by omega⟩ ?_
        refine V.istore_n (pc := 38) 2 d_Ar_askWorth_38 rfl (Nat.le_of_ble_eq_true rfl) rfl ?_
        dsimp only [put]
        refine V.iinc (pc := 39) d_Ar_askWorth_39 rfl ⟨by omega, by omega⟩ (Nat.le_of_ble_eq_true rfl) rfl ?_
        dsimp only [put]
        refine V.goto (tgt := 10) (pc := 42) d_Ar_askWorth_42 (by decide) ?_
        rw [show cn (nxt s n) i + 0 = cn (nxt s n) (i + 1) by show _ = cn (nxt s n) i + nxt s n i; unfold nxt; rw [if_neg (by rw [← hn9]; rw [Int.toNat_natCast] at c_29; omega)]]
        rw [show (i : Int) + 1 = ((i + 1 : Nat) : Int) by omega]
        exact ih (i + 1) (by omega)
      · skip
        refine V.iconst (pc := 32) d_Ar_askWorth_32 ⟨by decide, by decide⟩ ?_
        refine V.goto (tgt := 37) (pc := 33) d_Ar_askWorth_33 (by decide) ?_
        refine V.iadd (pc := 37) d_Ar_askWorth_37 ⟨by omega, by omega⟩ ?_
        refine V.istore_n (pc := 38) 2 d_Ar_askWorth_38 rfl (Nat.le_of_ble_eq_true rfl) rfl ?_
        dsimp only [put]
        refine V.iinc (pc := 39) d_Ar_askWorth_39 rfl ⟨by omega, by omega⟩ (Nat.le_of_ble_eq_true rfl) rfl ?_
        dsimp only [put]
        refine V.goto (tgt := 10) (pc := 42) d_Ar_askWorth_42 (by decide) ?_
        rw [show cn (nxt s n) i + 1 = cn (nxt s n) (i + 1) by show _ = cn (nxt s n) i + nxt s n i; unfold nxt; rw [if_pos (by rw [← hn9]; rw [Int.toNat_natCast] at c_29; omega)]]
        rw [show (i : Int) + 1 = ((i + 1 : Nat) : Int) by omega]
        exact ih (i + 1) (by omega)
set_option maxRecDepth 20000 in
theorem cc_Ar_askWorth (h : MH) (a c : Nat) (ha37 : 37 ≤ a) (hc37 : 37 ≤ c) {ci : Nat} {C : String} {v2 : MV} (hC : Cls ci C F_Ar 3 t_Ar) (n : Nat) (hn : 1 ≤ n ∧ n ≤ 20) (s f : Nat → Int) (har : arch s n) (ha : h a = some (kO ci [vI (n : Int), v2, vR c])) (hc : h c = some (kA 0 (2 * n) f)) (hf : ∀ q, q < 2 * n → f q = pt s n q) (tr : Nat → Int) (l : List Int) (htr : TRl tr l) (hl : l.length < 10) (sz : Nat) : Ct M_Ar_askWorth 1 0 0 [vR a, vR 3] (hT h tr l.length) sz (QAk h (cn (nxt s n) (2 * n - 1)) (l ++ [21]) sz) := by
  refine Ct.of rfl (Nat.le_of_ble_eq_true rfl) ?_
  dsimp only [lsOf]
  refine V.aload_n (pc := 0) 1 d_Ar_askWorth_0 rfl rfl ?_
  refine V.bipush (pc := 1) d_Ar_askWorth_1 ⟨by decide, by decide⟩ ?_
  refine V.cV1 (pc := 3) (kc2 := 0) (ks2 := 0) ml_Ar_13 hT_3 (cc_Tr_leave _ tr _ htr (by first | omega | (simp only [List.length_append, List.length_cons, List.length_nil]; omega)) _ _) d_Ar_askWorth_3 (Nat.le_of_ble_eq_true rfl) (Nat.le_of_ble_eq_true rfl) (Nat.le_of_ble_eq_true rfl) (Nat.le_of_ble_eq_true rfl) ?_
  rintro _ _ _ ⟨rfl, rfl, tr, rfl, htr⟩
  dsimp only [Option.toList, List.cons_append, List.nil_append]
  refine V.iconst (pc := 6) d_Ar_askWorth_6 ⟨by decide, by decide⟩ ?_
  refine V.istore_n (pc := 7) 2 d_Ar_askWorth_7 rfl (Nat.le_of_ble_eq_true rfl) rfl ?_
  dsimp only [put]
  refine V.iconst (pc := 8) d_Ar_askWorth_8 ⟨by decide, by decide⟩ ?_
  refine V.istore_n (pc := 9) 3 d_Ar_askWorth_9 rfl (Nat.le_of_ble_eq_true rfl) rfl ?_
  dsimp only [put]
  exact lq_Ar_askWorth h a c ha37 hc37 hC n hn s f har ha hc hf tr _ htr _ (2 * n) 0 (by omega)
set_option maxRecDepth 20000 in
theorem cc_Ne_askWorth (h : MH) (a c : Nat) (ha37 : 37 ≤ a) (hc37 : 37 ≤ c) {v2 : MV} (n : Nat) (hn : 1 ≤ n ∧ n ≤ 20) (s f : Nat → Int) (har : arch s n) (ha : h a = some (kO 5 [vI (n : Int), v2, vR c])) (hc : h c = some (kA 0 (2 * n) f)) (hf : ∀ q, q < 2 * n → f q = pt s n q) (tr : Nat → Int) (l : List Int) (htr : TRl tr l) (hl : l.length < 8) (sz : Nat) : Ct M_Ne_askWorth 2 0 0 [vR a, vR 3] (hT h tr l.length) sz (QAk h (cn (nxt s n) (2 * n - 1) + n) (l ++ [22, 21, 10]) sz) := by
  refine Ct.of rfl (Nat.le_of_ble_eq_true rfl) ?_
  dsimp only [lsOf]
  refine V.aload_n (pc := 0) 1 d_Ne_askWorth_0 rfl rfl ?_
  refine V.bipush (pc := 1) d_Ne_askWorth_1 ⟨by decide, by decide⟩ ?_
  refine V.cV1 (pc := 3) (kc2 := 0) (ks2 := 0) ml_Ne_7 hT_3 (cc_Tr_leave _ tr _ htr (by first | omega | (simp only [List.length_append, List.length_cons, List.length_nil]; omega)) _ _) d_Ne_askWorth_3 (Nat.le_of_ble_eq_true rfl) (Nat.le_of_ble_eq_true rfl) (Nat.le_of_ble_eq_true rfl) (Nat.le_of_ble_eq_true rfl) ?_
  rintro _ _ _ ⟨rfl, rfl, tr, rfl, htr⟩
  dsimp only [Option.toList, List.cons_append, List.nil_append]
  refine V.aload_n (pc := 6) 0 d_Ne_askWorth_6 rfl rfl ?_
  refine V.aload_n (pc := 7) 1 d_Ne_askWorth_7 rfl rfl ?_
  refine V.cP1 (pc := 8) (kc2 := 0) (ks2 := 0) ml_Ne_13 cl_Ne (hT_o (by omega) (by omega) ha) (cc_Ar_askWorth h a c ha37 hc37 cl_Ne n hn s f har ha hc hf tr _ htr (by first | omega | (simp only [List.length_append, List.length_cons, List.length_nil]; omega)) _) d_Ne_askWorth_8 (Nat.le_of_ble_eq_true rfl) (Nat.le_of_ble_eq_true rfl) (Nat.le_of_ble_eq_true rfl) (Nat.le_of_ble_eq_true rfl) ?_
  rintro _ _ _ ⟨rfl, rfl, tr, rfl, htr⟩
  dsimp only [Option.toList, List.cons_append, List.nil_append]
  have hr := cn_rng (nxt_r9 s n) (2 * n - 1)
  refine V.aload_n (pc := 11) 0 d_Ne_askWorth_11 rfl rfl ?_
  refine V.aload_n (pc := 12) 1 d_Ne_askWorth_12 rfl rfl ?_
  refine V.cU1 (pc := 13) (kc2 := 0) (ks2 := 0) ml_Ne_17_Ne (hT_o (by omega) (by omega) ha) (cc_Th_askSize h a ha37 cl_Ne fl_Th_7_Ar (by decide) n rfl ha tr _ htr (by first | omega | (simp only [List.length_append, List.length_cons, List.length_nil]; omega)) _) d_Ne_askWorth_13 (Nat.le_of_ble_eq_true rfl) (Nat.le_of_ble_eq_true rfl) (Nat.le_of_ble_eq_true rfl) (Nat.le_of_ble_eq_true rfl) ?_
  rintro _ _ _ ⟨rfl, rfl, tr, rfl, htr⟩
  dsimp only [Option.toList, List.cons_append, List.nil_append]
  refine V.iadd (pc := 16) d_Ne_askWorth_16 ⟨by omega, by omega⟩ ?_
  refine V.ret (pc := 17) (r := some (vI _)) d_Ne_askWorth_17 (Or.inl rfl) rfl ?_
  refine ⟨rfl, rfl, tr, ?_⟩
  try simp only [List.append_assoc, List.cons_append, List.nil_append] at htr ⊢
  first | exact ⟨rfl, htr⟩ | exact ⟨trivial, htr⟩
set_option maxRecDepth 20000 in
theorem cc_La_askWorth (h : MH) (a : Nat) (ha37 : 37 ≤ a) {ci : Nat} {C : String} {v1 v2 v3 : MV} (hC : Cls ci C F_La 5 t_La) (n : Nat) (hn : 1 ≤ n ∧ n ≤ 20) (w : Int) (ha : h a = some (kO ci [vI (n : Int), v1, v2, v3, vI w])) (tr : Nat → Int) (l : List Int) (htr : TRl tr l) (hl : l.length < 10) (sz : Nat) : Ct M_La_askWorth 1 0 0 [vR a, vR 3] (hT h tr l.length) sz (QAk h (w) (l ++ [23]) sz) := by
  refine Ct.of rfl (Nat.le_of_ble_eq_true rfl) ?_
  dsimp only [lsOf]
  refine V.aload_n (pc := 0) 1 d_La_askWorth_0 rfl rfl ?_
  refine V.bipush (pc := 1) d_La_askWorth_1 ⟨by decide, by decide⟩ ?_
  refine V.cV1 (pc := 3) (kc2 := 0) (ks2 := 0) ml_La_32 hT_3 (cc_Tr_leave _ tr _ htr (by first | omega | (simp only [List.length_append, List.length_cons, List.length_nil]; omega)) _ _) d_La_askWorth_3 (Nat.le_of_ble_eq_true rfl) (Nat.le_of_ble_eq_true rfl) (Nat.le_of_ble_eq_true rfl) (Nat.le_of_ble_eq_true rfl) ?_
  rintro _ _ _ ⟨rfl, rfl, tr, rfl, htr⟩
  dsimp only [Option.toList, List.cons_append, List.nil_append]
  refine V.aload_n (pc := 6) 0 d_La_askWorth_6 rfl rfl ?_
  refine V.getf (pc := 7) 4 hC fl_La_26_La d_La_askWorth_7 (hT_o (by omega) (by omega) ha) (Nat.le_of_ble_eq_true rfl) rfl ?_
  refine V.ret (pc := 10) (r := some (vI _)) d_La_askWorth_10 (Or.inl rfl) rfl ?_
  refine ⟨rfl, rfl, tr, ?_⟩
  try simp only [List.append_assoc, List.cons_append, List.nil_append] at htr ⊢
  first | exact ⟨rfl, htr⟩ | exact ⟨trivial, htr⟩
set_option maxRecDepth 20000 in
theorem cc_Lo_askWorth (h : MH) (a : Nat) (ha37 : 37 ≤ a) {v1 v2 v3 : MV} (n : Nat) (hn : 1 ≤ n ∧ n ≤ 20) (w : Int) (ha : h a = some (kO 8 [vI (n : Int), v1, v2, v3, vI w])) (hw1 : w = 1) (tr : Nat → Int) (l : List Int) (htr : TRl tr l) (hl : l.length < 6) (sz : Nat) : Ct M_Lo_askWorth 3 0 0 [vR a, vR 3] (hT h tr l.length) sz (QAk h (w * (2 * n)) (l ++ [24, 23, 11, 10]) sz) := by
  refine Ct.of rfl (Nat.le_of_ble_eq_true rfl) ?_
  dsimp only [lsOf]
  refine V.aload_n (pc := 0) 1 d_Lo_askWorth_0 rfl rfl ?_
  refine V.bipush (pc := 1) d_Lo_askWorth_1 ⟨by decide, by decide⟩ ?_
  refine V.cV1 (pc := 3) (kc2 := 0) (ks2 := 0) ml_Lo_7 hT_3 (cc_Tr_leave _ tr _ htr (by first | omega | (simp only [List.length_append, List.length_cons, List.length_nil]; omega)) _ _) d_Lo_askWorth_3 (Nat.le_of_ble_eq_true rfl) (Nat.le_of_ble_eq_true rfl) (Nat.le_of_ble_eq_true rfl) (Nat.le_of_ble_eq_true rfl) ?_
  rintro _ _ _ ⟨rfl, rfl, tr, rfl, htr⟩
  dsimp only [Option.toList, List.cons_append, List.nil_append]
  refine V.aload_n (pc := 6) 0 d_Lo_askWorth_6 rfl rfl ?_
  refine V.aload_n (pc := 7) 1 d_Lo_askWorth_7 rfl rfl ?_
  refine V.cP1 (pc := 8) (kc2 := 0) (ks2 := 0) ml_Lo_13 cl_Lo (hT_o (by omega) (by omega) ha) (cc_La_askWorth h a ha37 cl_Lo n hn w ha tr _ htr (by first | omega | (simp only [List.length_append, List.length_cons, List.length_nil]; omega)) _) d_Lo_askWorth_8 (Nat.le_of_ble_eq_true rfl) (Nat.le_of_ble_eq_true rfl) (Nat.le_of_ble_eq_true rfl) (Nat.le_of_ble_eq_true rfl) ?_
  rintro _ _ _ ⟨rfl, rfl, tr, rfl, htr⟩
  dsimp only [Option.toList, List.cons_append, List.nil_append]
  refine V.aload_n (pc := 11) 0 d_Lo_askWorth_11 rfl rfl ?_
  refine V.aload_n (pc := 12) 1 d_Lo_askWorth_12 rfl rfl ?_
  refine V.cU1 (pc := 13) (kc2 := 0) (ks2 := 0) ml_Lo_17_Lo (hT_o (by omega) (by omega) ha) (cc_La_askSize h a ha37 cl_Lo n (by omega) rfl ha tr _ htr (by first | omega | (simp only [List.length_append, List.length_cons, List.length_nil]; omega)) _) d_Lo_askWorth_13 (Nat.le_of_ble_eq_true rfl) (Nat.le_of_ble_eq_true rfl) (Nat.le_of_ble_eq_true rfl) (Nat.le_of_ble_eq_true rfl) ?_
  rintro _ _ _ ⟨rfl, rfl, tr, rfl, htr⟩
  dsimp only [Option.toList, List.cons_append, List.nil_append]
  rw [hw1]
  refine V.imul (pc := 16) d_Lo_askWorth_16 ⟨by omega, by omega⟩ ?_
  refine V.ret (pc := 17) (r := some (vI _)) d_Lo_askWorth_17 (Or.inl rfl) rfl ?_
  refine ⟨rfl, rfl, tr, ?_⟩
  try simp only [List.append_assoc, List.cons_append, List.nil_append] at htr ⊢
  first | exact ⟨rfl, htr⟩ | exact ⟨trivial, htr⟩
set_option maxRecDepth 20000 in
theorem cc_St_askWorth (h : MH) (a c : Nat) (ha37 : 37 ≤ a) (hc37 : 37 ≤ c) {ci : Nat} {C : String} {v1 v3 v4 : MV} (hC : Cls ci C F_St 5 t_St) (n : Nat) (hn : 1 ≤ n ∧ n ≤ 20) (f : Nat → Int) (hf : 0 ≤ f 0 ∧ f 0 ≤ 20) (ha : h a = some (kO ci [vI (n : Int), v1, vR c, v3, v4])) (hc : h c = some (kA 0 n f)) (tr : Nat → Int) (l : List Int) (htr : TRl tr l) (hl : l.length < 10) (sz : Nat) : Ct M_St_askWorth 1 0 0 [vR a, vR 3] (hT h tr l.length) sz (QAk h (f 0) (l ++ [25]) sz) := by
  refine Ct.of rfl (Nat.le_of_ble_eq_true rfl) ?_
  dsimp only [lsOf]
  refine V.aload_n (pc := 0) 1 d_St_askWorth_0 rfl rfl ?_
  refine V.bipush (pc := 1) d_St_askWorth_1 ⟨by decide, by decide⟩ ?_
  refine V.cV1 (pc := 3) (kc2 := 0) (ks2 := 0) ml_St_23 hT_3 (cc_Tr_leave _ tr _ htr (by first | omega | (simp only [List.length_append, List.length_cons, List.length_nil]; omega)) _ _) d_St_askWorth_3 (Nat.le_of_ble_eq_true rfl) (Nat.le_of_ble_eq_true rfl) (Nat.le_of_ble_eq_true rfl) (Nat.le_of_ble_eq_true rfl) ?_
  rintro _ _ _ ⟨rfl, rfl, tr, rfl, htr⟩
  dsimp only [Option.toList, List.cons_append, List.nil_append]
  refine V.aload_n (pc := 6) 0 d_St_askWorth_6 rfl rfl ?_
  refine V.getf (pc := 7) 2 hC fl_St_13_St d_St_askWorth_7 (hT_o (by omega) (by omega) ha) (Nat.le_of_ble_eq_true rfl) rfl ?_
  refine V.iconst (pc := 10) d_St_askWorth_10 ⟨by decide, by decide⟩ ?_
  refine V.iald (pc := 11) d_St_askWorth_11 (hT_o (by omega) (by omega) hc) (by omega) (by omega) ?_
  refine V.ret (pc := 12) (r := some (vI _)) d_St_askWorth_12 (Or.inl rfl) rfl ?_
  refine ⟨rfl, rfl, tr, ?_⟩
  try simp only [List.append_assoc, List.cons_append, List.nil_append] at htr ⊢
  first | exact ⟨rfl, htr⟩ | exact ⟨trivial, htr⟩
set_option maxRecDepth 20000 in
theorem cc_Fo_askWorth (h : MH) (a c : Nat) (ha37 : 37 ≤ a) (hc37 : 37 ≤ c) {v1 v3 v4 : MV} (n : Nat) (hn : 1 ≤ n ∧ n ≤ 20) (f : Nat → Int) (hf : 0 ≤ f 0 ∧ f 0 ≤ 20) (ha : h a = some (kO 10 [vI (n : Int), v1, vR c, v3, v4])) (hc : h c = some (kA 0 n f)) (tr : Nat → Int) (l : List Int) (htr : TRl tr l) (hl : l.length < 8) (sz : Nat) : Ct M_Fo_askWorth 2 0 0 [vR a, vR 3] (hT h tr l.length) sz (QAk h (f 0 + 100) (l ++ [26, 25]) sz) := by
  refine Ct.of rfl (Nat.le_of_ble_eq_true rfl) ?_
  dsimp only [lsOf]
  refine V.aload_n (pc := 0) 1 d_Fo_askWorth_0 rfl rfl ?_
  refine V.bipush (pc := 1) d_Fo_askWorth_1 ⟨by decide, by decide⟩ ?_
  refine V.cV1 (pc := 3) (kc2 := 0) (ks2 := 0) ml_Fo_10 hT_3 (cc_Tr_leave _ tr _ htr (by first | omega | (simp only [List.length_append, List.length_cons, List.length_nil]; omega)) _ _) d_Fo_askWorth_3 (Nat.le_of_ble_eq_true rfl) (Nat.le_of_ble_eq_true rfl) (Nat.le_of_ble_eq_true rfl) (Nat.le_of_ble_eq_true rfl) ?_
  rintro _ _ _ ⟨rfl, rfl, tr, rfl, htr⟩
  dsimp only [Option.toList, List.cons_append, List.nil_append]
  refine V.aload_n (pc := 6) 0 d_Fo_askWorth_6 rfl rfl ?_
  refine V.aload_n (pc := 7) 1 d_Fo_askWorth_7 rfl rfl ?_
  refine V.cP1 (pc := 8) (kc2 := 0) (ks2 := 0) ml_Fo_16 cl_Fo (hT_o (by omega) (by omega) ha) (cc_St_askWorth h a c ha37 hc37 cl_Fo n hn f hf ha hc tr _ htr (by first | omega | (simp only [List.length_append, List.length_cons, List.length_nil]; omega)) _) d_Fo_askWorth_8 (Nat.le_of_ble_eq_true rfl) (Nat.le_of_ble_eq_true rfl) (Nat.le_of_ble_eq_true rfl) (Nat.le_of_ble_eq_true rfl) ?_
  rintro _ _ _ ⟨rfl, rfl, tr, rfl, htr⟩
  dsimp only [Option.toList, List.cons_append, List.nil_append]
  refine V.bipush (pc := 11) d_Fo_askWorth_11 ⟨by decide, by decide⟩ ?_
  refine V.iadd (pc := 13) d_Fo_askWorth_13 ⟨by omega, by omega⟩ ?_
  refine V.ret (pc := 14) (r := some (vI _)) d_Fo_askWorth_14 (Or.inl rfl) rfl ?_
  refine ⟨rfl, rfl, tr, ?_⟩
  try simp only [List.append_assoc, List.cons_append, List.nil_append] at htr ⊢
  first | exact ⟨rfl, htr⟩ | exact ⟨trivial, htr⟩
set_option maxRecDepth 20000 in
theorem cc_Th_askMark (h : MH) (a : Nat) (ha37 : 37 ≤ a) {ci N d2 : Nat} {C own : String} {M2 : MD} {T : u_T} {ty : Nat → FieldType} {fs : List MV} (hL : LinkU "RiverRoad$Thing" 19 ⟨"RiverRoad$Thing", "askSize", "(LRiverRoad$Trace;)I"⟩ own C M2 1 ci N T ty) (hd2 : d2 ≤ 2) (ha : h a = some (kO ci fs)) (v : Int) (hv : 0 ≤ v ∧ v ≤ 40) (L : List Int) (hS : ∀ (tr : Nat → Int) (l : List Int), TRl tr l → l.length < 10 → ∀ sz : Nat, Ct M2 d2 0 0 [vR a, vR 3] (hT h tr l.length) sz (QAk h v (l ++ L) sz)) (tr : Nat → Int) (l : List Int) (htr : TRl tr l) (hl : l.length < 8) (sz : Nat) : Ct M_Th_askMark 3 0 0 [vR a, vR 3] (hT h tr l.length) sz (QAk h (v + 3) (l ++ (30 :: L)) sz) := by
  refine Ct.of rfl (Nat.le_of_ble_eq_true rfl) ?_
  dsimp only [lsOf]
  refine V.aload_n (pc := 0) 1 d_Th_askMark_0 rfl rfl ?_
  refine V.bipush (pc := 1) d_Th_askMark_1 ⟨by decide, by decide⟩ ?_
  refine V.cV1 (pc := 3) (kc2 := 0) (ks2 := 0) ml_Th_13 hT_3 (cc_Tr_leave _ tr _ htr (by first | omega | (simp only [List.length_append, List.length_cons, List.length_nil]; omega)) _ _) d_Th_askMark_3 (Nat.le_of_ble_eq_true rfl) (Nat.le_of_ble_eq_true rfl) (Nat.le_of_ble_eq_true rfl) (Nat.le_of_ble_eq_true rfl) ?_
  rintro _ _ _ ⟨rfl, rfl, tr, rfl, htr⟩
  dsimp only [Option.toList, List.cons_append, List.nil_append]
  refine V.aload_n (pc := 6) 0 d_Th_askMark_6 rfl rfl ?_
  refine V.aload_n (pc := 7) 1 d_Th_askMark_7 rfl rfl ?_
  refine V.cU1 (pc := 8) (kc2 := 0) (ks2 := 0) hL (hT_o (by omega) (by omega) ha) (hS tr _ htr (by first | omega | (simp only [List.length_append, List.length_cons, List.length_nil]; omega)) _) d_Th_askMark_8 (by omega) (Nat.le_of_ble_eq_true rfl) (Nat.le_of_ble_eq_true rfl) (Nat.le_of_ble_eq_true rfl) ?_
  rintro _ _ _ ⟨rfl, rfl, tr, rfl, htr⟩
  dsimp only [Option.toList, List.cons_append, List.nil_append]
  refine V.iconst (pc := 11) d_Th_askMark_11 ⟨by decide, by decide⟩ ?_
  refine V.iadd (pc := 12) d_Th_askMark_12 ⟨by omega, by omega⟩ ?_
  refine V.ret (pc := 13) (r := some (vI _)) d_Th_askMark_13 (Or.inl rfl) rfl ?_
  refine ⟨rfl, rfl, tr, ?_⟩
  try simp only [List.append_assoc, List.cons_append, List.nil_append] at htr ⊢
  first | exact ⟨rfl, htr⟩ | exact ⟨trivial, htr⟩
set_option maxRecDepth 20000 in
theorem cc_Ar_askMark (h : MH) (a : Nat) (ha37 : 37 ≤ a) {ci d2 : Nat} {C own : String} {M2 : MD}   {fs : List MV} (hL : LinkU "RiverRoad$Thing" 19 ⟨"RiverRoad$Thing", "askSize", "(LRiverRoad$Trace;)I"⟩ own C M2 1 ci 3 F_Ar t_Ar) (hd2 : d2 ≤ 2) (ha : h a = some (kO ci fs)) (v : Int) (hv : 0 ≤ v ∧ v ≤ 40) (L : List Int) (hS : ∀ (tr : Nat → Int) (l : List Int), TRl tr l → l.length < 10 → ∀ sz : Nat, Ct M2 d2 0 0 [vR a, vR 3] (hT h tr l.length) sz (QAk h v (l ++ L) sz)) (tr : Nat → Int) (l : List Int) (htr : TRl tr l) (hl : l.length < 7) (sz : Nat) : Ct M_Ar_askMark 4 0 0 [vR a, vR 3] (hT h tr l.length) sz (QAk h (2 * (v + 3)) (l ++ (31 :: 30 :: L)) sz) := by
  refine Ct.of rfl (Nat.le_of_ble_eq_true rfl) ?_
  dsimp only [lsOf]
  refine V.aload_n (pc := 0) 1 d_Ar_askMark_0 rfl rfl ?_
  refine V.bipush (pc := 1) d_Ar_askMark_1 ⟨by decide, by decide⟩ ?_
  refine V.cV1 (pc := 3) (kc2 := 0) (ks2 := 0) ml_Ar_13 hT_3 (cc_Tr_leave _ tr _ htr (by first | omega | (simp only [List.length_append, List.length_cons, List.length_nil]; omega)) _ _) d_Ar_askMark_3 (Nat.le_of_ble_eq_true rfl) (Nat.le_of_ble_eq_true rfl) (Nat.le_of_ble_eq_true rfl) (Nat.le_of_ble_eq_true rfl) ?_
  rintro _ _ _ ⟨rfl, rfl, tr, rfl, htr⟩
  dsimp only [Option.toList, List.cons_append, List.nil_append]
  refine V.iconst (pc := 6) d_Ar_askMark_6 ⟨by decide, by decide⟩ ?_
  refine V.aload_n (pc := 7) 0 d_Ar_askMark_7 rfl rfl ?_
  refine V.aload_n (pc := 8) 1 d_Ar_askMark_8 rfl rfl ?_
  refine V.cP1 (pc := 9) (kc2 := 0) (ks2 := 0) ml_Ar_19 hL.2.1 (hT_o (by omega) (by omega) ha) (cc_Th_askMark h a ha37 hL hd2 ha v hv L hS tr _ htr (by first | omega | (simp only [List.length_append, List.length_cons, List.length_nil]; omega)) _) d_Ar_askMark_9 (Nat.le_of_ble_eq_true rfl) (Nat.le_of_ble_eq_true rfl) (Nat.le_of_ble_eq_true rfl) (Nat.le_of_ble_eq_true rfl) ?_
  rintro _ _ _ ⟨rfl, rfl, tr, rfl, htr⟩
  dsimp only [Option.toList, List.cons_append, List.nil_append]
  refine V.imul (pc := 12) d_Ar_askMark_12 ⟨by omega, by omega⟩ ?_
  refine V.ret (pc := 13) (r := some (vI _)) d_Ar_askMark_13 (Or.inl rfl) rfl ?_
  refine ⟨rfl, rfl, tr, ?_⟩
  try simp only [List.append_assoc, List.cons_append, List.nil_append] at htr ⊢
  first | exact ⟨rfl, htr⟩ | exact ⟨trivial, htr⟩
set_option maxRecDepth 20000 in
theorem cc_Fo_askMark (h : MH) (a : Nat) (ha37 : 37 ≤ a) {ci d2 : Nat} {C own : String} {M2 : MD}   {fs : List MV} (hL : LinkU "RiverRoad$Thing" 19 ⟨"RiverRoad$Thing", "askSize", "(LRiverRoad$Trace;)I"⟩ own C M2 1 ci 5 F_St t_St) (hd2 : d2 ≤ 2) (ha : h a = some (kO ci fs)) (v : Int) (hv : 0 ≤ v ∧ v ≤ 40) (L : List Int) (hS : ∀ (tr : Nat → Int) (l : List Int), TRl tr l → l.length < 10 → ∀ sz : Nat, Ct M2 d2 0 0 [vR a, vR 3] (hT h tr l.length) sz (QAk h v (l ++ L) sz)) (tr : Nat → Int) (l : List Int) (htr : TRl tr l) (hl : l.length < 7) (sz : Nat) : Ct M_Fo_askMark 4 0 0 [vR a, vR 3] (hT h tr l.length) sz (QAk h (v + 3 - 1) (l ++ (33 :: 30 :: L)) sz) := by
  refine Ct.of rfl (Nat.le_of_ble_eq_true rfl) ?_
  dsimp only [lsOf]
  refine V.aload_n (pc := 0) 1 d_Fo_askMark_0 rfl rfl ?_
  refine V.bipush (pc := 1) d_Fo_askMark_1 ⟨by decide, by decide⟩ ?_
  refine V.cV1 (pc := 3) (kc2 := 0) (ks2 := 0) ml_Fo_10 hT_3 (cc_Tr_leave _ tr _ htr (by first | omega | (simp only [List.length_append, List.length_cons, List.length_nil]; omega)) _ _) d_Fo_askMark_3 (Nat.le_of_ble_eq_true rfl) (Nat.le_of_ble_eq_true rfl) (Nat.le_of_ble_eq_true rfl) (Nat.le_of_ble_eq_true rfl) ?_
  rintro _ _ _ ⟨rfl, rfl, tr, rfl, htr⟩
  dsimp only [Option.toList, List.cons_append, List.nil_append]
  refine V.aload_n (pc := 6) 0 d_Fo_askMark_6 rfl rfl ?_
  refine V.aload_n (pc := 7) 1 d_Fo_askMark_7 rfl rfl ?_
  refine V.cP1 (pc := 8) (kc2 := 0) (ks2 := 0) ml_Fo_20 hL.2.1 (hT_o (by omega) (by omega) ha) (cc_Th_askMark h a ha37 hL hd2 ha v hv L hS tr _ htr (by first | omega | (simp only [List.length_append, List.length_cons, List.length_nil]; omega)) _) d_Fo_askMark_8 (Nat.le_of_ble_eq_true rfl) (Nat.le_of_ble_eq_true rfl) (Nat.le_of_ble_eq_true rfl) (Nat.le_of_ble_eq_true rfl) ?_
  rintro _ _ _ ⟨rfl, rfl, tr, rfl, htr⟩
  dsimp only [Option.toList, List.cons_append, List.nil_append]
  refine V.iconst (pc := 11) d_Fo_askMark_11 ⟨by decide, by decide⟩ ?_
  refine V.isub (pc := 12) d_Fo_askMark_12 ⟨by omega, by omega⟩ ?_
  refine V.ret (pc := 13) (r := some (vI _)) d_Fo_askMark_13 (Or.inl rfl) rfl ?_
  refine ⟨rfl, rfl, tr, ?_⟩
  try simp only [List.append_assoc, List.cons_append, List.nil_append] at htr ⊢
  first | exact ⟨rfl, htr⟩ | exact ⟨trivial, htr⟩
set_option maxRecDepth 20000 in
theorem cc_Pe_askMark (h : MH) (a c : Nat) (ha37 : 37 ≤ a) (hc37 : 37 ≤ c) {v2 : MV} (n : Nat) (hn : 1 ≤ n ∧ n ≤ 20) (s f : Nat → Int) (har : arch s n) (ha : h a = some (kO 6 [vI (n : Int), v2, vR c])) (hc : h c = some (kA 0 (2 * n) f)) (hf : ∀ q, q < 2 * n → f q = pt s n q) (tr : Nat → Int) (l : List Int) (htr : TRl tr l) (hl : l.length < 5) (sz : Nat) : Ct M_Pe_askMark 5 0 0 [vR a, vR 3] (hT h tr l.length) sz (QAk h (2 * ((n : Int) + 3) + cn (nxt s n) (2 * n - 1)) (l ++ [32, 31, 30, 10, 21]) sz) := by
  refine Ct.of rfl (Nat.le_of_ble_eq_true rfl) ?_
  dsimp only [lsOf]
  refine V.aload_n (pc := 0) 1 d_Pe_askMark_0 rfl rfl ?_
  refine V.bipush (pc := 1) d_Pe_askMark_1 ⟨by decide, by decide⟩ ?_
  refine V.cV1 (pc := 3) (kc2 := 0) (ks2 := 0) ml_Pe_7 hT_3 (cc_Tr_leave _ tr _ htr (by first | omega | (simp only [List.length_append, List.length_cons, List.length_nil]; omega)) _ _) d_Pe_askMark_3 (Nat.le_of_ble_eq_true rfl) (Nat.le_of_ble_eq_true rfl) (Nat.le_of_ble_eq_true rfl) (Nat.le_of_ble_eq_true rfl) ?_
  rintro _ _ _ ⟨rfl, rfl, tr, rfl, htr⟩
  dsimp only [Option.toList, List.cons_append, List.nil_append]
  refine V.aload_n (pc := 6) 0 d_Pe_askMark_6 rfl rfl ?_
  refine V.aload_n (pc := 7) 1 d_Pe_askMark_7 rfl rfl ?_
  refine V.cP1 (pc := 8) (kc2 := 0) (ks2 := 0) ml_Pe_13 cl_Pe (hT_o (by omega) (by omega) ha) (cc_Ar_askMark h a ha37 ml_Th_19_Pe (d2 := 1) (by decide) ha n (by omega) [10] (fun tr l htr hl sz => cc_Th_askSize h a ha37 cl_Pe fl_Th_7_Ar (by decide) n rfl ha tr l htr (by omega) sz) tr _ htr (by first | omega | (simp only [List.length_append, List.length_cons, List.length_nil]; omega)) _) d_Pe_askMark_8 (Nat.le_of_ble_eq_true rfl) (Nat.le_of_ble_eq_true rfl) (Nat.le_of_ble_eq_true rfl) (Nat.le_of_ble_eq_true rfl) ?_
  rintro _ _ _ ⟨rfl, rfl, tr, rfl, htr⟩
  dsimp only [Option.toList, List.cons_append, List.nil_append]
  have hr := cn_rng (nxt_r9 s n) (2 * n - 1)
  refine V.aload_n (pc := 11) 0 d_Pe_askMark_11 rfl rfl ?_
  refine V.aload_n (pc := 12) 1 d_Pe_askMark_12 rfl rfl ?_
  refine V.cU1 (pc := 13) (kc2 := 0) (ks2 := 0) ml_Pe_17_Pe (hT_o (by omega) (by omega) ha) (cc_Ar_askWorth h a c ha37 hc37 cl_Pe n hn s f har ha hc hf tr _ htr (by first | omega | (simp only [List.length_append, List.length_cons, List.length_nil]; omega)) _) d_Pe_askMark_13 (Nat.le_of_ble_eq_true rfl) (Nat.le_of_ble_eq_true rfl) (Nat.le_of_ble_eq_true rfl) (Nat.le_of_ble_eq_true rfl) ?_
  rintro _ _ _ ⟨rfl, rfl, tr, rfl, htr⟩
  dsimp only [Option.toList, List.cons_append, List.nil_append]
  refine V.iadd (pc := 16) d_Pe_askMark_16 ⟨by omega, by omega⟩ ?_
  refine V.ret (pc := 17) (r := some (vI _)) d_Pe_askMark_17 (Or.inl rfl) rfl ?_
  refine ⟨rfl, rfl, tr, ?_⟩
  try simp only [List.append_assoc, List.cons_append, List.nil_append] at htr ⊢
  first | exact ⟨rfl, htr⟩ | exact ⟨trivial, htr⟩
