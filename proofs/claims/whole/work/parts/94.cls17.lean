/-! THE CLASS: ask, printed by wip/whole/gen/cls17.py -/
def hT (h : MH) (tr : Nat → Int) (k : Nat) : MH := hset (hset h 4 (kA 0 16 tr)) 3 (kO 1 [vR 4, vI (k : Int)])
theorem hT_3 {h : MH} {tr : Nat → Int} {k : Nat} : hT h tr k 3 = some (kO 1 [vR 4, vI (k : Int)]) := hset_s
theorem hT_4 {h : MH} {tr : Nat → Int} {k : Nat} : hT h tr k 4 = some (kA 0 16 tr) := hset_o (by decide) hset_s
theorem hT_o {h : MH} {tr : Nat → Int} {k a : Nat} {c : MC} (h3 : a ≠ 3) (h4 : a ≠ 4) (e : h a = some c) : hT h tr k a = some c := hset_o h3 (hset_o h4 e)
theorem hT_ne {h : MH} {tr : Nat → Int} {k a : Nat} (h3 : a ≠ 3) (h4 : a ≠ 4) : hT h tr k a = h a := by unfold hT; rw [hset_ne h3, hset_ne h4]
theorem hset_cm {h : MH} {a b : Nat} {c d : MC} (n : a ≠ b) : hset (hset h a c) b d = hset (hset h b d) a c := by
  funext x; unfold hset
  by_cases e : x = b
  · rw [if_pos e, if_neg (fun z => n (z.symm.trans e)), if_pos e]
  · rw [if_neg e]
    by_cases e2 : x = a
    · rw [if_pos e2, if_pos e2]
    · rw [if_neg e2, if_neg e2, if_neg e]
theorem hT_s4 {h : MH} {tr t2 : Nat → Int} {k : Nat} : hset (hT h tr k) 4 (kA 0 16 t2) = hT h t2 k := by
  unfold hT; rw [hset_cm (a := 3) (b := 4) (by decide), hset_tw]
theorem hT_s3 {h : MH} {tr : Nat → Int} {k k2 : Nat} {x : Int} (e : x = (k2 : Int)) : hset (hT h tr k) 3 (kO 1 [vR 4, vI x]) = hT h tr k2 := by
  unfold hT; rw [hset_tw, e]
theorem hT_0 {h : MH} {tr : Nat → Int} (b4 : h 4 = some (kA 0 16 tr)) : hset h 3 (kO 1 [vR 4, vI 0]) = hT h tr 0 := by
  unfold hT; rw [hset_id b4]; rfl
def TRl (tr : Nat → Int) (l : List Int) : Prop := ∀ i, i < l.length → tr i = (l[i]?).getD 0
theorem TRl.step {tr : Nat → Int} {l : List Int} (h : TRl tr l) (b : Int) : TRl (upf tr l.length b) (l ++ [b]) := by
  intro i hi
  rw [List.length_append] at hi
  by_cases e : i = l.length
  · subst e; rw [upf_e, List.getElem?_append_right (Nat.le_refl _), Nat.sub_self]; rfl
  · have h1 : i < l.length := by simp only [List.length_cons, List.length_nil] at hi; omega
    rw [upf_n e, List.getElem?_append_left h1]
    exact h i h1
def QA0 (h : MH) (l : List Int) (sz : Nat) : QT := fun r h2 s => s = sz ∧ r = none ∧ ∃ tr, h2 = hT h tr l.length ∧ TRl tr l
def QAk (h : MH) (v : Int) (l : List Int) (sz : Nat) : QT := fun r h2 s => s = sz ∧ r = some (vI v) ∧ ∃ tr, h2 = hT h tr l.length ∧ TRl tr l
set_option maxRecDepth 20000 in
theorem cc_Tr_leave (h : MH) (tr : Nat → Int) (l : List Int) (htr : TRl tr l) (hl : l.length < 16) (b : Int) (sz : Nat) : Ct M_Tr_leave 0 0 0 [vR 3, vI b] (hT h tr l.length) sz (QA0 h (l ++ [b]) sz) := by
  refine Ct.of rfl (Nat.le_of_ble_eq_true rfl) ?_
  dsimp only [lsOf]
  refine V.aload_n (pc := 0) 0 d_Tr_leave_0 rfl rfl ?_
  refine V.getf (pc := 1) 1 cl_Tr fl_Tr_13_Tr d_Tr_leave_1 hT_3 (Nat.le_of_ble_eq_true rfl) rfl ?_
  refine V.aload_n (pc := 4) 0 d_Tr_leave_4 rfl rfl ?_
  refine V.getf (pc := 5) 0 cl_Tr fl_Tr_7_Tr d_Tr_leave_5 hT_3 (Nat.le_of_ble_eq_true rfl) rfl ?_
  refine V.alen (pc := 8) d_Tr_leave_8 hT_4 ?_
  refine V.icmp_ge (tgt := 32) (pc := 9) d_Tr_leave_9 (by decide) (fun c_9 => ?_) (fun c_9 => ?_)
  · skip
    exfalso; omega
  · skip
    refine V.aload_n (pc := 12) 0 d_Tr_leave_12 rfl rfl ?_
    refine V.getf (pc := 13) 0 cl_Tr fl_Tr_7_Tr d_Tr_leave_13 hT_3 (Nat.le_of_ble_eq_true rfl) rfl ?_
    refine V.aload_n (pc := 16) 0 d_Tr_leave_16 rfl rfl ?_
    refine V.getf (pc := 17) 1 cl_Tr fl_Tr_13_Tr d_Tr_leave_17 hT_3 (Nat.le_of_ble_eq_true rfl) rfl ?_
    refine V.iload_n (pc := 20) 1 d_Tr_leave_20 rfl rfl ?_
    refine V.iast (pc := 21) d_Tr_leave_21 hT_4 (by omega) (by omega) ?_
    rw [hT_s4]
    refine V.aload_n (pc := 22) 0 d_Tr_leave_22 rfl rfl ?_
    refine V.dup (pc := 23) d_Tr_leave_23 (fun _ => rfl) ?_
    refine V.getf (pc := 24) 1 cl_Tr fl_Tr_13_Tr d_Tr_leave_24 hT_3 (Nat.le_of_ble_eq_true rfl) rfl ?_
    refine V.iconst (pc := 27) d_Tr_leave_27 ⟨by decide, by decide⟩ ?_
    refine V.iadd (pc := 28) d_Tr_leave_28 ⟨by omega, by omega⟩ ?_
    refine V.putf (pc := 29) 1 cl_Tr fl_Tr_13_Tr d_Tr_leave_29 hT_3 (Nat.le_of_ble_eq_true rfl) (Nat.le_of_ble_eq_true rfl) rfl (fun _ => ⟨rfl, rfl⟩) ?_
    dsimp only [List.set]
    rw [hT_s3 (k2 := l.length + 1) (by omega)]
    refine V.ret (pc := 32) (r := none) d_Tr_leave_32 rfl rfl ?_
    refine ⟨rfl, rfl, _, ?_, htr.step b⟩
    rw [Int.toNat_natCast, List.length_append]; rfl
set_option maxRecDepth 20000 in
theorem cc_Th_askSize (h : MH) (a : Nat) (ha37 : 37 ≤ a) {ci N : Nat} {C : String} {T : u_T} {ty : Nat → FieldType} {fs : List MV} (hC : Cls ci C T N ty) (hF : FL "RiverRoad$Thing" 7 T 0) (hN : 0 < N) (n : Nat) (hf0 : fs[0]? = some (vI (n : Int))) (ha : h a = some (kO ci fs)) (tr : Nat → Int) (l : List Int) (htr : TRl tr l) (hl : l.length < 14) (sz : Nat) : Ct M_Th_askSize 1 0 0 [vR a, vR 3] (hT h tr l.length) sz (QAk h ((n : Int)) (l ++ [10]) sz) := by
  refine Ct.of rfl (Nat.le_of_ble_eq_true rfl) ?_
  dsimp only [lsOf]
  refine V.aload_n (pc := 0) 1 d_Th_askSize_0 rfl rfl ?_
  refine V.bipush (pc := 1) d_Th_askSize_1 ⟨by decide, by decide⟩ ?_
  refine V.cV1 (pc := 3) (kc2 := 0) (ks2 := 0) ml_Th_13 hT_3 (cc_Tr_leave _ tr _ htr (by first | omega | (simp only [List.length_append, List.length_cons, List.length_nil]; omega)) _ _) d_Th_askSize_3 (Nat.le_of_ble_eq_true rfl) (Nat.le_of_ble_eq_true rfl) (Nat.le_of_ble_eq_true rfl) (Nat.le_of_ble_eq_true rfl) ?_
  rintro _ _ _ ⟨rfl, rfl, tr, rfl, htr⟩
  dsimp only [Option.toList, List.cons_append, List.nil_append]
  refine V.aload_n (pc := 6) 0 d_Th_askSize_6 rfl rfl ?_
  refine V.getf (pc := 7) 0 hC hF d_Th_askSize_7 (hT_o (by omega) (by omega) ha) hN hf0 ?_
  refine V.ret (pc := 10) (r := some (vI _)) d_Th_askSize_10 (Or.inl rfl) rfl ?_
  refine ⟨rfl, rfl, tr, ?_⟩
  try simp only [List.append_assoc, List.cons_append, List.nil_append] at htr ⊢
  first | exact ⟨rfl, htr⟩ | exact ⟨trivial, htr⟩
set_option maxRecDepth 20000 in
theorem cc_La_askSize (h : MH) (a : Nat) (ha37 : 37 ≤ a) {ci : Nat} {C : String} {fs : List MV} (hC : Cls ci C F_La 5 t_La) (n : Nat) (hn : n ≤ 20) (hf0 : fs[0]? = some (vI (n : Int))) (ha : h a = some (kO ci fs)) (tr : Nat → Int) (l : List Int) (htr : TRl tr l) (hl : l.length < 13) (sz : Nat) : Ct M_La_askSize 2 0 0 [vR a, vR 3] (hT h tr l.length) sz (QAk h (2 * (n : Int)) (l ++ [11, 10]) sz) := by
  refine Ct.of rfl (Nat.le_of_ble_eq_true rfl) ?_
  dsimp only [lsOf]
  refine V.aload_n (pc := 0) 1 d_La_askSize_0 rfl rfl ?_
  refine V.bipush (pc := 1) d_La_askSize_1 ⟨by decide, by decide⟩ ?_
  refine V.cV1 (pc := 3) (kc2 := 0) (ks2 := 0) ml_La_32 hT_3 (cc_Tr_leave _ tr _ htr (by first | omega | (simp only [List.length_append, List.length_cons, List.length_nil]; omega)) _ _) d_La_askSize_3 (Nat.le_of_ble_eq_true rfl) (Nat.le_of_ble_eq_true rfl) (Nat.le_of_ble_eq_true rfl) (Nat.le_of_ble_eq_true rfl) ?_
  rintro _ _ _ ⟨rfl, rfl, tr, rfl, htr⟩
  dsimp only [Option.toList, List.cons_append, List.nil_append]
  refine V.iconst (pc := 6) d_La_askSize_6 ⟨by decide, by decide⟩ ?_
  refine V.aload_n (pc := 7) 0 d_La_askSize_7 rfl rfl ?_
  refine V.aload_n (pc := 8) 1 d_La_askSize_8 rfl rfl ?_
  refine V.cP1 (pc := 9) (kc2 := 0) (ks2 := 0) ml_La_37 hC (hT_o (by omega) (by omega) ha) (cc_Th_askSize h a ha37 hC fl_Th_7_La (by decide) n hf0 ha tr _ htr (by first | omega | (simp only [List.length_append, List.length_cons, List.length_nil]; omega)) _) d_La_askSize_9 (Nat.le_of_ble_eq_true rfl) (Nat.le_of_ble_eq_true rfl) (Nat.le_of_ble_eq_true rfl) (Nat.le_of_ble_eq_true rfl) ?_
  rintro _ _ _ ⟨rfl, rfl, tr, rfl, htr⟩
  dsimp only [Option.toList, List.cons_append, List.nil_append]
  refine V.imul (pc := 12) d_La_askSize_12 ⟨by omega, by omega⟩ ?_
  refine V.ret (pc := 13) (r := some (vI _)) d_La_askSize_13 (Or.inl rfl) rfl ?_
  refine ⟨rfl, rfl, tr, ?_⟩
  try simp only [List.append_assoc, List.cons_append, List.nil_append] at htr ⊢
  first | exact ⟨rfl, htr⟩ | exact ⟨trivial, htr⟩
