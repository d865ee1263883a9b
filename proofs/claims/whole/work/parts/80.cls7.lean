/-! THE CLASS: folds sought, printed by wip/whole/gen/cls7.py -/
noncomputable def mtI (n s d : Nat) : Int := if mtK n s d = 15 then -1000000 else (mtK n s d : Int)
theorem mt_all : ∀ n : Fin 9, ∀ s : Fin 8, ∀ d : Fin 2, s.val < n.val → (if mtK n.val s.val d.val = 15 then (-1000000 : Int) else (mtK n.val s.val d.val : Int)) = (if s.val % 2 = d.val then (if s.val + 2 ≤ n.val then ((s.val : Int) + 1) else -1000000) else (if s.val = 0 then -1000000 else (s.val : Int) - 1)) ∧ (mtK n.val s.val d.val ≠ 15 → mtK n.val s.val d.val < n.val) := by decide +kernel
theorem mtI_eq {n s d : Nat} (hn : n ≤ 8) (hs : s < n) (hd : d ≤ 1) : mtI n s d = (if s % 2 = d then (if s + 2 ≤ n then ((s : Int) + 1) else -1000000) else (if s = 0 then -1000000 else (s : Int) - 1)) := (mt_all ⟨n, by omega⟩ ⟨s, by omega⟩ ⟨d, by omega⟩ hs).1
theorem mtK_lt {n s d : Nat} (hn : n ≤ 8) (hs : s < n) (hd : d ≤ 1) (h : mtK n s d ≠ 15) : mtK n s d < n := (mt_all ⟨n, by omega⟩ ⟨s, by omega⟩ ⟨d, by omega⟩ hs).2 h
set_option maxRecDepth 20000 in
theorem cc_RR_mateOf (n s d : Nat) (hn : n ≤ 8) (hs : s < n) (hd : d ≤ 1) (h : MH) (sz : Nat) : Ct M_RR_mateOf 0 0 0 [vI (n : Int), vI (s : Int), vI (d : Int)] h sz (Det (some (vI (mtI n s d))) h sz) := by
  refine Ct.of rfl (Nat.le_of_ble_eq_true rfl) ?_
  dsimp only [lsOf]
  have hm := mtI_eq hn hs hd
  refine V.iload_n (pc := 0) 1 d_RR_mateOf_0 rfl rfl ?_
  refine V.iconst (pc := 1) d_RR_mateOf_1 ⟨by decide, by decide⟩ ?_
  refine V.iand (pc := 2) (((s % 2 : Nat) : Int)) d_RR_mateOf_2 (b_and32 (k := s) rfl (by omega)) ?_
  refine V.iload_n (pc := 3) 2 d_RR_mateOf_3 rfl rfl ?_
  refine V.icmp_ne (tgt := 13) (pc := 4) d_RR_mateOf_4 (by decide) (fun c_4 => ?_) (fun c_4 => ?_)
  · skip
    refine V.iload_n (pc := 13) 1 d_RR_mateOf_13 rfl rfl ?_
    refine V.iconst (pc := 14) d_RR_mateOf_14 ⟨by decide, by decide⟩ ?_
    refine V.isub (pc := 15) d_RR_mateOf_15 ⟨by omega, by omega⟩ ?_
    refine V.istore_n (pc := 16) 3 d_RR_mateOf_16 rfl (Nat.le_of_ble_eq_true rfl) rfl ?_
    dsimp only [put]
    refine V.iload_n (pc := 17) 3 d_RR_mateOf_17 rfl rfl ?_
    refine V.if_lt (tgt := 26) (pc := 18) d_RR_mateOf_18 (by decide) (fun c_18 => ?_) (fun c_18 => ?_)
    · skip
      refine V.ldc (pc := 26) (-1000000) ck_RR_117 rfl ⟨by decide, by decide⟩ d_RR_mateOf_26 ?_
      refine V.goto (tgt := 32) (pc := 28) d_RR_mateOf_28 (by decide) ?_
      refine V.ret (pc := 32) (r := some (vI _)) d_RR_mateOf_32 (Or.inl rfl) rfl ?_
      exact detI (by rw [hm]; split <;> split <;> omega)
    · skip
      refine V.iload_n (pc := 21) 3 d_RR_mateOf_21 rfl rfl ?_
      refine V.iload_n (pc := 22) 0 d_RR_mateOf_22 rfl rfl ?_
      refine V.icmp_lt (tgt := 31) (pc := 23) d_RR_mateOf_23 (by decide) (fun c_23 => ?_) (fun c_23 => ?_)
      · skip
        refine V.iload_n (pc := 31) 3 d_RR_mateOf_31 rfl rfl ?_
        refine V.ret (pc := 32) (r := some (vI _)) d_RR_mateOf_32 (Or.inl rfl) rfl ?_
        exact detI (by rw [hm]; split <;> split <;> omega)
      · skip
        refine V.ldc (pc := 26) (-1000000) ck_RR_117 rfl ⟨by decide, by decide⟩ d_RR_mateOf_26 ?_
        refine V.goto (tgt := 32) (pc := 28) d_RR_mateOf_28 (by decide) ?_
        refine V.ret (pc := 32) (r := some (vI _)) d_RR_mateOf_32 (Or.inl rfl) rfl ?_
        exact detI (by rw [hm]; split <;> split <;> omega)
  · skip
    refine V.iload_n (pc := 7) 1 d_RR_mateOf_7 rfl rfl ?_
    refine V.iconst (pc := 8) d_RR_mateOf_8 ⟨by decide, by decide⟩ ?_
    refine V.iadd (pc := 9) d_RR_mateOf_9 ⟨by omega, by omega⟩ ?_
    refine V.goto (tgt := 16) (pc := 10) d_RR_mateOf_10 (by decide) ?_
    refine V.istore_n (pc := 16) 3 d_RR_mateOf_16 rfl (Nat.le_of_ble_eq_true rfl) rfl ?_
    dsimp only [put]
    refine V.iload_n (pc := 17) 3 d_RR_mateOf_17 rfl rfl ?_
    refine V.if_lt (tgt := 26) (pc := 18) d_RR_mateOf_18 (by decide) (fun c_18 => ?_) (fun c_18 => ?_)
    · skip
      refine V.ldc (pc := 26) (-1000000) ck_RR_117 rfl ⟨by decide, by decide⟩ d_RR_mateOf_26 ?_
      refine V.goto (tgt := 32) (pc := 28) d_RR_mateOf_28 (by decide) ?_
      refine V.ret (pc := 32) (r := some (vI _)) d_RR_mateOf_32 (Or.inl rfl) rfl ?_
      exact detI (by rw [hm]; split <;> split <;> omega)
    · skip
      refine V.iload_n (pc := 21) 3 d_RR_mateOf_21 rfl rfl ?_
      refine V.iload_n (pc := 22) 0 d_RR_mateOf_22 rfl rfl ?_
      refine V.icmp_lt (tgt := 31) (pc := 23) d_RR_mateOf_23 (by decide) (fun c_23 => ?_) (fun c_23 => ?_)
      · skip
        refine V.iload_n (pc := 31) 3 d_RR_mateOf_31 rfl rfl ?_
        refine V.ret (pc := 32) (r := some (vI _)) d_RR_mateOf_32 (Or.inl rfl) rfl ?_
        exact detI (by rw [hm]; split <;> split <;> omega)
      · skip
        refine V.ldc (pc := 26) (-1000000) ck_RR_117 rfl ⟨by decide, by decide⟩ d_RR_mateOf_26 ?_
        refine V.goto (tgt := 32) (pc := 28) d_RR_mateOf_28 (by decide) ?_
        refine V.ret (pc := 32) (r := some (vI _)) d_RR_mateOf_32 (Or.inl rfl) rfl ?_
        exact detI (by rw [hm]; split <;> split <;> omega)
/-- a stamp's place, as the class has it -/
noncomputable def plI (P s : Nat) : Int := if dg P s = 0 then -1000000 else (dg P s : Int) - 1
def STF (n k F P : Nat) (fs fp : Nat → Int) : Prop := (∀ j, j < k → fs j = (dg F j : Int)) ∧ (∀ s, s < n → fp s = plI P s) ∧ (∀ j, j < k → dg F j < n) ∧ (∀ s, s < n → dg P s ≤ k) ∧ ∀ j, k ≤ j → j < 16 → dg F j = 0
theorem okK_iff (n k F P d m b : Nat) : okK n k F P d m b = true ↔ (mtK n (dg F b) d = 15 ∨ (dg P m < dg P (mtK n (dg F b) d) ∧ dg P (mtK n (dg F b) d) ≤ k)) := by
  unfold okK
  by_cases e : mtK n (dg F b) d = 15
  · rw [beq_t e]; exact ⟨fun _ => Or.inl e, fun _ => rfl⟩
  · rw [beq_f e]
    show cond (ltB (dg P m) (dg P (mtK n (dg F b) d))) (Nat.ble (dg P (mtK n (dg F b) d)) k) false = true ↔ _
    cases h1 : ltB (dg P m) (dg P (mtK n (dg F b) d)) with
    | true =>
      have h2 := (ltB_iff _ _).mp h1
      show Nat.ble (dg P (mtK n (dg F b) d)) k = true ↔ _
      constructor
      · intro h; exact Or.inr ⟨h2, Nat.le_of_ble_eq_true h⟩
      · rintro (h | h)
        · exact absurd h e
        · exact ble_t h.2
    | false =>
      have h2 : ¬ dg P m < dg P (mtK n (dg F b) d) := fun z => by rw [(ltB_iff _ _).mpr z] at h1; cases h1
      show false = true ↔ _
      constructor
      · intro h; cases h
      · rintro (h | h)
        · exact absurd h e
        · exact absurd h.1 h2
theorem bwK_s (n k F P d m c : Nat) : bwK n k F P d m (c + 1) = cond (okK n k F P d m (k - (c + 1))) (bwK n k F P d m c) false := rfl
set_option maxRecDepth 20000 in
theorem lq_RR_closes (n k F P d : Nat) (hn : n ≤ 8) (hk : k ≤ n) (hd : d ≤ 1) (fs fp : Nat → Int) (hST : STF n k F P fs fp) (h : MH) (h6 : h 6 = some (kA 0 8 fs)) (h7 : h 7 = some (kA 0 8 fp)) (sz : Nat) (m : Nat) (fr : Int) (hfr : fr = (dg P m : Int) - 1) (hm0 : 1 ≤ dg P m) : ∀ (c b : Nat) (bb : Int) (y : Option MV), b + c = k → bb = b →
    V M_RR_closes 1 5 [some (vI (n : Int)), some (vI fr), some (vI (k : Int)), some (vI (d : Int)), some (vR 6), some (vR 7), some (vI bb), y] [] h sz 0 0 (Det (some (vI (if bwK n k F P d m c = true then 1 else 0))) h sz) := by
  intro c
  induction c with
  | zero =>
    intro b bb y hc hbb
    refine V.iload (pc := 5) d_RR_closes_5 rfl ?_
    refine V.iload_n (pc := 7) 2 d_RR_closes_7 rfl rfl ?_
    refine V.icmp_ge (tgt := 51) (pc := 8) d_RR_closes_8 (by decide) (fun c_8 => ?_) (fun c_8 => ?_)
    · skip
      refine V.iconst (pc := 51) d_RR_closes_51 ⟨by decide, by decide⟩ ?_
      refine V.ret (pc := 52) (r := some (vI _)) d_RR_closes_52 (Or.inr ⟨rfl, Or.inr rfl⟩) rfl ?_
      exact detT rfl
    · skip
      exfalso; omega
  | succ c ih =>
    intro b bb y hc hbb
    refine V.iload (pc := 5) d_RR_closes_5 rfl ?_
    refine V.iload_n (pc := 7) 2 d_RR_closes_7 rfl rfl ?_
    refine V.icmp_ge (tgt := 51) (pc := 8) d_RR_closes_8 (by decide) (fun c_8 => ?_) (fun c_8 => ?_)
    · skip
      exfalso; omega
    · skip
      have hbk : k - (c + 1) = b := by omega
      have hFb := hST.2.2.1 b (by omega)
      have hok := okK_iff n k F P d m b
      rw [bwK_s, hbk]
      have hmt := mtI_eq hn hFb hd
      have hml := mtK_lt hn hFb hd
      by_cases e15 : mtK n (dg F b) d = 15
      · skip
        have e1 : mtI n (dg F b) d = -1000000 := by unfold mtI; rw [if_pos e15]
        rw [hok.mpr (Or.inl e15)]
        refine V.iload_n (pc := 11) 0 d_RR_closes_11 rfl rfl ?_
        refine V.aload (pc := 12) d_RR_closes_12 rfl ?_
        refine V.iload (pc := 14) d_RR_closes_14 rfl ?_
        refine V.iald (pc := 16) d_RR_closes_16 h6 (by omega) (by omega) ?_
        rw [show bb.toNat = b by omega, hST.1 b (by omega)]
        refine V.iload_n (pc := 17) 3 d_RR_closes_17 rfl rfl ?_
        refine V.cS3 (pc := 18) (kc2 := 0) (ks2 := 0) ml_RR_307 (cc_RR_mateOf n (dg F b) d hn (hFb) hd _ _) d_RR_closes_18 (Nat.le_of_ble_eq_true rfl) (Nat.le_of_ble_eq_true rfl) (Nat.le_of_ble_eq_true rfl) (Nat.le_of_ble_eq_true rfl) ?_
        rintro _ _ _ ⟨rfl, rfl, rfl⟩
        dsimp only [Option.toList, List.cons_append, List.nil_append]
        refine V.istore (pc := 21) d_RR_closes_21 (Nat.le_of_ble_eq_true rfl) rfl ?_
        dsimp only [put]
        refine V.iload (pc := 23) d_RR_closes_23 rfl ?_
        refine V.ldc (pc := 25) (-1000000) ck_RR_117 rfl ⟨by decide, by decide⟩ d_RR_closes_25 ?_
        refine V.icmp_eq (tgt := 45) (pc := 27) d_RR_closes_27 (by decide) (fun c_27 => ?_) (fun c_27 => ?_)
        · skip
          refine V.iinc (pc := 45) d_RR_closes_45 rfl ⟨by omega, by omega⟩ (Nat.le_of_ble_eq_true rfl) rfl ?_
          dsimp only [put]
          refine V.goto (tgt := 5) (pc := 48) d_RR_closes_48 (by decide) ?_
          exact ih (b + 1) _ _ (by omega) (by omega)
        · skip
          exfalso; omega
      · skip
        have e1 : mtI n (dg F b) d = (mtK n (dg F b) d : Int) := by unfold mtI; rw [if_neg e15]
        have hml2 := hml e15
        have hpo := hST.2.1 _ hml2
        have hpk := hST.2.2.2.1 _ hml2
        generalize mtK n (dg F b) d = o9 at e15 e1 hml2 hpo hpk hok
        unfold plI at hpo
        refine V.iload_n (pc := 11) 0 d_RR_closes_11 rfl rfl ?_
        refine V.aload (pc := 12) d_RR_closes_12 rfl ?_
        refine V.iload (pc := 14) d_RR_closes_14 rfl ?_
        refine V.iald (pc := 16) d_RR_closes_16 h6 (by omega) (by omega) ?_
        rw [show bb.toNat = b by omega, hST.1 b (by omega)]
        refine V.iload_n (pc := 17) 3 d_RR_closes_17 rfl rfl ?_
        refine V.cS3 (pc := 18) (kc2 := 0) (ks2 := 0) ml_RR_307 (cc_RR_mateOf n (dg F b) d hn (hFb) hd _ _) d_RR_closes_18 (Nat.le_of_ble_eq_true rfl) (Nat.le_of_ble_eq_true rfl) (Nat.le_of_ble_eq_true rfl) (Nat.le_of_ble_eq_true rfl) ?_
        rintro _ _ _ ⟨rfl, rfl, rfl⟩
        dsimp only [Option.toList, List.cons_append, List.nil_append]
        refine V.istore (pc := 21) d_RR_closes_21 (Nat.le_of_ble_eq_true rfl) rfl ?_
        dsimp only [put]
        refine V.iload (pc := 23) d_RR_closes_23 rfl ?_
        refine V.ldc (pc := 25) (-1000000) ck_RR_117 rfl ⟨by decide, by decide⟩ d_RR_closes_25 ?_
        refine V.icmp_eq (tgt := 45) (pc := 27) d_RR_closes_27 (by decide) (fun c_27 => ?_) (fun c_27 => ?_)
        · skip
          exfalso; omega
        · skip
          refine V.aload (pc := 30) d_RR_closes_30 rfl ?_
          refine V.iload (pc := 32) d_RR_closes_32 rfl ?_
          refine V.iald (pc := 34) d_RR_closes_34 h7 (by omega) (by omega) ?_
          rw [show (mtI n (dg F b) d).toNat = o9 by omega, hpo]
          refine V.iload_n (pc := 35) 1 d_RR_closes_35 rfl rfl ?_
          refine V.iload_n (pc := 36) 2 d_RR_closes_36 rfl rfl ?_
          refine V.cS3 (pc := 37) (kc2 := 0) (ks2 := 0) ml_RR_295 (cc_RR_isBetween _ _ _ _ _) d_RR_closes_37 (Nat.le_of_ble_eq_true rfl) (Nat.le_of_ble_eq_true rfl) (Nat.le_of_ble_eq_true rfl) (Nat.le_of_ble_eq_true rfl) ?_
          rintro _ _ _ ⟨rfl, rfl, rfl⟩
          dsimp only [Option.toList, List.cons_append, List.nil_append]
          refine V.ifB_ne (tgt := 45) (pc := 40) d_RR_closes_40 (by decide) (fun c_40 => ?_) (fun c_40 => ?_)
          · skip
            refine V.iinc (pc := 45) d_RR_closes_45 rfl ⟨by omega, by omega⟩ (Nat.le_of_ble_eq_true rfl) rfl ?_
            dsimp only [put]
            refine V.goto (tgt := 5) (pc := 48) d_RR_closes_48 (by decide) ?_
            have e9 : okK n k F P d m b = true := hok.mpr (Or.inr (by
              by_cases z : dg P o9 = 0
              · rw [if_pos z] at c_40; omega
              · rw [if_neg z] at c_40; omega))
            rw [e9]
            exact ih (b + 1) _ _ (by omega) (by omega)
          · skip
            refine V.iconst (pc := 43) d_RR_closes_43 ⟨by decide, by decide⟩ ?_
            refine V.ret (pc := 44) (r := some (vI _)) d_RR_closes_44 (Or.inr ⟨rfl, Or.inl rfl⟩) rfl ?_
            have e9 : okK n k F P d m b = false := by
              cases e : okK n k F P d m b with
              | false => rfl
              | true =>
                exfalso
                rcases hok.mp e with z | z
                · exact e15 z
                · apply c_40
                  rw [if_neg (by omega)]; omega
            rw [e9]
            exact detF (fun z => by cases z)
set_option maxRecDepth 20000 in
theorem cc_RR_closes (n k F P d : Nat) (hn : n ≤ 8) (hk : k ≤ n) (hd : d ≤ 1) (fs fp : Nat → Int) (hST : STF n k F P fs fp) (h : MH) (h6 : h 6 = some (kA 0 8 fs)) (h7 : h 7 = some (kA 0 8 fp)) (sz : Nat) (m : Nat) (hm0 : 1 ≤ dg P m) (hmk : dg P m ≤ k) : Ct M_RR_closes 1 0 0 [vI (n : Int), vI ((dg P m : Int) - 1), vI (k : Int), vI (d : Int), vR 6, vR 7] h sz (Det (some (vI (if bwK n k F P d m (k - dg P m) = true then 1 else 0))) h sz) := by
  refine Ct.of rfl (Nat.le_of_ble_eq_true rfl) ?_
  dsimp only [lsOf]
  refine V.iload_n (pc := 0) 1 d_RR_closes_0 rfl rfl ?_
  refine V.iconst (pc := 1) d_RR_closes_1 ⟨by decide, by decide⟩ ?_
  refine V.iadd (pc := 2) d_RR_closes_2 ⟨by omega, by omega⟩ ?_
  refine V.istore (pc := 3) d_RR_closes_3 (Nat.le_of_ble_eq_true rfl) rfl ?_
  dsimp only [put]
  refine V.pad ?_
  exact lq_RR_closes n k F P d hn hk hd fs fp hST _ h6 h7 _ m _ rfl hm0 (k - dg P m) (dg P m) _ none (by omega) (by omega)
set_option maxRecDepth 20000 in
theorem lq_RR_fits (n k F P s : Nat) (hn : n ≤ 8) (hk : k ≤ n) (hs : s < n) (fs fp : Nat → Int) (hST : STF n k F P fs fp) (h : MH) (h6 : h 6 = some (kA 0 8 fs)) (h7 : h 7 = some (kA 0 8 fp)) (sz : Nat) (d : Nat) (hd : d ≤ 1) (Q : QT) (hT : clK n k F P s d = true → ∀ (y2 : Option MV) (d2 : Int), d2 = (d : Int) + 1 → V M_RR_fits 2 3 [some (vI (n : Int)), some (vI (k : Int)), some (vI (s : Int)), some (vR 6), some (vR 7), some (vI d2), y2] [] h sz 0 0 Q) (hFl : clK n k F P s d = false → Q (some (vI 0)) h sz) (y : Option MV) :
    V M_RR_fits 2 3 [some (vI (n : Int)), some (vI (k : Int)), some (vI (s : Int)), some (vR 6), some (vR 7), some (vI (d : Int)), y] [] h sz 0 0 Q := by
  refine V.iload (pc := 3) d_RR_fits_3 rfl ?_
  refine V.iconst (pc := 5) d_RR_fits_5 ⟨by decide, by decide⟩ ?_
  refine V.icmp_ge (tgt := 61) (pc := 6) d_RR_fits_6 (by decide) (fun c_6 => ?_) (fun c_6 => ?_)
  · skip
    exfalso; omega
  · skip
    refine V.iload_n (pc := 9) 0 d_RR_fits_9 rfl rfl ?_
    refine V.iload_n (pc := 10) 2 d_RR_fits_10 rfl rfl ?_
    refine V.iload (pc := 11) d_RR_fits_11 rfl ?_
    refine V.cS3 (pc := 13) (kc2 := 0) (ks2 := 0) ml_RR_307 (cc_RR_mateOf n s d hn (hs) hd _ _) d_RR_fits_13 (Nat.le_of_ble_eq_true rfl) (Nat.le_of_ble_eq_true rfl) (Nat.le_of_ble_eq_true rfl) (Nat.le_of_ble_eq_true rfl) ?_
    rintro _ _ _ ⟨rfl, rfl, rfl⟩
    dsimp only [Option.toList, List.cons_append, List.nil_append]
    refine V.istore (pc := 16) d_RR_fits_16 (Nat.le_of_ble_eq_true rfl) rfl ?_
    dsimp only [put]
    by_cases e15 : mtK n s d = 15
    · skip
      have e1 : mtI n s d = -1000000 := by unfold mtI; rw [if_pos e15]
      have eR : clK n k F P s d = true := by unfold clK; rw [beq_t e15]; rfl
      refine V.iload (pc := 18) d_RR_fits_18 rfl ?_
      refine V.ldc (pc := 20) (-1000000) ck_RR_117 rfl ⟨by decide, by decide⟩ d_RR_fits_20 ?_
      refine V.icmp_eq (tgt := 55) (pc := 22) d_RR_fits_22 (by decide) (fun c_22 => ?_) (fun c_22 => ?_)
      · skip
        refine V.iinc (pc := 55) d_RR_fits_55 rfl ⟨by omega, by omega⟩ (Nat.le_of_ble_eq_true rfl) rfl ?_
        dsimp only [put]
        refine V.goto (tgt := 3) (pc := 58) d_RR_fits_58 (by decide) ?_
        exact hT eR _ _ rfl
      · skip
        exfalso; omega
    · skip
      have e1 : mtI n s d = (mtK n s d : Int) := by unfold mtI; rw [if_neg e15]
      have hml2 := mtK_lt hn hs hd e15
      have hpo := hST.2.1 _ hml2
      have hpk := hST.2.2.2.1 _ hml2
      have eR : clK n k F P s d = cond (Nat.beq (dg P (mtK n s d)) 0) true (bwK n k F P d (mtK n s d) (k - dg P (mtK n s d))) := by unfold clK; rw [beq_f e15]; rfl
      generalize mtK n s d = m at e15 e1 hml2 hpo hpk eR
      unfold plI at hpo
      refine V.iload (pc := 18) d_RR_fits_18 rfl ?_
      refine V.ldc (pc := 20) (-1000000) ck_RR_117 rfl ⟨by decide, by decide⟩ d_RR_fits_20 ?_
      refine V.icmp_eq (tgt := 55) (pc := 22) d_RR_fits_22 (by decide) (fun c_22 => ?_) (fun c_22 => ?_)
      · skip
        exfalso; omega
      · skip
        refine V.aload (pc := 25) d_RR_fits_25 rfl ?_
        refine V.iload (pc := 27) d_RR_fits_27 rfl ?_
        refine V.iald (pc := 29) d_RR_fits_29 h7 (by omega) (by omega) ?_
        rw [show (mtI n s d).toNat = m by omega, hpo]
        refine V.ldc (pc := 30) (-1000000) ck_RR_117 rfl ⟨by decide, by decide⟩ d_RR_fits_30 ?_
        refine V.icmp_eq (tgt := 55) (pc := 32) d_RR_fits_32 (by decide) (fun c_32 => ?_) (fun c_32 => ?_)
        · skip
          refine V.iinc (pc := 55) d_RR_fits_55 rfl ⟨by omega, by omega⟩ (Nat.le_of_ble_eq_true rfl) rfl ?_
          dsimp only [put]
          refine V.goto (tgt := 3) (pc := 58) d_RR_fits_58 (by decide) ?_
          have hz : dg P m = 0 := by
            by_cases z : dg P m = 0
            · exact z
            · rw [if_neg z] at c_32; omega
          exact hT (by rw [eR, beq_t hz]; rfl) _ _ rfl
        · skip
          have hz : dg P m ≠ 0 := fun z => by rw [if_pos z] at c_32; exact c_32 rfl
          refine V.iload_n (pc := 35) 0 d_RR_fits_35 rfl rfl ?_
          refine V.aload (pc := 36) d_RR_fits_36 rfl ?_
          refine V.iload (pc := 38) d_RR_fits_38 rfl ?_
          refine V.iald (pc := 40) d_RR_fits_40 h7 (by omega) (by omega) ?_
          rw [show (mtI n s d).toNat = m by omega, hpo, if_neg hz]
          refine V.iload_n (pc := 41) 1 d_RR_fits_41 rfl rfl ?_
          refine V.iload (pc := 42) d_RR_fits_42 rfl ?_
          refine V.aload_n (pc := 44) 3 d_RR_fits_44 rfl rfl ?_
          refine V.aload (pc := 45) d_RR_fits_45 rfl ?_
          refine V.cS6 (pc := 47) (kc2 := 0) (ks2 := 0) ml_RR_311 (cc_RR_closes n k F P d hn hk hd fs fp hST _ h6 h7 _ m (by omega) hpk) d_RR_fits_47 (Nat.le_of_ble_eq_true rfl) (Nat.le_of_ble_eq_true rfl) (Nat.le_of_ble_eq_true rfl) (Nat.le_of_ble_eq_true rfl) ?_
          rintro _ _ _ ⟨rfl, rfl, rfl⟩
          dsimp only [Option.toList, List.cons_append, List.nil_append]
          refine V.ifB_ne (tgt := 55) (pc := 50) d_RR_fits_50 (by decide) (fun c_50 => ?_) (fun c_50 => ?_)
          · skip
            refine V.iinc (pc := 55) d_RR_fits_55 rfl ⟨by omega, by omega⟩ (Nat.le_of_ble_eq_true rfl) rfl ?_
            dsimp only [put]
            refine V.goto (tgt := 3) (pc := 58) d_RR_fits_58 (by decide) ?_
            exact hT (by rw [eR, beq_f hz]; exact c_50) _ _ rfl
          · skip
            refine V.iconst (pc := 53) d_RR_fits_53 ⟨by decide, by decide⟩ ?_
            refine V.ret (pc := 54) (r := some (vI _)) d_RR_fits_54 (Or.inr ⟨rfl, Or.inl rfl⟩) rfl ?_
            exact hFl (by rw [eR, beq_f hz]; exact eq_false_of_ne_true c_50)
set_option maxRecDepth 20000 in
theorem cc_RR_fits (n k F P s : Nat) (hn : n ≤ 8) (hk : k ≤ n) (hs : s < n) (fs fp : Nat → Int) (hST : STF n k F P fs fp) (h : MH) (h6 : h 6 = some (kA 0 8 fs)) (h7 : h 7 = some (kA 0 8 fp)) (sz : Nat) : Ct M_RR_fits 2 0 0 [vI (n : Int), vI (k : Int), vI (s : Int), vR 6, vR 7] h sz (Det (some (vI (if clK n k F P s 0 = true ∧ clK n k F P s 1 = true then 1 else 0))) h sz) := by
  refine Ct.of rfl (Nat.le_of_ble_eq_true rfl) ?_
  dsimp only [lsOf]
  refine V.iconst (pc := 0) d_RR_fits_0 ⟨by decide, by decide⟩ ?_
  refine V.istore (pc := 1) d_RR_fits_1 (Nat.le_of_ble_eq_true rfl) rfl ?_
  dsimp only [put]
  refine V.pad ?_
  refine lq_RR_fits n k F P s hn hk hs fs fp hST h h6 h7 sz 0 (by decide) _ (fun t0 y2 d2 e2 => ?_) (fun f0 => detF (fun z => by rw [z.1] at f0; cases f0)) none
  have e3 : d2 = ((1 : Nat) : Int) := by omega
  rw [e3]
  refine lq_RR_fits n k F P s hn hk hs fs fp hST h h6 h7 sz 1 (by decide) _ (fun t1 y3 d3 e4 => ?_) (fun f1 => detF (fun z => by rw [z.2] at f1; cases f1)) y2
  refine V.iload (pc := 3) d_RR_fits_3 rfl ?_
  refine V.iconst (pc := 5) d_RR_fits_5 ⟨by decide, by decide⟩ ?_
  refine V.icmp_ge (tgt := 61) (pc := 6) d_RR_fits_6 (by decide) (fun c_6 => ?_) (fun c_6 => ?_)
  · skip
    refine V.iconst (pc := 61) d_RR_fits_61 ⟨by decide, by decide⟩ ?_
    refine V.ret (pc := 62) (r := some (vI _)) d_RR_fits_62 (Or.inr ⟨rfl, Or.inr rfl⟩) rfl ?_
    exact detT ⟨t0, t1⟩
  · skip
    exfalso; omega
