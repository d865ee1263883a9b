/-! THE CLASS: folds sought, printed by wip/whole/gen/cls7.py -/
noncomputable def mtI (n s d : Nat) : Int := if mtK n s d = 15 then -1000000 else (mtK n s d : Int)
theorem mt_all : ∀ n : Fin 9, ∀ s : Fin 8, ∀ d : Fin 2, s.val < n.val → (if mtK n.val s.val d.val = 15 then (-1000000 : Int) else (mtK n.val s.val d.val : Int)) = (if s.val % 2 = d.val then (if s.val + 2 ≤ n.val then ((s.val : Int) + 1) else -1000000) else (if s.val = 0 then -1000000 else (s.val : Int) - 1)) ∧ (mtK n.val s.val d.val ≠ 15 → mtK n.val s.val d.val < n.val) := by decide +kernel
theorem mtI_eq {n s d : Nat} (hn : n ≤ 8) (hs : s < n) (hd : d ≤ 1) : mtI n s d = (if s % 2 = d then (if s + 2 ≤ n then ((s : Int) + 1) else -1000000) else (if s = 0 then -1000000 else (s : Int) - 1)) := (mt_all ⟨n, by omega⟩ ⟨s, by omega⟩ ⟨d, by omega⟩ hs).1
theorem mtK_lt {n s d : Nat} (hn : n ≤ 8) (hs : s < n) (hd : d ≤ 1) (h : mtK n s d ≠ 15) : mtK n s d < n := (mt_all ⟨n, by omega⟩ ⟨s, by omega⟩ ⟨d, by omega⟩ hs).2 h
set_option maxRecDepth 20000 in
theorem cc_RR_mateOf (n s d : Nat) (hn : n ≤ 8) (hs : s < n) (hd : d ≤ 1) (h : MH) (sz : Nat) : Ct M_RR_mateOf 0 0 0 [vI (n : Int), vI (s : Int), vI (d : Int)] h sz (Det (some (vI (mtI n s d))) h sz) := by
  refine Ct.of rfl (Nat.le_of_ble_eq_true rfl) ?_
  dsimp only [lsOf]
  have hm := mtI_eq hn hs hd
  refine V.iload_n (pc := 0) 1 d_RR_mateOf_0 rfl rfl ?_
  refine V.iconst (pc := 1) d_RR_mateOf_1 ⟨by decide, by decide⟩ ?_
  refine V.iand (pc := 2) (((s % 2 : Nat) : Int)) d_RR_mateOf_2 (b_and32 (k := s) rfl (by omega)) ?_
  refine V.iload_n (pc := 3) 2 d_RR_mateOf_3 rfl rfl ?_
  refine V.icmp_ne (tgt := 13) (pc := 4) d_RR_mateOf_4 (by decide) (fun c_4 => ?_) (fun c_4 => ?_)
  · skip
    refine V.iload_n (pc := 13) 1 d_RR_mateOf_13 rfl rfl ?_
    refine V.iconst (pc := 14) d_RR_mateOf_14 ⟨by decide, by decide⟩ ?_
    refine V.isub (pc := 15) d_RR_mateOf_15 ⟨by omega, by omega⟩ ?_
    refine V.istore_n (pc := 16) 3 d_RR_mateOf_16 rfl (Nat.le_of_ble_eq_true rfl) rfl ?_
    dsimp only [put]
    refine V.iload_n (pc := 17) 3 d_RR_mateOf_17 rfl rfl ?_
    refine V.if_lt (tgt := 26) (pc := 18) d_RR_mateOf_18 (by decide) (fun c_18 => ?_) (fun c_18 => ?_)
    · skip
      refine V.ldc (pc := 26) (-1000000) ck_RR_117 rfl ⟨by decide, by decide⟩ d_RR_mateOf_26 ?_
      refine V.goto (tgt := 32) (pc := 28) d_RR_mateOf_28 (by decide) ?_
      refine V.ret (pc := 32) (r := some (vI _)) d_RR_mateOf_32 (Or.inl rfl) rfl ?_
      exact detI (by rw [hm]; split <;> split <;> omega)
    · skip
      refine V.iload_n (pc := 21) 3 d_RR_mateOf_21 rfl rfl ?_
      refine V.iload_n (pc := 22) 0 d_RR_mateOf_22 rfl rfl ?_
      refine V.icmp_lt (tgt := 31) (pc := 23) d_RR_mateOf_23 (by decide) (fun c_23 => ?_) (fun c_23 => ?_)
      · skip
        refine V.iload_n (pc := 31) 3 d_RR_mateOf_31 rfl rfl ?_
        refine V.ret (pc := 32) (r := some (vI _)) d_RR_mateOf_32 (Or.inl rfl) rfl ?_
        exact detI (by rw [hm]; split <;> split <;> omega)
      · skip
        refine V.ldc (pc := 26) (-1000000) ck_RR_117 rfl ⟨by decide, by decide⟩ d_RR_mateOf_26 ?_
        refine V.goto (tgt := 32) (pc := 28) d_RR_mateOf_28 (by decide) ?_
        refine V.ret (pc := 32) (r := some (vI _)) d_RR_mateOf_32 (Or.inl rfl) rfl ?_
        exact detI (by rw [hm]; split <;> split <;> omega)
  · skip
    refine V.iload_n (pc := 7) 1 d_RR_mateOf_7 rfl rfl ?_
    refine V.iconst (pc := 8) d_RR_mateOf_8 ⟨by decide, by decide⟩ ?_
    refine V.iadd (pc := 9) d_RR_mateOf_9 ⟨by omega, by omega⟩ ?_
    refine V.goto (tgt := 16) (pc := 10) d_RR_mateOf_10 (by decide) ?_
    refine V.istore_n (pc := 16) 3 d_RR_mateOf_16 rfl (Nat.le_of_ble_eq_true rfl) rfl ?_
    dsimp only [put]
    refine V.iload_n (pc := 17) 3 d_RR_mateOf_17 rfl rfl ?_
    refine V.if_lt (tgt := 26) (pc := 18) d_RR_mateOf_18 (by decide) (fun c_18 => ?_) (fun c_18 => ?_)
    · skip
      refine V.ldc (pc := 26) (-1000000) ck_RR_117 rfl ⟨by decide, by decide⟩ d_RR_mateOf_26 ?_
      refine V.goto (tgt := 32) (pc := 28) d_RR_mateOf_28 (by decide) ?_
      refine V.ret (pc := 32) (r := some (vI _)) d_RR_mateOf_32 (Or.inl rfl) rfl ?_
      exact detI (by rw [hm]; split <;> split <;> omega)
    · skip
      refine V.iload_n (pc := 21) 3 d_RR_mateOf_21 rfl rfl ?_
      refine V.iload_n (pc := 22) 0 d_RR_mateOf_22 rfl rfl ?_
      refine V.icmp_lt (tgt := 31) (pc := 23) d_RR_mateOf_23 (by decide) (fun c_23 => ?_) (fun c_23 => ?_)
      · skip
        refine V.iload_n (pc := 31) 3 d_RR_mateOf_31 rfl rfl ?_
        refine V.ret (pc := 32) (r := some (vI _)) d_RR_mateOf_32 (Or.inl rfl) rfl ?_
        exact detI (by rw [hm]; split <;> split <;> omega)
      · skip
        refine V.ldc (pc := 26) (-1000000) ck_RR_117 rfl ⟨by decide, by decide⟩ d_RR_mateOf_26 ?_
        refine V.goto (tgt := 32) (pc := 28) d_RR_mateOf_28 (by decide) ?_
        refine V.ret (pc := 32) (r := some (vI _)) d_RR_mateOf_32 (Or.inl rfl) rfl ?_
        exact detI (by rw [hm]; split <;> split <;> omega)
/-- a stamp's place, as the class has it -/
noncomputable def plI (P s : Nat) : Int := if dg P s = 0 then -1000000 else (dg P s : Int) - 1
def STF (n k F P : Nat) (fs fp : Nat → Int) : Prop := (∀ j, j < k → fs j = (dg F j : Int)) ∧ (∀ s, s < n → fp s = plI P s) ∧ (∀ j, j < k → dg F j < n) ∧ (∀ s, s < n → dg P s ≤ k) ∧ ∀ j, k ≤ j → j < 16 → dg F j = 0
theorem okK_iff (n k F P d m b : Nat) : okK n k F P d m b = true ↔ (mtK n (dg F b) d = 15 ∨ (dg P m < dg P (mtK n (dg F b) d) ∧ dg P (mtK n (dg F b) d) ≤ k)) := by
  unfold okK
  by_cases e : mtK n (dg F b) d = 15
  · rw [beq_t e]; exact ⟨fun _ => Or.inl e, fun _ => rfl⟩
  · rw [beq_f e]
    show cond (ltB (dg P m) (dg P (mtK n (dg F b) d))) (Nat.ble (dg P (mtK n (dg F b) d)) k) false = true ↔ _
    cases h1 : ltB (dg P m) (dg P (mtK n (dg F b) d)) with
    | true =>
      have h2 := (ltB_iff _ _).mp h1
      show Nat.ble (dg P (mtK n (dg F b) d)) k = true ↔ _
      constructor
      · intro h; exact Or.inr ⟨h2, Nat.le_of_ble_eq_true h⟩
      · rintro (h | h)
        · exact absurd h e
        · exact ble_t h.2
    | false =>
      have h2 : ¬ dg P m < dg P (mtK n (dg F b) d) := fun z => by rw [(ltB_iff _ _).mpr z] at h1; cases h1
      show false = true ↔ _
      constructor
      · intro h; cases h
      · rintro (h | h)
        · exact absurd h e
        · exact absurd h.1 h2
theorem bwK_s (n k F P d m c : Nat) : bwK n k F P d m (c + 1) = cond (okK n k F P d m (k - (c + 1))) (bwK n k F P d m c) false := rfl
set_option maxRecDepth 20000 in
theorem lq_RR_closes (n k F P s d : Nat) (hn : n ≤ 8) (hk : k ≤ n) (hs : s < n) (hd : d ≤ 1) (fs fp : Nat → Int) (hST : STF n k F P fs fp) (x : Int) (h : MH) (h0 : h 0 = some (oRR x)) (h6 : h 6 = some (kA 0 8 fs)) (h7 : h 7 = some (kA 0 8 fp)) (sz : Nat) (m : Nat) (mi9 fr : Int) (hfr : fr = (dg P m : Int) - 1) (hm0 : 1 ≤ dg P m) : ∀ (c b : Nat) (bb : Int) (y : Option MV), b + c = k → bb = b →
    V M_RR_closes 1 45 [some (vR 0), some (vI (n : Int)), some (vI (k : Int)), some (vI (s : Int)), some (vI (d : Int)), some (vI mi9), some (vI fr), some (vI bb), y] [] h sz 0 0 (Det (some (vI (if bwK n k F P d m c = true then 1 else 0))) h sz) := by
  intro c
  induction c with
  | zero =>
    intro b bb y hc hbb
    refine V.iload (pc := 45) d_RR_closes_45 rfl ?_
    refine V.iload_n (pc := 47) 2 d_RR_closes_47 rfl rfl ?_
    refine V.icmp_ge (tgt := 97) (pc := 48) d_RR_closes_48 (by decide) (fun c_48 => ?_) (fun c_48 => ?_)
    · skip
      refine V.iconst (pc := 97) d_RR_closes_97 ⟨by decide, by decide⟩ ?_
      refine V.ret (pc := 98) (r := some (vI _)) d_RR_closes_98 (Or.inr ⟨rfl, Or.inr rfl⟩) rfl ?_
      exact detT rfl
    · skip
      exfalso; omega
  | succ c ih =>
    intro b bb y hc hbb
    refine V.iload (pc := 45) d_RR_closes_45 rfl ?_
    refine V.iload_n (pc := 47) 2 d_RR_closes_47 rfl rfl ?_
    refine V.icmp_ge (tgt := 97) (pc := 48) d_RR_closes_48 (by decide) (fun c_48 => ?_) (fun c_48 => ?_)
    · skip
      exfalso; omega
    · skip
      have hbk : k - (c + 1) = b := by omega
      have hFb := hST.2.2.1 b (by omega)
      have hok := okK_iff n k F P d m b
      rw [bwK_s, hbk]
      have hmt := mtI_eq hn hFb hd
      have hml := mtK_lt hn hFb hd
      by_cases e15 : mtK n (dg F b) d = 15
      · skip
        have e1 : mtI n (dg F b) d = -1000000 := by unfold mtI; rw [if_pos e15]
        rw [hok.mpr (Or.inl e15)]
        refine V.iload_n (pc := 51) 1 d_RR_closes_51 rfl rfl ?_
        refine V.aload_n (pc := 52) 0 d_RR_closes_52 rfl rfl ?_
        refine V.getf (pc := 53) 4 cl_RR fl_RR_36_RR d_RR_closes_53 h0 (Nat.le_of_ble_eq_true rfl) rfl ?_
        refine V.iload (pc := 56) d_RR_closes_56 rfl ?_
        refine V.iald (pc := 58) d_RR_closes_58 h6 (by omega) (by omega) ?_
        rw [show bb.toNat = b by omega, hST.1 b (by omega)]
        refine V.iload (pc := 59) d_RR_closes_59 rfl ?_
        refine V.cS3 (pc := 61) (kc2 := 0) (ks2 := 0) ml_RR_310 (cc_RR_mateOf n (dg F b) d hn (hFb) hd _ _) d_RR_closes_61 (Nat.le_of_ble_eq_true rfl) (Nat.le_of_ble_eq_true rfl) (Nat.le_of_ble_eq_true rfl) (Nat.le_of_ble_eq_true rfl) ?_
        rintro _ _ _ ⟨rfl, rfl, rfl⟩
        dsimp only [Option.toList, List.cons_append, List.nil_append]
        refine V.istore (pc := 64) d_RR_closes_64 (Nat.le_of_ble_eq_true rfl) rfl ?_
        dsimp only [put]
        refine V.iload (pc := 66) d_RR_closes_66 rfl ?_
        refine V.ldc (pc := 68) (-1000000) ck_RR_117 rfl ⟨by decide, by decide⟩ d_RR_closes_68 ?_
        refine V.icmp_eq (tgt := 91) (pc := 70) d_RR_closes_70 (by decide) (fun c_70 => ?_) (fun c_70 => ?_)
        · skip
          refine V.iinc (pc := 91) d_RR_closes_91 rfl ⟨by omega, by omega⟩ (Nat.le_of_ble_eq_true rfl) rfl ?_
          dsimp only [put]
          refine V.goto (tgt := 45) (pc := 94) d_RR_closes_94 (by decide) ?_
          exact ih (b + 1) _ _ (by omega) (by omega)
        · skip
          exfalso; omega
      · skip
        have e1 : mtI n (dg F b) d = (mtK n (dg F b) d : Int) := by unfold mtI; rw [if_neg e15]
        have hml2 := hml e15
        have hpo := hST.2.1 _ hml2
        have hpk := hST.2.2.2.1 _ hml2
        generalize mtK n (dg F b) d = o9 at e15 e1 hml2 hpo hpk hok
        unfold plI at hpo
        refine V.iload_n (pc := 51) 1 d_RR_closes_51 rfl rfl ?_
        refine V.aload_n (pc := 52) 0 d_RR_closes_52 rfl rfl ?_
        refine V.getf (pc := 53) 4 cl_RR fl_RR_36_RR d_RR_closes_53 h0 (Nat.le_of_ble_eq_true rfl) rfl ?_
        refine V.iload (pc := 56) d_RR_closes_56 rfl ?_
        refine V.iald (pc := 58) d_RR_closes_58 h6 (by omega) (by omega) ?_
        rw [show bb.toNat = b by omega, hST.1 b (by omega)]
        refine V.iload (pc := 59) d_RR_closes_59 rfl ?_
        refine V.cS3 (pc := 61) (kc2 := 0) (ks2 := 0) ml_RR_310 (cc_RR_mateOf n (dg F b) d hn (hFb) hd _ _) d_RR_closes_61 (Nat.le_of_ble_eq_true rfl) (Nat.le_of_ble_eq_true rfl) (Nat.le_of_ble_eq_true rfl) (Nat.le_of_ble_eq_true rfl) ?_
        rintro _ _ _ ⟨rfl, rfl, rfl⟩
        dsimp only [Option.toList, List.cons_append, List.nil_append]
        refine V.istore (pc := 64) d_RR_closes_64 (Nat.le_of_ble_eq_true rfl) rfl ?_
        dsimp only [put]
        refine V.iload (pc := 66) d_RR_closes_66 rfl ?_
        refine V.ldc (pc := 68) (-1000000) ck_RR_117 rfl ⟨by decide, by decide⟩ d_RR_closes_68 ?_
        refine V.icmp_eq (tgt := 91) (pc := 70) d_RR_closes_70 (by decide) (fun c_70 => ?_) (fun c_70 => ?_)
        · skip
          exfalso; omega
        · skip
          refine V.aload_n (pc := 73) 0 d_RR_closes_73 rfl rfl ?_
          refine V.getf (pc := 74) 5 cl_RR fl_RR_39_RR d_RR_closes_74 h0 (Nat.le_of_ble_eq_true rfl) rfl ?_
          refine V.iload (pc := 77) d_RR_closes_77 rfl ?_
          refine V.iald (pc := 79) d_RR_closes_79 h7 (by omega) (by omega) ?_
          rw [show (mtI n (dg F b) d).toNat = o9 by omega, hpo]
          refine V.iload (pc := 80) d_RR_closes_80 rfl ?_
          refine V.iload_n (pc := 82) 2 d_RR_closes_82 rfl rfl ?_
          refine V.cS3 (pc := 83) (kc2 := 0) (ks2 := 0) ml_RR_295 (cc_RR_isBetween _ _ _ _ _) d_RR_closes_83 (Nat.le_of_ble_eq_true rfl) (Nat.le_of_ble_eq_true rfl) (Nat.le_of_ble_eq_true rfl) (Nat.le_of_ble_eq_true rfl) ?_
          rintro _ _ _ ⟨rfl, rfl, rfl⟩
          dsimp only [Option.toList, List.cons_append, List.nil_append]
          refine V.ifB_ne (tgt := 91) (pc := 86) d_RR_closes_86 (by decide) (fun c_86 => ?_) (fun c_86 => ?_)
          · skip
            refine V.iinc (pc := 91) d_RR_closes_91 rfl ⟨by omega, by omega⟩ (Nat.le_of_ble_eq_true rfl) rfl ?_
            dsimp only [put]
            refine V.goto (tgt := 45) (pc := 94) d_RR_closes_94 (by decide) ?_
            have e9 : okK n k F P d m b = true := hok.mpr (Or.inr (by
              by_cases z : dg P o9 = 0
              · rw [if_pos z] at c_86; omega
              · rw [if_neg z] at c_86; omega))
            rw [e9]
            exact ih (b + 1) _ _ (by omega) (by omega)
          · skip
            refine V.iconst (pc := 89) d_RR_closes_89 ⟨by decide, by decide⟩ ?_
            refine V.ret (pc := 90) (r := some (vI _)) d_RR_closes_90 (Or.inr ⟨rfl, Or.inl rfl⟩) rfl ?_
            have e9 : okK n k F P d m b = false := by
              cases e : okK n k F P d m b with
              | false => rfl
              | true =>
                exfalso
                rcases hok.mp e with z | z
                · exact e15 z
                · apply c_86
                  rw [if_neg (by omega)]; omega
            rw [e9]
            exact detF (fun z => by cases z)
set_option maxRecDepth 20000 in
theorem cc_RR_closes (n k F P s d : Nat) (hn : n ≤ 8) (hk : k ≤ n) (hs : s < n) (hd : d ≤ 1) (fs fp : Nat → Int) (hST : STF n k F P fs fp) (x : Int) (h : MH) (h0 : h 0 = some (oRR x)) (h6 : h 6 = some (kA 0 8 fs)) (h7 : h 7 = some (kA 0 8 fp)) (sz : Nat) : Ct M_RR_closes 1 0 0 [vR 0, vI (n : Int), vI (k : Int), vI (s : Int), vI (d : Int)] h sz (Det (some (vI (if clK n k F P s d = true then 1 else 0))) h sz) := by
  refine Ct.of rfl (Nat.le_of_ble_eq_true rfl) ?_
  dsimp only [lsOf]
  refine V.iload_n (pc := 0) 1 d_RR_closes_0 rfl rfl ?_
  refine V.iload_n (pc := 1) 3 d_RR_closes_1 rfl rfl ?_
  refine V.iload (pc := 2) d_RR_closes_2 rfl ?_
  refine V.cS3 (pc := 4) (kc2 := 0) (ks2 := 0) ml_RR_310 (cc_RR_mateOf n s d hn (hs) hd _ _) d_RR_closes_4 (Nat.le_of_ble_eq_true rfl) (Nat.le_of_ble_eq_true rfl) (Nat.le_of_ble_eq_true rfl) (Nat.le_of_ble_eq_true rfl) ?_
  rintro _ _ _ ⟨rfl, rfl, rfl⟩
  dsimp only [Option.toList, List.cons_append, List.nil_append]
  by_cases e15 : mtK n s d = 15
  · skip
    have e1 : mtI n s d = -1000000 := by unfold mtI; rw [if_pos e15]
    have eR : clK n k F P s d = true := by unfold clK; rw [beq_t e15]; rfl
    rw [eR]
    refine V.istore (pc := 7) d_RR_closes_7 (Nat.le_of_ble_eq_true rfl) rfl ?_
    dsimp only [put]
    refine V.iload (pc := 9) d_RR_closes_9 rfl ?_
    refine V.ldc (pc := 11) (-1000000) ck_RR_117 rfl ⟨by decide, by decide⟩ d_RR_closes_11 ?_
    refine V.icmp_eq (tgt := 28) (pc := 13) d_RR_closes_13 (by decide) (fun c_13 => ?_) (fun c_13 => ?_)
    · skip
      refine V.iconst (pc := 28) d_RR_closes_28 ⟨by decide, by decide⟩ ?_
      refine V.ret (pc := 29) (r := some (vI _)) d_RR_closes_29 (Or.inr ⟨rfl, Or.inr rfl⟩) rfl ?_
      exact detT rfl
    · skip
      exfalso; omega
  · skip
    have e1 : mtI n s d = (mtK n s d : Int) := by unfold mtI; rw [if_neg e15]
    have hml2 := mtK_lt hn hs hd e15
    have hpo := hST.2.1 _ hml2
    have hpk := hST.2.2.2.1 _ hml2
    have eR : clK n k F P s d = cond (Nat.beq (dg P (mtK n s d)) 0) true (bwK n k F P d (mtK n s d) (k - dg P (mtK n s d))) := by unfold clK; rw [beq_f e15]; rfl
    rw [eR]
    generalize mtK n s d = m at e15 e1 hml2 hpo hpk
    unfold plI at hpo
    refine V.istore (pc := 7) d_RR_closes_7 (Nat.le_of_ble_eq_true rfl) rfl ?_
    dsimp only [put]
    refine V.iload (pc := 9) d_RR_closes_9 rfl ?_
    refine V.ldc (pc := 11) (-1000000) ck_RR_117 rfl ⟨by decide, by decide⟩ d_RR_closes_11 ?_
    refine V.icmp_eq (tgt := 28) (pc := 13) d_RR_closes_13 (by decide) (fun c_13 => ?_) (fun c_13 => ?_)
    · skip
      exfalso; omega
    · skip
      refine V.aload_n (pc := 16) 0 d_RR_closes_16 rfl rfl ?_
      refine V.getf (pc := 17) 5 cl_RR fl_RR_39_RR d_RR_closes_17 h0 (Nat.le_of_ble_eq_true rfl) rfl ?_
      refine V.iload (pc := 20) d_RR_closes_20 rfl ?_
      refine V.iald (pc := 22) d_RR_closes_22 h7 (by omega) (by omega) ?_
      rw [show (mtI n s d).toNat = m by omega, hpo]
      refine V.ldc (pc := 23) (-1000000) ck_RR_117 rfl ⟨by decide, by decide⟩ d_RR_closes_23 ?_
      refine V.icmp_ne (tgt := 30) (pc := 25) d_RR_closes_25 (by decide) (fun c_25 => ?_) (fun c_25 => ?_)
      · skip
        have hz : dg P m ≠ 0 := fun z => by rw [if_pos z] at c_25; exact c_25 rfl
        refine V.aload_n (pc := 30) 0 d_RR_closes_30 rfl rfl ?_
        refine V.getf (pc := 31) 5 cl_RR fl_RR_39_RR d_RR_closes_31 h0 (Nat.le_of_ble_eq_true rfl) rfl ?_
        refine V.iload (pc := 34) d_RR_closes_34 rfl ?_
        refine V.iald (pc := 36) d_RR_closes_36 h7 (by omega) (by omega) ?_
        rw [show (mtI n s d).toNat = m by omega, hpo, if_neg hz]
        refine V.istore (pc := 37) d_RR_closes_37 (Nat.le_of_ble_eq_true rfl) rfl ?_
        dsimp only [put]
        refine V.iload (pc := 39) d_RR_closes_39 rfl ?_
        refine V.iconst (pc := 41) d_RR_closes_41 ⟨by decide, by decide⟩ ?_
        refine V.iadd (pc := 42) d_RR_closes_42 ⟨by omega, by omega⟩ ?_
        refine V.istore (pc := 43) d_RR_closes_43 (Nat.le_of_ble_eq_true rfl) rfl ?_
        dsimp only [put]
        rw [beq_f hz]
        refine V.pad ?_
        exact lq_RR_closes n k F P s d hn hk hs hd fs fp hST x _ h0 h6 h7 _ m _ _ rfl (by omega) (k - dg P m) (dg P m) _ none (by omega) (by omega)
      · skip
        refine V.iconst (pc := 28) d_RR_closes_28 ⟨by decide, by decide⟩ ?_
        refine V.ret (pc := 29) (r := some (vI _)) d_RR_closes_29 (Or.inr ⟨rfl, Or.inr rfl⟩) rfl ?_
        have hz : dg P m = 0 := by
          by_cases z : dg P m = 0
          · exact z
          · rw [if_neg z] at c_25; omega
        rw [beq_t hz]
        exact detT rfl
set_option maxRecDepth 20000 in
theorem cc_RR_fits (n k F P s : Nat) (hn : n ≤ 8) (hk : k ≤ n) (hs : s < n) (fs fp : Nat → Int) (hST : STF n k F P fs fp) (x : Int) (h : MH) (h0 : h 0 = some (oRR x)) (h6 : h 6 = some (kA 0 8 fs)) (h7 : h 7 = some (kA 0 8 fp)) (sz : Nat) : Ct M_RR_fits 2 0 0 [vR 0, vI (n : Int), vI (k : Int), vI (s : Int)] h sz (Det (some (vI (if clK n k F P s 0 = true ∧ clK n k F P s 1 = true then 1 else 0))) h sz) := by
  refine Ct.of rfl (Nat.le_of_ble_eq_true rfl) ?_
  dsimp only [lsOf]
  refine V.aload_n (pc := 0) 0 d_RR_fits_0 rfl rfl ?_
  refine V.iload_n (pc := 1) 1 d_RR_fits_1 rfl rfl ?_
  refine V.iload_n (pc := 2) 2 d_RR_fits_2 rfl rfl ?_
  refine V.iload_n (pc := 3) 3 d_RR_fits_3 rfl rfl ?_
  refine V.iconst (pc := 4) d_RR_fits_4 ⟨by decide, by decide⟩ ?_
  have e0 : (vI 0 : MV) = vI ((0 : Nat) : Int) := rfl
  rw [e0]
  refine V.cV4 (pc := 5) (kc2 := 0) (ks2 := 0) ml_RR_306 h0 (cc_RR_closes n k F P s 0 hn hk hs (by decide) fs fp hST x _ h0 h6 h7 _) d_RR_fits_5 (Nat.le_of_ble_eq_true rfl) (Nat.le_of_ble_eq_true rfl) (Nat.le_of_ble_eq_true rfl) (Nat.le_of_ble_eq_true rfl) ?_
  rintro _ _ _ ⟨rfl, rfl, rfl⟩
  dsimp only [Option.toList, List.cons_append, List.nil_append]
  refine V.ifB_eq (tgt := 26) (pc := 8) d_RR_fits_8 (by decide) (fun c_8 => ?_) (fun c_8 => ?_)
  · skip
    refine V.iconst (pc := 26) d_RR_fits_26 ⟨by decide, by decide⟩ ?_
    refine V.ret (pc := 27) (r := some (vI _)) d_RR_fits_27 (Or.inr ⟨rfl, Or.inl rfl⟩) rfl ?_
    exact detF (fun z => c_8 z.1)
  · skip
    refine V.aload_n (pc := 11) 0 d_RR_fits_11 rfl rfl ?_
    refine V.iload_n (pc := 12) 1 d_RR_fits_12 rfl rfl ?_
    refine V.iload_n (pc := 13) 2 d_RR_fits_13 rfl rfl ?_
    refine V.iload_n (pc := 14) 3 d_RR_fits_14 rfl rfl ?_
    refine V.iconst (pc := 15) d_RR_fits_15 ⟨by decide, by decide⟩ ?_
    have e1 : (vI 1 : MV) = vI ((1 : Nat) : Int) := rfl
    rw [e1]
    refine V.cV4 (pc := 16) (kc2 := 0) (ks2 := 0) ml_RR_306 h0 (cc_RR_closes n k F P s 1 hn hk hs (by decide) fs fp hST x _ h0 h6 h7 _) d_RR_fits_16 (Nat.le_of_ble_eq_true rfl) (Nat.le_of_ble_eq_true rfl) (Nat.le_of_ble_eq_true rfl) (Nat.le_of_ble_eq_true rfl) ?_
    rintro _ _ _ ⟨rfl, rfl, rfl⟩
    dsimp only [Option.toList, List.cons_append, List.nil_append]
    refine V.ifB_eq (tgt := 26) (pc := 19) d_RR_fits_19 (by decide) (fun c_19 => ?_) (fun c_19 => ?_)
    · skip
      refine V.iconst (pc := 26) d_RR_fits_26 ⟨by decide, by decide⟩ ?_
      refine V.ret (pc := 27) (r := some (vI _)) d_RR_fits_27 (Or.inr ⟨rfl, Or.inl rfl⟩) rfl ?_
      exact detF (fun z => c_19 z.2)
    · skip
      refine V.iconst (pc := 22) d_RR_fits_22 ⟨by decide, by decide⟩ ?_
      refine V.goto (tgt := 27) (pc := 23) d_RR_fits_23 (by decide) ?_
      refine V.ret (pc := 27) (r := some (vI _)) d_RR_fits_27 (Or.inr ⟨rfl, Or.inr rfl⟩) rfl ?_
      exact detT ⟨c_8, c_19⟩
