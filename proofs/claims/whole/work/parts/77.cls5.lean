/-! THE CLASS: lands, printed by wip/whole/gen/cls5.py -/
set_option maxRecDepth 20000 in
theorem lq_JA_fill (b t n : Nat) (v : Int) (h : MH) (sz : Nat) (hn : n ≤ 1000) : ∀ (c p : Nat) (ii : Int) (g : Nat → Int), p + c = n → ii = p → (∀ q, q < p → g q = v) →
    V M_JA_fill 0 5 [some (vR b), some (vI v), some (vI ii), some (vI (n : Int))] [] (hset h b (kA t n g)) sz 0 0 (fun r h2 s => r = none ∧ s = sz ∧ ∃ g : Nat → Int, h2 = hset h b (kA t n g) ∧ ∀ q, q < n → g q = v) := by
  intro c
  induction c with
  | zero =>
    intro p ii g hc hii hg
    refine V.iload_n (pc := 5) 2 d_JA_fill_5 rfl rfl ?_
    refine V.iload_n (pc := 6) 3 d_JA_fill_6 rfl rfl ?_
    refine V.icmp_ge (tgt := 20) (pc := 7) d_JA_fill_7 (by decide) (fun c_7 => ?_) (fun c_7 => ?_)
    · skip
      refine V.ret (pc := 20) (r := none) d_JA_fill_20 rfl rfl ?_
      exact ⟨rfl, rfl, g, rfl, fun q hq => hg q (by omega)⟩
    · skip
      exfalso; omega
  | succ c ih =>
    intro p ii g hc hii hg
    refine V.iload_n (pc := 5) 2 d_JA_fill_5 rfl rfl ?_
    refine V.iload_n (pc := 6) 3 d_JA_fill_6 rfl rfl ?_
    refine V.icmp_ge (tgt := 20) (pc := 7) d_JA_fill_7 (by decide) (fun c_7 => ?_) (fun c_7 => ?_)
    · skip
      exfalso; omega
    · skip
      refine V.aload_n (pc := 10) 0 d_JA_fill_10 rfl rfl ?_
      refine V.iload_n (pc := 11) 2 d_JA_fill_11 rfl rfl ?_
      refine V.iload_n (pc := 12) 1 d_JA_fill_12 rfl rfl ?_
      refine V.iast (pc := 13) d_JA_fill_13 hset_s (by omega) (by omega) ?_
      refine V.iinc (pc := 14) d_JA_fill_14 rfl ⟨by omega, by omega⟩ (Nat.le_of_ble_eq_true rfl) rfl ?_
      dsimp only [put]
      refine V.goto (tgt := 5) (pc := 17) d_JA_fill_17 (by decide) ?_
      rw [hset_tw]
      refine ih (p + 1) _ _ (by omega) (by omega) (fun q hq => ?_)
      rw [show ii.toNat = p by omega]
      by_cases e : q = p
      · rw [e, upf_e]
      · rw [upf_n e]; exact hg q (by omega)
theorem hset_id {h : MH} {a : Nat} {c : MC} (e : h a = some c) : hset h a c = h := by
  funext b; unfold hset; split
  · rename_i q; rw [q, e]
  · rfl
set_option maxRecDepth 20000 in
theorem cc_JA_fill (b t n : Nat) (v : Int) (f : Nat → Int) (h : MH) (hb : h b = some (kA t n f)) (sz : Nat) (hn : n ≤ 1000) : Ct M_JA_fill 0 0 0 [vR b, vI v] h sz (fun r h2 s => r = none ∧ s = sz ∧ ∃ g : Nat → Int, h2 = hset h b (kA t n g) ∧ ∀ q, q < n → g q = v) := by
  refine Ct.of rfl (Nat.le_of_ble_eq_true rfl) ?_
  dsimp only [lsOf]
  refine V.iconst (pc := 0) d_JA_fill_0 ⟨by decide, by decide⟩ ?_
  refine V.istore_n (pc := 1) 2 d_JA_fill_1 rfl (Nat.le_of_ble_eq_true rfl) rfl ?_
  dsimp only [put]
  refine V.aload_n (pc := 2) 0 d_JA_fill_2 rfl rfl ?_
  refine V.alen (pc := 3) d_JA_fill_3 hb ?_
  refine V.istore_n (pc := 4) 3 d_JA_fill_4 rfl (Nat.le_of_ble_eq_true rfl) rfl ?_
  dsimp only [put]
  have e9 := lq_JA_fill b t n v h sz hn n 0 0 f (by omega) rfl (fun q hq => by omega)
  rw [hset_id hb] at e9
  exact e9
def ncL2 (x : Int) : Int := if x < 0 then -1000000 else x
theorem and1_32 : ∀ k : Fin 64, Int32.ofInt (k.val : Int) &&& Int32.ofInt 1 = Int32.ofInt ((k.val % 2 : Nat) : Int) := by decide +kernel
theorem b_and32 {k : Nat} {y : Int} (hy : y = k) (hk : k < 64) : i32 y → i32 1 → Int32.ofInt y &&& Int32.ofInt 1 = Int32.ofInt ((k % 2 : Nat) : Int) ∧ i32 ((k % 2 : Nat) : Int) := by
  intro _ _
  rw [hy]
  exact ⟨and1_32 ⟨k, hk⟩, by unfold i32; omega⟩
set_option maxRecDepth 20000 in
theorem lq_RR_numL1 (n : Nat) (hn : 1 ≤ n ∧ n ≤ 20) (F G : Nat → Int) (hF : PR F (2 * n)) (hG : PR G (2 * n)) (bo bu bl t1 t2 : Nat) (f1 f2 : Nat → Int) (h : MH) (ho : h bo = some (kA t1 (2 * n) f1)) (hu : h bu = some (kA t2 (2 * n) f2)) (hf1 : ∀ q, q < 2 * n → f1 q = F q) (hf2 : ∀ q, q < 2 * n → f2 q = G q) (hne : bo ≠ bl ∧ bu ≠ bl) (sz : Nat) (Q : QT) (p : Nat) (hp : p < 2 * n) (ma pp : Int) (hma : ma = ((lpS F G (2 * n) p).2 : Int)) (hpp : pp = p) (hfree : (lpS F G (2 * n) p).1 p < 0) (s : Nat) (s1 : 2 ≤ s) (s2 : s ≤ 2 * n) (s4 : wk F G p s = p) (s5 : ∀ i j, i < j → j < s → wk F G p i ≠ wk F G p j) (K : ∀ (l : Nat → Int) (x y : Option MV), (∀ q, q < 2 * n → ((∃ i, i < s ∧ wk F G p i = q) → l q = ma) ∧ (¬ (∃ i, i < s ∧ wk F G p i = q) → l q = ncL2 ((lpS F G (2 * n) p).1 q))) → V M_RR_numberLoops 1 11 [some (vR bo), some (vR bu), some (vR bl), some (vI (ma + 1)), some (vI (pp + 1)), x, y] [] (hset h bl (kA 0 (2 * n) l)) sz 0 0 Q) : ∀ (c k : Nat) (qq ss : Int) (l : Nat → Int), k + c = s → ss = k → qq = ((wk F G p k : Nat) : Int) → 0 ≤ ma → (∀ q, q < 2 * n → ((∃ i, i < k ∧ wk F G p i = q) → l q = ma) ∧ (¬ (∃ i, i < k ∧ wk F G p i = q) → l q = ncL2 ((lpS F G (2 * n) p).1 q))) →
    V M_RR_numberLoops 1 25 [some (vR bo), some (vR bu), some (vR bl), some (vI ma), some (vI pp), some (vI qq), some (vI ss)] [] (hset h bl (kA 0 (2 * n) l)) sz 0 0 Q := by
  have hinv := lpS_inv hF hG p (by omega)
  have hma2 := hinv.2.2.2
  intro c
  induction c with
  | zero =>
    intro k qq ss l hc hss hqq hm0 hl
    have hks : k = s := by omega
    rw [hks] at hl hqq
    have hqq2 : qq.toNat = p := by rw [s4] at hqq; omega
    have hvis : l p = ma := (hl p hp).1 ⟨0, by omega, rfl⟩
    refine V.iload (pc := 25) d_RR_numberLoops_25 rfl ?_
    refine V.aload_n (pc := 27) 2 d_RR_numberLoops_27 rfl rfl ?_
    refine V.alen (pc := 28) d_RR_numberLoops_28 hset_s ?_
    refine V.icmp_ge (tgt := 72) (pc := 29) d_RR_numberLoops_29 (by decide) (fun c_29 => ?_) (fun c_29 => ?_)
    · skip
      refine V.aload_n (pc := 72) 2 d_RR_numberLoops_72 rfl rfl ?_
      refine V.iload (pc := 73) d_RR_numberLoops_73 rfl ?_
      refine V.iald (pc := 75) d_RR_numberLoops_75 hset_s (by omega) (by omega) ?_
      rw [show pp.toNat = p by omega, hvis]
      refine V.iload_n (pc := 76) 3 d_RR_numberLoops_76 rfl rfl ?_
      refine V.icmp_ne (tgt := 83) (pc := 77) d_RR_numberLoops_77 (by decide) (fun c_77 => ?_) (fun c_77 => ?_)
      · skip
        exfalso; omega
      · skip
        refine V.iinc (pc := 80) d_RR_numberLoops_80 rfl ⟨by omega, by omega⟩ (Nat.le_of_ble_eq_true rfl) rfl ?_
        dsimp only [put]
        refine V.iinc (pc := 83) d_RR_numberLoops_83 rfl ⟨by omega, by omega⟩ (Nat.le_of_ble_eq_true rfl) rfl ?_
        dsimp only [put]
        refine V.goto (tgt := 11) (pc := 86) d_RR_numberLoops_86 (by decide) ?_
        exact K l _ _ hl
    · skip
      refine V.aload_n (pc := 32) 2 d_RR_numberLoops_32 rfl rfl ?_
      refine V.iload (pc := 33) d_RR_numberLoops_33 rfl ?_
      refine V.iald (pc := 35) d_RR_numberLoops_35 hset_s (by omega) (by omega) ?_
      refine V.ldc (pc := 36) (-1000000) ck_RR_117 rfl ⟨by decide, by decide⟩ d_RR_numberLoops_36 ?_
      refine V.icmp_ne (tgt := 72) (pc := 38) d_RR_numberLoops_38 (by decide) (fun c_38 => ?_) (fun c_38 => ?_)
      · skip
        refine V.aload_n (pc := 72) 2 d_RR_numberLoops_72 rfl rfl ?_
        refine V.iload (pc := 73) d_RR_numberLoops_73 rfl ?_
        refine V.iald (pc := 75) d_RR_numberLoops_75 hset_s (by omega) (by omega) ?_
        rw [show pp.toNat = p by omega, hvis]
        refine V.iload_n (pc := 76) 3 d_RR_numberLoops_76 rfl rfl ?_
        refine V.icmp_ne (tgt := 83) (pc := 77) d_RR_numberLoops_77 (by decide) (fun c_77 => ?_) (fun c_77 => ?_)
        · skip
          exfalso; omega
        · skip
          refine V.iinc (pc := 80) d_RR_numberLoops_80 rfl ⟨by omega, by omega⟩ (Nat.le_of_ble_eq_true rfl) rfl ?_
          dsimp only [put]
          refine V.iinc (pc := 83) d_RR_numberLoops_83 rfl ⟨by omega, by omega⟩ (Nat.le_of_ble_eq_true rfl) rfl ?_
          dsimp only [put]
          refine V.goto (tgt := 11) (pc := 86) d_RR_numberLoops_86 (by decide) ?_
          exact K l _ _ hl
      · skip
        rw [hqq2, hvis] at c_38; exfalso; omega
  | succ c ih =>
    intro k qq ss l hc hss hqq hm0 hl
    have hql := wk_lt hF hG hp k
    have hfr := lpS_free hF hG (by omega) hp hfree k
    have hnv : ¬ (∃ i, i < k ∧ wk F G p i = wk F G p k) := by
      rintro ⟨i, i1, i2⟩
      exact s5 i k i1 (by omega) i2
    have hlq := (hl _ hql).2 hnv
    unfold ncL2 at hlq
    rw [if_pos hfr] at hlq
    by_cases hpar : k % 2 = 0
    · skip
      refine V.iload (pc := 25) d_RR_numberLoops_25 rfl ?_
      refine V.aload_n (pc := 27) 2 d_RR_numberLoops_27 rfl rfl ?_
      refine V.alen (pc := 28) d_RR_numberLoops_28 hset_s ?_
      refine V.icmp_ge (tgt := 72) (pc := 29) d_RR_numberLoops_29 (by decide) (fun c_29 => ?_) (fun c_29 => ?_)
      · skip
        exfalso; omega
      · skip
        refine V.aload_n (pc := 32) 2 d_RR_numberLoops_32 rfl rfl ?_
        refine V.iload (pc := 33) d_RR_numberLoops_33 rfl ?_
        refine V.iald (pc := 35) d_RR_numberLoops_35 hset_s (by omega) (by omega) ?_
        rw [show qq.toNat = wk F G p k by omega, hlq]
        refine V.ldc (pc := 36) (-1000000) ck_RR_117 rfl ⟨by decide, by decide⟩ d_RR_numberLoops_36 ?_
        refine V.icmp_ne (tgt := 72) (pc := 38) d_RR_numberLoops_38 (by decide) (fun c_38 => ?_) (fun c_38 => ?_)
        · skip
          exfalso; omega
        · skip
          refine V.aload_n (pc := 41) 2 d_RR_numberLoops_41 rfl rfl ?_
          refine V.iload (pc := 42) d_RR_numberLoops_42 rfl ?_
          refine V.iload_n (pc := 44) 3 d_RR_numberLoops_44 rfl rfl ?_
          refine V.iast (pc := 45) d_RR_numberLoops_45 hset_s (by omega) (by omega) ?_
          refine V.iload (pc := 46) d_RR_numberLoops_46 rfl ?_
          refine V.iconst (pc := 48) d_RR_numberLoops_48 ⟨by decide, by decide⟩ ?_
          refine V.iand (pc := 49) (((k % 2 : Nat) : Int)) d_RR_numberLoops_49 (b_and32 (by omega) (by omega)) ?_
          refine V.if_ne (tgt := 60) (pc := 50) d_RR_numberLoops_50 (by decide) (fun c_50 => ?_) (fun c_50 => ?_)
          · skip
            exfalso; omega
          · skip
            refine V.aload_n (pc := 53) 0 d_RR_numberLoops_53 rfl rfl ?_
            refine V.iload (pc := 54) d_RR_numberLoops_54 rfl ?_
            refine V.iald (pc := 56) d_RR_numberLoops_56 (hset_o (by omega) (hset_o (by omega) ho)) (by omega) (by omega) ?_
            refine V.goto (tgt := 64) (pc := 57) d_RR_numberLoops_57 (by decide) ?_
            refine V.istore (pc := 64) d_RR_numberLoops_64 (Nat.le_of_ble_eq_true rfl) rfl ?_
            dsimp only [put]
            refine V.iinc (pc := 66) d_RR_numberLoops_66 rfl ⟨by omega, by omega⟩ (Nat.le_of_ble_eq_true rfl) rfl ?_
            dsimp only [put]
            refine V.goto (tgt := 25) (pc := 69) d_RR_numberLoops_69 (by decide) ?_
            rw [hset_tw]
            rw [show qq.toNat = wk F G p k by omega]
            refine ih (k + 1) _ _ _ (by omega) (by omega) ?_ ?_ (fun q hq => ⟨fun hv => ?_, fun hv => ?_⟩)
            · rw [wk_even (by omega)]
              rw [hf1 _ hql]; exact (hF.nat hql).2.2.2.1
            · omega
            · obtain ⟨i, i1, i2⟩ := hv
              by_cases e : q = wk F G p k
              · rw [e, upf_e]
              · rw [upf_n e]
                by_cases e2 : i = k
                · rw [e2] at i2; exact absurd i2.symm e
                · exact (hl q hq).1 ⟨i, by omega, i2⟩
            · have e : q ≠ wk F G p k := fun e => hv ⟨k, by omega, e.symm⟩
              rw [upf_n e]
              exact (hl q hq).2 (fun ⟨i, i1, i2⟩ => hv ⟨i, by omega, i2⟩)
    · skip
      refine V.iload (pc := 25) d_RR_numberLoops_25 rfl ?_
      refine V.aload_n (pc := 27) 2 d_RR_numberLoops_27 rfl rfl ?_
      refine V.alen (pc := 28) d_RR_numberLoops_28 hset_s ?_
      refine V.icmp_ge (tgt := 72) (pc := 29) d_RR_numberLoops_29 (by decide) (fun c_29 => ?_) (fun c_29 => ?_)
      · skip
        exfalso; omega
      · skip
        refine V.aload_n (pc := 32) 2 d_RR_numberLoops_32 rfl rfl ?_
        refine V.iload (pc := 33) d_RR_numberLoops_33 rfl ?_
        refine V.iald (pc := 35) d_RR_numberLoops_35 hset_s (by omega) (by omega) ?_
        rw [show qq.toNat = wk F G p k by omega, hlq]
        refine V.ldc (pc := 36) (-1000000) ck_RR_117 rfl ⟨by decide, by decide⟩ d_RR_numberLoops_36 ?_
        refine V.icmp_ne (tgt := 72) (pc := 38) d_RR_numberLoops_38 (by decide) (fun c_38 => ?_) (fun c_38 => ?_)
        · skip
          exfalso; omega
        · skip
          refine V.aload_n (pc := 41) 2 d_RR_numberLoops_41 rfl rfl ?_
          refine V.iload (pc := 42) d_RR_numberLoops_42 rfl ?_
          refine V.iload_n (pc := 44) 3 d_RR_numberLoops_44 rfl rfl ?_
          refine V.iast (pc := 45) d_RR_numberLoops_45 hset_s (by omega) (by omega) ?_
          refine V.iload (pc := 46) d_RR_numberLoops_46 rfl ?_
          refine V.iconst (pc := 48) d_RR_numberLoops_48 ⟨by decide, by decide⟩ ?_
          refine V.iand (pc := 49) (((k % 2 : Nat) : Int)) d_RR_numberLoops_49 (b_and32 (by omega) (by omega)) ?_
          refine V.if_ne (tgt := 60) (pc := 50) d_RR_numberLoops_50 (by decide) (fun c_50 => ?_) (fun c_50 => ?_)
          · skip
            refine V.aload_n (pc := 60) 1 d_RR_numberLoops_60 rfl rfl ?_
            refine V.iload (pc := 61) d_RR_numberLoops_61 rfl ?_
            refine V.iald (pc := 63) d_RR_numberLoops_63 (hset_o (by omega) (hset_o (by omega) hu)) (by omega) (by omega) ?_
            refine V.istore (pc := 64) d_RR_numberLoops_64 (Nat.le_of_ble_eq_true rfl) rfl ?_
            dsimp only [put]
            refine V.iinc (pc := 66) d_RR_numberLoops_66 rfl ⟨by omega, by omega⟩ (Nat.le_of_ble_eq_true rfl) rfl ?_
            dsimp only [put]
            refine V.goto (tgt := 25) (pc := 69) d_RR_numberLoops_69 (by decide) ?_
            rw [hset_tw]
            rw [show qq.toNat = wk F G p k by omega]
            refine ih (k + 1) _ _ _ (by omega) (by omega) ?_ ?_ (fun q hq => ⟨fun hv => ?_, fun hv => ?_⟩)
            · rw [wk_odd (by omega)]
              rw [hf2 _ hql]; exact (hG.nat hql).2.2.2.1
            · omega
            · obtain ⟨i, i1, i2⟩ := hv
              by_cases e : q = wk F G p k
              · rw [e, upf_e]
              · rw [upf_n e]
                by_cases e2 : i = k
                · rw [e2] at i2; exact absurd i2.symm e
                · exact (hl q hq).1 ⟨i, by omega, i2⟩
            · have e : q ≠ wk F G p k := fun e => hv ⟨k, by omega, e.symm⟩
              rw [upf_n e]
              exact (hl q hq).2 (fun ⟨i, i1, i2⟩ => hv ⟨i, by omega, i2⟩)
          · skip
            exfalso; omega
set_option maxRecDepth 20000 in
theorem lq_RR_numL2 (n : Nat) (hn : 1 ≤ n ∧ n ≤ 20) (F G : Nat → Int) (hF : PR F (2 * n)) (hG : PR G (2 * n)) (bo bu bl t1 t2 : Nat) (f1 f2 : Nat → Int) (h : MH) (ho : h bo = some (kA t1 (2 * n) f1)) (hu : h bu = some (kA t2 (2 * n) f2)) (hf1 : ∀ q, q < 2 * n → f1 q = F q) (hf2 : ∀ q, q < 2 * n → f2 q = G q) (hne : bo ≠ bl ∧ bu ≠ bl) (sz : Nat) : ∀ (c p : Nat) (ma pp : Int) (x y : Option MV) (l : Nat → Int), p + c = 2 * n → pp = p → ma = ((lpS F G (2 * n) p).2 : Int) → (∀ q, q < 2 * n → l q = ncL2 ((lpS F G (2 * n) p).1 q)) →
    V M_RR_numberLoops 1 11 [some (vR bo), some (vR bu), some (vR bl), some (vI ma), some (vI pp), x, y] [] (hset h bl (kA 0 (2 * n) l)) sz 0 0 (fun r h2 s => r = some (vI ((lpS F G (2 * n) (2 * n)).2 : Int)) ∧ s = sz ∧ ∃ l : Nat → Int, h2 = hset h bl (kA 0 (2 * n) l) ∧ ∀ q, q < 2 * n → l q = (lpS F G (2 * n) (2 * n)).1 q) := by
  intro c
  induction c with
  | zero =>
    intro p ma pp x y l hc hpp hma hl
    refine V.iload (pc := 11) d_RR_numberLoops_11 rfl ?_
    refine V.aload_n (pc := 13) 2 d_RR_numberLoops_13 rfl rfl ?_
    refine V.alen (pc := 14) d_RR_numberLoops_14 hset_s ?_
    refine V.icmp_ge (tgt := 89) (pc := 15) d_RR_numberLoops_15 (by decide) (fun c_15 => ?_) (fun c_15 => ?_)
    · skip
      refine V.iload_n (pc := 89) 3 d_RR_numberLoops_89 rfl rfl ?_
      refine V.ret (pc := 90) (r := some (vI _)) d_RR_numberLoops_90 (Or.inl rfl) rfl ?_
      have hp2 : p = 2 * n := by omega
      rw [hp2] at hma hl
      have hinv := lpS_inv hF hG (2 * n) (Nat.le_refl _)
      refine ⟨by rw [hma], rfl, l, rfl, fun q hq => ?_⟩
      have := hinv.2.2.1 q hq
      rw [hl q hq]; unfold ncL2; rw [if_neg (by omega)]
    · skip
      exfalso; omega
  | succ c ih =>
    intro p ma pp x y l hc hpp hma hl
    refine V.iload (pc := 11) d_RR_numberLoops_11 rfl ?_
    refine V.aload_n (pc := 13) 2 d_RR_numberLoops_13 rfl rfl ?_
    refine V.alen (pc := 14) d_RR_numberLoops_14 hset_s ?_
    refine V.icmp_ge (tgt := 89) (pc := 15) d_RR_numberLoops_15 (by decide) (fun c_15 => ?_) (fun c_15 => ?_)
    · skip
      exfalso; omega
    · skip
      have e1 : lpS F G (2 * n) (p + 1) = if (lpS F G (2 * n) p).1 p < 0 then (fun q => if orb F G (2 * n) p q then ((lpS F G (2 * n) p).2 : Int) else (lpS F G (2 * n) p).1 q, (lpS F G (2 * n) p).2 + 1) else lpS F G (2 * n) p := rfl
      have hinv := lpS_inv hF hG p (by omega)
      have hma2 := hinv.2.2.2
      have hlp := hl p (by omega)
      have hrg := hinv.1 p (by omega)
      by_cases hfree : (lpS F G (2 * n) p).1 p < 0
      · skip
        rw [if_pos hfree] at e1
        obtain ⟨s, s1, s2, s3, s4, s5⟩ := wk_back hF hG (show p < 2 * n by omega)
        refine V.iload (pc := 18) d_RR_numberLoops_18 rfl ?_
        refine V.istore (pc := 20) d_RR_numberLoops_20 (Nat.le_of_ble_eq_true rfl) rfl ?_
        dsimp only [put]
        refine V.iconst (pc := 22) d_RR_numberLoops_22 ⟨by decide, by decide⟩ ?_
        refine V.istore (pc := 23) d_RR_numberLoops_23 (Nat.le_of_ble_eq_true rfl) rfl ?_
        dsimp only [put]
        refine lq_RR_numL1 n hn F G hF hG bo bu bl t1 t2 f1 f2 h ho hu hf1 hf2 hne _ _ p (by omega) ma pp hma hpp hfree s s1 s2 s4 s5 (fun l2 x2 y2 hl2 => ?_) s 0 pp 0 l (by omega) rfl hpp (by omega) (fun q hq => ⟨fun ⟨i, i1, _⟩ => by omega, fun _ => hl q hq⟩)
        refine ih (p + 1) _ _ _ _ _ (by omega) (by omega) (by rw [e1]; show ma + 1 = (((lpS F G (2 * n) p).2 + 1 : Nat) : Int); omega) (fun q hq => ?_)
        rw [e1]
        show l2 q = ncL2 (if orb F G (2 * n) p q then ((lpS F G (2 * n) p).2 : Int) else (lpS F G (2 * n) p).1 q)
        have hoi := orb_iff hF hG (show p < 2 * n by omega) s1 s2 s3 s4 q
        by_cases ho9 : orb F G (2 * n) p q
        · rw [if_pos ho9, (hl2 q hq).1 (hoi.mp ho9)]
          unfold ncL2; rw [if_neg (by omega)]; exact hma
        · rw [if_neg ho9]; exact (hl2 q hq).2 (fun z => ho9 (hoi.mpr z))
      · skip
        rw [if_neg hfree] at e1
        have hlp2 : l p = (lpS F G (2 * n) p).1 p := by rw [hlp]; unfold ncL2; rw [if_neg hfree]
        refine V.iload (pc := 18) d_RR_numberLoops_18 rfl ?_
        refine V.istore (pc := 20) d_RR_numberLoops_20 (Nat.le_of_ble_eq_true rfl) rfl ?_
        dsimp only [put]
        refine V.iconst (pc := 22) d_RR_numberLoops_22 ⟨by decide, by decide⟩ ?_
        refine V.istore (pc := 23) d_RR_numberLoops_23 (Nat.le_of_ble_eq_true rfl) rfl ?_
        dsimp only [put]
        refine V.iload (pc := 25) d_RR_numberLoops_25 rfl ?_
        refine V.aload_n (pc := 27) 2 d_RR_numberLoops_27 rfl rfl ?_
        refine V.alen (pc := 28) d_RR_numberLoops_28 hset_s ?_
        refine V.icmp_ge (tgt := 72) (pc := 29) d_RR_numberLoops_29 (by decide) (fun c_29 => ?_) (fun c_29 => ?_)
        · skip
          exfalso; omega
        · skip
          refine V.aload_n (pc := 32) 2 d_RR_numberLoops_32 rfl rfl ?_
          refine V.iload (pc := 33) d_RR_numberLoops_33 rfl ?_
          refine V.iald (pc := 35) d_RR_numberLoops_35 hset_s (by omega) (by omega) ?_
          refine V.ldc (pc := 36) (-1000000) ck_RR_117 rfl ⟨by decide, by decide⟩ d_RR_numberLoops_36 ?_
          refine V.icmp_ne (tgt := 72) (pc := 38) d_RR_numberLoops_38 (by decide) (fun c_38 => ?_) (fun c_38 => ?_)
          · skip
            refine V.aload_n (pc := 72) 2 d_RR_numberLoops_72 rfl rfl ?_
            refine V.iload (pc := 73) d_RR_numberLoops_73 rfl ?_
            refine V.iald (pc := 75) d_RR_numberLoops_75 hset_s (by omega) (by omega) ?_
            refine V.iload_n (pc := 76) 3 d_RR_numberLoops_76 rfl rfl ?_
            refine V.icmp_ne (tgt := 83) (pc := 77) d_RR_numberLoops_77 (by decide) (fun c_77 => ?_) (fun c_77 => ?_)
            · skip
              refine V.iinc (pc := 83) d_RR_numberLoops_83 rfl ⟨by omega, by omega⟩ (Nat.le_of_ble_eq_true rfl) rfl ?_
              dsimp only [put]
              refine V.goto (tgt := 11) (pc := 86) d_RR_numberLoops_86 (by decide) ?_
              exact ih (p + 1) _ _ _ _ _ (by omega) (by omega) (by rw [e1]; exact hma) (by rw [e1]; exact hl)
            · skip
              rw [show pp.toNat = p by omega, hlp2] at c_77; exfalso; omega
          · skip
            rw [show pp.toNat = p by omega, hlp2] at c_38; exfalso; omega
set_option maxRecDepth 20000 in
theorem cc_RR_numberLoops (n : Nat) (hn : 1 ≤ n ∧ n ≤ 20) (F G : Nat → Int) (hF : PR F (2 * n)) (hG : PR G (2 * n)) (bo bu bl t1 t2 : Nat) (f1 f2 : Nat → Int) (h : MH) (ho : h bo = some (kA t1 (2 * n) f1)) (hu : h bu = some (kA t2 (2 * n) f2)) (hf1 : ∀ q, q < 2 * n → f1 q = F q) (hf2 : ∀ q, q < 2 * n → f2 q = G q) (hne : bo ≠ bl ∧ bu ≠ bl) (l0 : Nat → Int) (hl0 : h bl = some (kA 0 (2 * n) l0)) (sz : Nat) : Ct M_RR_numberLoops 1 0 0 [vR bo, vR bu, vR bl] h sz (fun r h2 s => r = some (vI ((lpS F G (2 * n) (2 * n)).2 : Int)) ∧ s = sz ∧ ∃ l : Nat → Int, h2 = hset h bl (kA 0 (2 * n) l) ∧ ∀ q, q < 2 * n → l q = (lpS F G (2 * n) (2 * n)).1 q) := by
  refine Ct.of rfl (Nat.le_of_ble_eq_true rfl) ?_
  dsimp only [lsOf]
  refine V.aload_n (pc := 0) 2 d_RR_numberLoops_0 rfl rfl ?_
  refine V.ldc (pc := 1) (-1000000) ck_RR_117 rfl ⟨by decide, by decide⟩ d_RR_numberLoops_1 ?_
  refine V.cS2 (pc := 3) (kc2 := 0) (ks2 := 0) ml_RR_270 (cc_JA_fill bl 0 (2 * n) _ l0 _ hl0 _ (by omega)) d_RR_numberLoops_3 (Nat.le_of_ble_eq_true rfl) (Nat.le_of_ble_eq_true rfl) (Nat.le_of_ble_eq_true rfl) (Nat.le_of_ble_eq_true rfl) ?_
  rintro _ _ _ ⟨rfl, rfl, l, rfl, hl⟩
  dsimp only [Option.toList, List.cons_append, List.nil_append]
  refine V.iconst (pc := 6) d_RR_numberLoops_6 ⟨by decide, by decide⟩ ?_
  refine V.istore_n (pc := 7) 3 d_RR_numberLoops_7 rfl (Nat.le_of_ble_eq_true rfl) rfl ?_
  dsimp only [put]
  refine V.iconst (pc := 8) d_RR_numberLoops_8 ⟨by decide, by decide⟩ ?_
  refine V.istore (pc := 9) d_RR_numberLoops_9 (Nat.le_of_ble_eq_true rfl) rfl ?_
  dsimp only [put]
  refine V.pad ?_
  refine V.pad ?_
  exact lq_RR_numL2 n hn F G hF hG bo bu bl t1 t2 f1 f2 h ho hu hf1 hf2 hne _ (2 * n) 0 0 0 none none l (by omega) rfl rfl (fun q hq => by rw [hl q hq]; rfl)
set_option maxRecDepth 20000 in
theorem ci_La_init_La (a : Nat) (o9 u9 l9 : Nat) (cn : Int) {ci : Nat} {C : String} (hC : Cls ci C F_Ar 3 t_Ar) (n N : Int) (c9 : Nat) (hne : o9 ≠ a) (h : MH) (ha : h a = some (kO 7 d0_La)) (ho9 : h o9 = some (kO ci [vI n, vL N, vR c9])) (sz : Nat) : Ct M_La_init 3 0 0 [vR a, vR o9, vR u9, vR l9, vI cn] h sz (Det none (hset h a (kO 7 [vI n, vR o9, vR u9, vR l9, vI cn])) sz) := by
  refine Ct.of rfl (Nat.le_of_ble_eq_true rfl) ?_
  dsimp only [lsOf]
  refine V.aload_n (pc := 0) 0 d_La_init_0 rfl rfl ?_
  refine V.aload_n (pc := 1) 1 d_La_init_1 rfl rfl ?_
  refine V.getf (pc := 2) 0 hC fl_La_1_Ar d_La_init_2 ho9 (Nat.le_of_ble_eq_true rfl) rfl ?_
  refine V.cI1 (pc := 5) (kc2 := 0) (ks2 := 0) ml_La_7 (ci_Th_init_La _ _ _ ha _) d_La_init_5 (Nat.le_of_ble_eq_true rfl) (Nat.le_of_ble_eq_true rfl) (Nat.le_of_ble_eq_true rfl) (Nat.le_of_ble_eq_true rfl) ?_
  rintro _ _ _ ⟨rfl, rfl, rfl⟩
  dsimp only [Option.toList, List.cons_append, List.nil_append]
  refine V.aload_n (pc := 8) 0 d_La_init_8 rfl rfl ?_
  refine V.aload_n (pc := 9) 1 d_La_init_9 rfl rfl ?_
  refine V.putF (pc := 10) 1 cl_La fl_La_13_La d_La_init_10 hset_s (Nat.le_of_ble_eq_true rfl) (Nat.le_of_ble_eq_true rfl) rfl rfl rfl (fun _ => ⟨rfl, rfl⟩) ?_
  dsimp only [List.set]
  refine V.aload_n (pc := 13) 0 d_La_init_13 rfl rfl ?_
  refine V.aload_n (pc := 14) 2 d_La_init_14 rfl rfl ?_
  refine V.putF (pc := 15) 2 cl_La fl_La_19_La d_La_init_15 hset_s (Nat.le_of_ble_eq_true rfl) (Nat.le_of_ble_eq_true rfl) rfl rfl rfl (fun _ => ⟨rfl, rfl⟩) ?_
  dsimp only [List.set]
  refine V.aload_n (pc := 18) 0 d_La_init_18 rfl rfl ?_
  refine V.aload_n (pc := 19) 3 d_La_init_19 rfl rfl ?_
  refine V.putF (pc := 20) 3 cl_La fl_La_22_La d_La_init_20 hset_s (Nat.le_of_ble_eq_true rfl) (Nat.le_of_ble_eq_true rfl) rfl rfl rfl (fun _ => ⟨rfl, rfl⟩) ?_
  dsimp only [List.set]
  refine V.aload_n (pc := 23) 0 d_La_init_23 rfl rfl ?_
  refine V.iload (pc := 24) d_La_init_24 rfl ?_
  refine V.putF (pc := 26) 4 cl_La fl_La_26_La d_La_init_26 hset_s (Nat.le_of_ble_eq_true rfl) (Nat.le_of_ble_eq_true rfl) rfl rfl rfl (fun _ => ⟨rfl, rfl⟩) ?_
  dsimp only [List.set]
  refine V.ret (pc := 29) (r := none) d_La_init_29 rfl rfl ?_
  try simp only [hset_tw]
  exact detR
set_option maxRecDepth 20000 in
theorem ci_La_init_Lo (a : Nat) (o9 u9 l9 : Nat) (cn : Int) {ci : Nat} {C : String} (hC : Cls ci C F_Ar 3 t_Ar) (n N : Int) (c9 : Nat) (hne : o9 ≠ a) (h : MH) (ha : h a = some (kO 8 d0_La)) (ho9 : h o9 = some (kO ci [vI n, vL N, vR c9])) (sz : Nat) : Ct M_La_init 3 0 0 [vR a, vR o9, vR u9, vR l9, vI cn] h sz (Det none (hset h a (kO 8 [vI n, vR o9, vR u9, vR l9, vI cn])) sz) := by
  refine Ct.of rfl (Nat.le_of_ble_eq_true rfl) ?_
  dsimp only [lsOf]
  refine V.aload_n (pc := 0) 0 d_La_init_0 rfl rfl ?_
  refine V.aload_n (pc := 1) 1 d_La_init_1 rfl rfl ?_
  refine V.getf (pc := 2) 0 hC fl_La_1_Ar d_La_init_2 ho9 (Nat.le_of_ble_eq_true rfl) rfl ?_
  refine V.cI1 (pc := 5) (kc2 := 0) (ks2 := 0) ml_La_7 (ci_Th_init_Lo _ _ _ ha _) d_La_init_5 (Nat.le_of_ble_eq_true rfl) (Nat.le_of_ble_eq_true rfl) (Nat.le_of_ble_eq_true rfl) (Nat.le_of_ble_eq_true rfl) ?_
  rintro _ _ _ ⟨rfl, rfl, rfl⟩
  dsimp only [Option.toList, List.cons_append, List.nil_append]
  refine V.aload_n (pc := 8) 0 d_La_init_8 rfl rfl ?_
  refine V.aload_n (pc := 9) 1 d_La_init_9 rfl rfl ?_
  refine V.putF (pc := 10) 1 cl_Lo fl_La_13_La d_La_init_10 hset_s (Nat.le_of_ble_eq_true rfl) (Nat.le_of_ble_eq_true rfl) rfl rfl rfl (fun _ => ⟨rfl, rfl⟩) ?_
  dsimp only [List.set]
  refine V.aload_n (pc := 13) 0 d_La_init_13 rfl rfl ?_
  refine V.aload_n (pc := 14) 2 d_La_init_14 rfl rfl ?_
  refine V.putF (pc := 15) 2 cl_Lo fl_La_19_La d_La_init_15 hset_s (Nat.le_of_ble_eq_true rfl) (Nat.le_of_ble_eq_true rfl) rfl rfl rfl (fun _ => ⟨rfl, rfl⟩) ?_
  dsimp only [List.set]
  refine V.aload_n (pc := 18) 0 d_La_init_18 rfl rfl ?_
  refine V.aload_n (pc := 19) 3 d_La_init_19 rfl rfl ?_
  refine V.putF (pc := 20) 3 cl_Lo fl_La_22_La d_La_init_20 hset_s (Nat.le_of_ble_eq_true rfl) (Nat.le_of_ble_eq_true rfl) rfl rfl rfl (fun _ => ⟨rfl, rfl⟩) ?_
  dsimp only [List.set]
  refine V.aload_n (pc := 23) 0 d_La_init_23 rfl rfl ?_
  refine V.iload (pc := 24) d_La_init_24 rfl ?_
  refine V.putF (pc := 26) 4 cl_Lo fl_La_26_La d_La_init_26 hset_s (Nat.le_of_ble_eq_true rfl) (Nat.le_of_ble_eq_true rfl) rfl rfl rfl (fun _ => ⟨rfl, rfl⟩) ?_
  dsimp only [List.set]
  refine V.ret (pc := 29) (r := none) d_La_init_29 rfl rfl ?_
  try simp only [hset_tw]
  exact detR
set_option maxRecDepth 20000 in
theorem ci_Lo_init (a : Nat) (o9 u9 l9 : Nat) {ci : Nat} {C : String} (hC : Cls ci C F_Ar 3 t_Ar) (n N : Int) (c9 : Nat) (hne : o9 ≠ a) (h : MH) (ha : h a = some (kO 8 d0_La)) (ho9 : h o9 = some (kO ci [vI n, vL N, vR c9])) (sz : Nat) : Ct M_Lo_init 4 0 0 [vR a, vR o9, vR u9, vR l9] h sz (Det none (hset h a (kO 8 [vI n, vR o9, vR u9, vR l9, vI 1])) sz) := by
  refine Ct.of rfl (Nat.le_of_ble_eq_true rfl) ?_
  dsimp only [lsOf]
  refine V.aload_n (pc := 0) 0 d_Lo_init_0 rfl rfl ?_
  refine V.aload_n (pc := 1) 1 d_Lo_init_1 rfl rfl ?_
  refine V.aload_n (pc := 2) 2 d_Lo_init_2 rfl rfl ?_
  refine V.aload_n (pc := 3) 3 d_Lo_init_3 rfl rfl ?_
  refine V.iconst (pc := 4) d_Lo_init_4 ⟨by decide, by decide⟩ ?_
  refine V.cI4 (pc := 5) (kc2 := 0) (ks2 := 0) ml_Lo_1 (ci_La_init_Lo _ _ _ _ _ hC n N c9 hne _ ha ho9 _) d_Lo_init_5 (Nat.le_of_ble_eq_true rfl) (Nat.le_of_ble_eq_true rfl) (Nat.le_of_ble_eq_true rfl) (Nat.le_of_ble_eq_true rfl) ?_
  rintro _ _ _ ⟨rfl, rfl, rfl⟩
  dsimp only [Option.toList, List.cons_append, List.nil_append]
  refine V.ret (pc := 8) (r := none) d_Lo_init_8 rfl rfl ?_
  exact detR
def QLa (o9 u9 n : Nat) (a b : Nat → Int) (h : MH) (sz : Nat) : QT := fun r h2 s => r = some (vR (sz + 1)) ∧ s = sz + 2 ∧ ∃ l : Nat → Int, h2 = hset (hset h sz (kA 0 (2 * n) l)) (sz + 1) (kO (if nlp a b n = 1 then 8 else 7) [vI (n : Int), vR o9, vR u9, vR sz, vI (nlp a b n : Int)]) ∧ ∀ q, q < 2 * n → l q = lab a b n q
set_option maxRecDepth 20000 in
theorem cc_RR_landOf {ci ck : Nat} {C D : String} (hC : Cls ci C F_Ar 3 t_Ar) (hD : Cls ck D F_Ar 3 t_Ar) (o9 u9 co cu : Nat) (n : Nat) (a b : Nat → Int) (hn : 1 ≤ n ∧ n ≤ 20) (ha : arch a n) (hb : arch b n) (fo fu : Nat → Int) (h : MH) (ho : h o9 = some (kO ci [vI (n : Int), vL (pls a (2 * n) : Int), vR co])) (hu : h u9 = some (kO ck [vI (n : Int), vL (pls b (2 * n) : Int), vR cu])) (hco : h co = some (kA 0 (2 * n) fo)) (hcu : h cu = some (kA 0 (2 * n) fu)) (hfo : ∀ q, q < 2 * n → fo q = pt a n q) (hfu : ∀ q, q < 2 * n → fu q = pt b n q) (sz : Nat) : Ct M_RR_landOf 5 2 45 [vR o9, vR u9] h sz (QLa o9 u9 n a b h sz) := by
  refine Ct.of rfl (Nat.le_of_ble_eq_true rfl) ?_
  dsimp only [lsOf]
  refine V.fresh (fun hfr => ?_)
  have l1 := hfr _ _ ho
  have l2 := hfr _ _ hu
  have l3 := hfr _ _ hco
  have l4 := hfr _ _ hcu
  refine V.iconst (pc := 0) d_RR_landOf_0 ⟨by decide, by decide⟩ ?_
  refine V.aload_n (pc := 1) 0 d_RR_landOf_1 rfl rfl ?_
  refine V.getf (pc := 2) 0 hC fl_RR_96_Ar d_RR_landOf_2 ho (Nat.le_of_ble_eq_true rfl) rfl ?_
  refine V.imul (pc := 5) d_RR_landOf_5 ⟨by omega, by omega⟩ ?_
  refine V.newi (pc := 6) 0 (kc2 := 1) (ks2 := 5) d_RR_landOf_6 (by omega) (by omega) (Nat.le_of_ble_eq_true rfl) (by omega) ?_
  rw [show (2 * (n : Int)).toNat = 2 * n by omega]
  refine V.astore_n (pc := 8) 2 d_RR_landOf_8 rfl (Nat.le_of_ble_eq_true rfl) rfl ?_
  dsimp only [put]
  refine V.aload_n (pc := 9) 0 d_RR_landOf_9 rfl rfl ?_
  refine V.getf (pc := 10) 2 hC fl_RR_130_Ar d_RR_landOf_10 (hset_o (by omega) ho) (Nat.le_of_ble_eq_true rfl) rfl ?_
  refine V.aload_n (pc := 13) 1 d_RR_landOf_13 rfl rfl ?_
  refine V.getf (pc := 14) 2 hD fl_RR_130_Ar d_RR_landOf_14 (hset_o (by omega) hu) (Nat.le_of_ble_eq_true rfl) rfl ?_
  refine V.aload_n (pc := 17) 2 d_RR_landOf_17 rfl rfl ?_
  refine V.cS3 (pc := 18) (kc2 := 1) (ks2 := 5) ml_RR_260 (cc_RR_numberLoops n hn (pt a n) (pt b n) (PR_pt ha) (PR_pt hb) co cu sz 0 0 fo fu _ (hset_o (by omega) hco) (hset_o (by omega) hcu) hfo hfu ⟨by omega, by omega⟩ _ hset_s _) d_RR_landOf_18 (Nat.le_of_ble_eq_true rfl) (Nat.le_of_ble_eq_true rfl) (Nat.le_of_ble_eq_true rfl) (Nat.le_of_ble_eq_true rfl) ?_
  rintro _ _ _ ⟨rfl, rfl, l, rfl, hl⟩
  dsimp only [Option.toList, List.cons_append, List.nil_append]
  rw [hset_tw]
  have ex : (lpS (pt a n) (pt b n) (2 * n) (2 * n)).2 = nlp a b n := rfl
  rw [ex]
  refine V.istore_n (pc := 21) 3 d_RR_landOf_21 rfl (Nat.le_of_ble_eq_true rfl) rfl ?_
  dsimp only [put]
  refine V.iload_n (pc := 22) 3 d_RR_landOf_22 rfl rfl ?_
  refine V.iconst (pc := 23) d_RR_landOf_23 ⟨by decide, by decide⟩ ?_
  refine V.icmp_ne (tgt := 40) (pc := 24) d_RR_landOf_24 (by decide) (fun c_24 => ?_) (fun c_24 => ?_)
  · skip
    refine V.new (pc := 40) d0_La (kc2 := 0) (ks2 := 0) cl_La cl_RR_137 nw_La.1 nw_La.2 d_RR_landOf_40 df_La ok_La (Nat.le_of_ble_eq_true rfl) (Nat.le_of_ble_eq_true rfl) ?_
    refine V.dup (pc := 43) d_RR_landOf_43 (fun _ => rfl) ?_
    refine V.aload_n (pc := 44) 0 d_RR_landOf_44 rfl rfl ?_
    refine V.aload_n (pc := 45) 1 d_RR_landOf_45 rfl rfl ?_
    refine V.aload_n (pc := 46) 2 d_RR_landOf_46 rfl rfl ?_
    refine V.iload_n (pc := 47) 3 d_RR_landOf_47 rfl rfl ?_
    refine V.cI4 (pc := 48) (kc2 := 0) (ks2 := 0) ml_RR_267 (ci_La_init_La (sz + 1) o9 u9 _ _ hC n (pls a (2 * n) : Int) co (by omega) _ hset_s (hset_o (by omega) (hset_o (by omega) ho)) _) d_RR_landOf_48 (Nat.le_of_ble_eq_true rfl) (Nat.le_of_ble_eq_true rfl) (Nat.le_of_ble_eq_true rfl) (Nat.le_of_ble_eq_true rfl) ?_
    rintro _ _ _ ⟨rfl, rfl, rfl⟩
    dsimp only [Option.toList, List.cons_append, List.nil_append]
    refine V.ret (pc := 51) (r := some (vR _)) d_RR_landOf_51 (Or.inr ⟨_, rfl⟩) rfl ?_
    simp only [hset_tw]
    refine ⟨rfl, rfl, l, ?_, hl⟩
    rw [if_neg (by omega)]
  · skip
    refine V.new (pc := 27) d0_La (kc2 := 0) (ks2 := 0) cl_Lo cl_RR_235 nw_Lo.1 nw_Lo.2 d_RR_landOf_27 df_La ok_La (Nat.le_of_ble_eq_true rfl) (Nat.le_of_ble_eq_true rfl) ?_
    refine V.dup (pc := 30) d_RR_landOf_30 (fun _ => rfl) ?_
    refine V.aload_n (pc := 31) 0 d_RR_landOf_31 rfl rfl ?_
    refine V.aload_n (pc := 32) 1 d_RR_landOf_32 rfl rfl ?_
    refine V.aload_n (pc := 33) 2 d_RR_landOf_33 rfl rfl ?_
    refine V.cI3 (pc := 34) (kc2 := 0) (ks2 := 0) ml_RR_264 (ci_Lo_init (sz + 1) o9 u9 _ hC n (pls a (2 * n) : Int) co (by omega) _ hset_s (hset_o (by omega) (hset_o (by omega) ho)) _) d_RR_landOf_34 (Nat.le_of_ble_eq_true rfl) (Nat.le_of_ble_eq_true rfl) (Nat.le_of_ble_eq_true rfl) (Nat.le_of_ble_eq_true rfl) ?_
    rintro _ _ _ ⟨rfl, rfl, rfl⟩
    dsimp only [Option.toList, List.cons_append, List.nil_append]
    refine V.goto (tgt := 51) (pc := 37) d_RR_landOf_37 (by decide) ?_
    refine V.ret (pc := 51) (r := some (vR _)) d_RR_landOf_51 (Or.inr ⟨_, rfl⟩) rfl ?_
    simp only [hset_tw]
    refine ⟨rfl, rfl, l, ?_, hl⟩
    rw [if_pos (by omega)]
    have e9 : (nlp a b n : Int) = 1 := c_24
    rw [e9]
