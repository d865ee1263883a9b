/-! THE REFERENCE: loops, printed by wip/whole/gen/ref3.py -/
def QL (σ : SM) (f g : Nat → Int) (N sz : Nat) : QT := fun r h s => s = sz ∧ ∃ fl : Nat → Int, h = hM (sset σ 14 fl) ∧ r = some (vI (lpS f g (2 * N) (2 * N)).2) ∧ ∀ q, q < 2 * N → fl q = (lpS f g (2 * N) (2 * N)).1 q
set_option maxRecDepth 20000 in
theorem lp_Mo_findLoops_in {ka kb aa ab La Lb : Nat} (ha : Arr ka aa La) (hb : Arr kb ab Lb) (h1 : ka ≠ 14) (h2 : kb ≠ 14) (σ : SM) (A B N : Nat) (hN : N ≤ 20) (hA : A + 2 * N ≤ La) (hB : B + 2 * N ≤ Lb) (hla : La ≤ 10000) (hlb : Lb ≤ 10000) (sz : Nat) (f g : Nat → Int) (hfa : ∀ q, q < 2 * N → σ ka (A + q) = f q) (hgb : ∀ q, q < 2 * N → σ kb (B + q) = g q) (hf : PR f (2 * N)) (hg : PR g (2 * N)) (Q : QT) (p : Nat) (hp : p < 2 * N) (lo pp : Int) (hlo : lo = (lpS f g (2 * N) p).2) (hpp : pp = p) (hfree : (lpS f g (2 * N) p).1 p < 0) (s : Nat) (s1 : 2 ≤ s) (s2 : s ≤ 2 * N) (s3 : s % 2 = 0) (s4 : wk f g p s = p) (s5 : ∀ i j, i < j → j < s → wk f g p i ≠ wk f g p j)
    (kont : ∀ (qq : Int) (fl : Nat → Int), (∀ x, x < 2 * N → fl x = if orb f g (2 * N) p x then ((lpS f g (2 * N) p).2 : Int) else (lpS f g (2 * N) p).1 x) → V M_Mo_findLoops 0 103 [some (vR 8), some (vR aa), some (vI A), some (vR ab), some (vI B), some (vI N), some (vI lo), some (vI pp), some (vI qq)] [] (hM (sset σ 14 fl)) sz 0 0 Q) :
    ∀ (m i : Nat) (qq : Int) (fl : Nat → Int), 2 * i + 2 * m = s → qq = wk f g p (2 * i) → (∀ x, x < 2 * N → fl x = if ∃ k, k < 2 * i ∧ wk f g p k = x then ((lpS f g (2 * N) p).2 : Int) else (lpS f g (2 * N) p).1 x) →
    V M_Mo_findLoops 0 55 [some (vR 8), some (vR aa), some (vI A), some (vR ab), some (vI B), some (vI N), some (vI lo), some (vI pp), some (vI qq)] [] (hM (sset σ 14 fl)) sz 0 0 Q := by
  intro m
  induction m with
  | zero =>
    intro i qq fl hm hq hfl
    have e9 : 2 * i = s := by omega
    have hqp : qq = p := by rw [hq, e9, s4]
    have hflp : fl p = ((lpS f g (2 * N) p).2 : Int) := by rw [hfl p hp, if_pos ⟨0, by omega, rfl⟩]
    refine V.aload_n (pc := 55) 0 d_Mo_findLoops_55 rfl rfl ?_
    refine V.getf (pc := 56) 14 cl_Mo fl_Mo_46_Mo d_Mo_findLoops_56 (hM_o _) (Nat.le_of_ble_eq_true rfl) rfl ?_
    refine V.iload (pc := 59) d_Mo_findLoops_59 rfl ?_
    refine V.iald (pc := 61) d_Mo_findLoops_61 (ar_loopOf _).1 (by omega) (by omega) ?_
    try simp (disch := omega) only [sset_n, sset_e]
    rw [show qq.toNat = p by omega]
    refine V.if_ge (tgt := 103) (pc := 62) d_Mo_findLoops_62 (by decide) (fun c_62 => ?_) (fun c_62 => ?_)
    · skip
      exact kont qq fl (fun x hx => by rw [hfl x hx, show 2 * i = s by omega]; simp only [orb_iff hf hg hp s1 s2 s3 s4 x])
    · skip
      exfalso; omega
  | succ m ih =>
    intro i qq fl hm hq hfl
    have hw0 := wk_lt hf hg hp (2 * i)
    have hw1 := wk_lt hf hg hp (2 * i + 1)
    have hfq : fl (wk f g p (2 * i)) < 0 := by
      rw [hfl _ hw0, if_neg (by rintro ⟨k, hk, e⟩; exact s5 k (2 * i) hk (by omega) e)]
      exact lpS_free hf hg (by omega) hp hfree (2 * i)
    refine V.aload_n (pc := 55) 0 d_Mo_findLoops_55 rfl rfl ?_
    refine V.getf (pc := 56) 14 cl_Mo fl_Mo_46_Mo d_Mo_findLoops_56 (hM_o _) (Nat.le_of_ble_eq_true rfl) rfl ?_
    refine V.iload (pc := 59) d_Mo_findLoops_59 rfl ?_
    refine V.iald (pc := 61) d_Mo_findLoops_61 (ar_loopOf _).1 (by omega) (by omega) ?_
    try simp (disch := omega) only [sset_n, sset_e]
    rw [show qq.toNat = wk f g p (2 * i) by omega]
    refine V.if_ge (tgt := 103) (pc := 62) d_Mo_findLoops_62 (by decide) (fun c_62 => ?_) (fun c_62 => ?_)
    · skip
      exfalso; omega
    · skip
      refine V.aload_n (pc := 65) 0 d_Mo_findLoops_65 rfl rfl ?_
      refine V.getf (pc := 66) 14 cl_Mo fl_Mo_46_Mo d_Mo_findLoops_66 (hM_o _) (Nat.le_of_ble_eq_true rfl) rfl ?_
      refine V.iload (pc := 69) d_Mo_findLoops_69 rfl ?_
      refine V.iload (pc := 71) d_Mo_findLoops_71 rfl ?_
      refine V.iast (pc := 73) d_Mo_findLoops_73 (ar_loopOf _).1 (by omega) (by omega) ?_
      rw [(ar_loopOf _).2]
      simp (disch := omega) only [sset_n, sset_e]
      rw [sset_tw]
      refine V.aload_n (pc := 74) 1 d_Mo_findLoops_74 rfl rfl ?_
      refine V.iload_n (pc := 75) 2 d_Mo_findLoops_75 rfl rfl ?_
      refine V.iload (pc := 76) d_Mo_findLoops_76 rfl ?_
      refine V.iadd (pc := 78) d_Mo_findLoops_78 ⟨by omega, by omega⟩ ?_
      refine V.iald (pc := 79) d_Mo_findLoops_79 (ha _).1 (by omega) (by omega) ?_
      try simp (disch := omega) only [sset_n, sset_e]
      rw [show ((A : Int) + qq).toNat = A + wk f g p (2 * i) by omega, hfa _ hw0, (hf.nat hw0).2.2.2.1, ← wk_even (f := f) (g := g) (p := p) (k := 2 * i) (by omega)]
      refine V.istore (pc := 80) d_Mo_findLoops_80 (Nat.le_of_ble_eq_true rfl) rfl ?_
      dsimp only [put]
      refine V.aload_n (pc := 82) 0 d_Mo_findLoops_82 rfl rfl ?_
      refine V.getf (pc := 83) 14 cl_Mo fl_Mo_46_Mo d_Mo_findLoops_83 (hM_o _) (Nat.le_of_ble_eq_true rfl) rfl ?_
      refine V.iload (pc := 86) d_Mo_findLoops_86 rfl ?_
      refine V.iload (pc := 88) d_Mo_findLoops_88 rfl ?_
      refine V.iast (pc := 90) d_Mo_findLoops_90 (ar_loopOf _).1 (by omega) (by omega) ?_
      rw [(ar_loopOf _).2]
      simp (disch := omega) only [sset_n, sset_e]
      rw [sset_tw]
      refine V.aload_n (pc := 91) 3 d_Mo_findLoops_91 rfl rfl ?_
      refine V.iload (pc := 92) d_Mo_findLoops_92 rfl ?_
      refine V.iload (pc := 94) d_Mo_findLoops_94 rfl ?_
      refine V.iadd (pc := 96) d_Mo_findLoops_96 ⟨by omega, by omega⟩ ?_
      refine V.iald (pc := 97) d_Mo_findLoops_97 (hb _).1 (by omega) (by omega) ?_
      try simp (disch := omega) only [sset_n, sset_e]
      rw [show ((B : Int) + (wk f g p (2 * i + 1) : Int)).toNat = B + wk f g p (2 * i + 1) by omega, hgb _ hw1, (hg.nat hw1).2.2.2.1, ← wk_odd (f := f) (g := g) (p := p) (k := 2 * i + 1) (by omega)]
      refine V.istore (pc := 98) d_Mo_findLoops_98 (Nat.le_of_ble_eq_true rfl) rfl ?_
      dsimp only [put]
      refine V.goto (tgt := 55) (pc := 100) d_Mo_findLoops_100 (by decide) ?_
      refine ih (i + 1) _ _ (by omega) (by rw [show 2 * (i + 1) = 2 * i + 1 + 1 by omega]) (fun x hx => ?_)
      unfold upf
      rw [show qq.toNat = wk f g p (2 * i) by omega, show ((wk f g p (2 * i + 1) : Nat) : Int).toNat = wk f g p (2 * i + 1) by omega]
      by_cases e1 : x = wk f g p (2 * i + 1)
      · rw [if_pos e1, if_pos ⟨2 * i + 1, by omega, e1.symm⟩]; exact hlo
      · rw [if_neg e1]
        by_cases e0 : x = wk f g p (2 * i)
        · rw [if_pos e0, if_pos ⟨2 * i, by omega, e0.symm⟩]; exact hlo
        · rw [if_neg e0, hfl x hx]
          by_cases e2 : ∃ k, k < 2 * i ∧ wk f g p k = x
          · obtain ⟨k, hk, hk2⟩ := e2
            rw [if_pos ⟨k, hk, hk2⟩, if_pos ⟨k, by omega, hk2⟩]
          · rw [if_neg e2, if_neg]
            rintro ⟨k, hk, hk2⟩
            by_cases q1 : k = 2 * i
            · rw [q1] at hk2; exact e0 hk2.symm
            · by_cases q2 : k = 2 * i + 1
              · rw [q2] at hk2; exact e1 hk2.symm
              · exact e2 ⟨k, by omega, hk2⟩
set_option maxRecDepth 20000 in
theorem lp_Mo_findLoops_out {ka kb aa ab La Lb : Nat} (ha : Arr ka aa La) (hb : Arr kb ab Lb) (h1 : ka ≠ 14) (h2 : kb ≠ 14) (σ : SM) (A B N : Nat) (hN : N ≤ 20) (hA : A + 2 * N ≤ La) (hB : B + 2 * N ≤ Lb) (hla : La ≤ 10000) (hlb : Lb ≤ 10000) (sz : Nat) (f g : Nat → Int) (hfa : ∀ q, q < 2 * N → σ ka (A + q) = f q) (hgb : ∀ q, q < 2 * N → σ kb (B + q) = g q) (hf : PR f (2 * N)) (hg : PR g (2 * N)) : ∀ (m p : Nat) (lo pp : Int) (x : Option MV) (fl : Nat → Int), p + m = 2 * N → pp = p → lo = (lpS f g (2 * N) p).2 → (∀ q, q < 2 * N → fl q = (lpS f g (2 * N) p).1 q) →
    V M_Mo_findLoops 0 32 [some (vR 8), some (vR aa), some (vI A), some (vR ab), some (vI B), some (vI N), some (vI lo), some (vI pp), x] [] (hM (sset σ 14 fl)) sz 0 0 (QL σ f g N sz) := by
  intro m
  induction m with
  | zero =>
    intro p lo pp x fl hm hpp hlo hfl
    refine V.iload (pc := 32) d_Mo_findLoops_32 rfl ?_
    refine V.iconst (pc := 34) d_Mo_findLoops_34 ⟨by decide, by decide⟩ ?_
    refine V.iload (pc := 35) d_Mo_findLoops_35 rfl ?_
    refine V.imul (pc := 37) d_Mo_findLoops_37 ⟨by omega, by omega⟩ ?_
    refine V.icmp_ge (tgt := 112) (pc := 38) d_Mo_findLoops_38 (by decide) (fun c_38 => ?_) (fun c_38 => ?_)
    · skip
      refine V.iload (pc := 112) d_Mo_findLoops_112 rfl ?_
      refine V.ret (pc := 114) (r := some (vI _)) d_Mo_findLoops_114 (Or.inl rfl) rfl ?_
      have hp2 : p = 2 * N := by omega
      subst hp2
      exact ⟨rfl, fl, rfl, by rw [hlo], hfl⟩
    · skip
      exfalso; omega
  | succ m ih =>
    intro p lo pp x fl hm hpp hlo hfl
    have hlr := (lpS_inv hf hg p (by omega)).2.2.2
    refine V.iload (pc := 32) d_Mo_findLoops_32 rfl ?_
    refine V.iconst (pc := 34) d_Mo_findLoops_34 ⟨by decide, by decide⟩ ?_
    refine V.iload (pc := 35) d_Mo_findLoops_35 rfl ?_
    refine V.imul (pc := 37) d_Mo_findLoops_37 ⟨by omega, by omega⟩ ?_
    refine V.icmp_ge (tgt := 112) (pc := 38) d_Mo_findLoops_38 (by decide) (fun c_38 => ?_) (fun c_38 => ?_)
    · skip
      exfalso; omega
    · skip
      refine V.aload_n (pc := 41) 0 d_Mo_findLoops_41 rfl rfl ?_
      refine V.getf (pc := 42) 14 cl_Mo fl_Mo_46_Mo d_Mo_findLoops_42 (hM_o _) (Nat.le_of_ble_eq_true rfl) rfl ?_
      refine V.iload (pc := 45) d_Mo_findLoops_45 rfl ?_
      refine V.iald (pc := 47) d_Mo_findLoops_47 (ar_loopOf _).1 (by omega) (by omega) ?_
      try simp (disch := omega) only [sset_n, sset_e]
      rw [show pp.toNat = p by omega, hfl p (by omega)]
      refine V.if_ge (tgt := 106) (pc := 48) d_Mo_findLoops_48 (by decide) (fun c_48 => ?_) (fun c_48 => ?_)
      · skip
        refine V.iinc (pc := 106) d_Mo_findLoops_106 rfl ⟨by omega, by omega⟩ (Nat.le_of_ble_eq_true rfl) rfl ?_
        dsimp only [put]
        refine V.goto (tgt := 32) (pc := 109) d_Mo_findLoops_109 (by decide) ?_
        refine ih (p + 1) _ _ _ _ (by omega) (by omega) ?_ ?_
        · rw [lpS, if_neg (by omega)]; exact hlo
        · intro q hq
          rw [lpS, if_neg (by omega)]
          exact hfl q hq
      · skip
        refine V.iload (pc := 51) d_Mo_findLoops_51 rfl ?_
        refine V.istore (pc := 53) d_Mo_findLoops_53 (Nat.le_of_ble_eq_true rfl) rfl ?_
        dsimp only [put]
        obtain ⟨s, s1, s2, s3, s4, s5⟩ := wk_back hf hg (show p < 2 * N by omega)
        refine lp_Mo_findLoops_in ha hb h1 h2 σ A B N hN hA hB hla hlb sz f g hfa hgb hf hg _ p (by omega) lo pp hlo hpp (by omega) s s1 s2 s3 s4 s5 ?_ (s / 2) 0 pp fl (by omega) hpp (fun x hx => by rw [if_neg (by rintro ⟨k, hk, -⟩; omega)]; exact hfl x hx)
        intro qq fl2 hfl2
        skip
        refine V.iinc (pc := 103) d_Mo_findLoops_103 rfl ⟨by omega, by omega⟩ (Nat.le_of_ble_eq_true rfl) rfl ?_
        dsimp only [put]
        refine V.iinc (pc := 106) d_Mo_findLoops_106 rfl ⟨by omega, by omega⟩ (Nat.le_of_ble_eq_true rfl) rfl ?_
        dsimp only [put]
        refine V.goto (tgt := 32) (pc := 109) d_Mo_findLoops_109 (by decide) ?_
        refine ih (p + 1) _ _ _ _ (by omega) (by omega) ?_ ?_
        · rw [lpS, if_pos (by omega)]; simp only; omega
        · intro q hq
          rw [lpS, if_pos (by omega)]
          exact hfl2 q hq
set_option maxRecDepth 20000 in
theorem lp_Mo_findLoops_fill {ka kb aa ab La Lb : Nat} (ha : Arr ka aa La) (hb : Arr kb ab Lb) (h1 : ka ≠ 14) (h2 : kb ≠ 14) (σ : SM) (A B N : Nat) (hN : N ≤ 20) (hA : A + 2 * N ≤ La) (hB : B + 2 * N ≤ Lb) (hla : La ≤ 10000) (hlb : Lb ≤ 10000) (sz : Nat) (f g : Nat → Int) (hfa : ∀ q, q < 2 * N → σ ka (A + q) = f q) (hgb : ∀ q, q < 2 * N → σ kb (B + q) = g q) (hf : PR f (2 * N)) (hg : PR g (2 * N)) : ∀ (m p : Nat) (pp : Int) (fl : Nat → Int), p + m = 2 * N → pp = p → (∀ q, q < p → fl q = -1) →
    V M_Mo_findLoops 0 6 [some (vR 8), some (vR aa), some (vI A), some (vR ab), some (vI B), some (vI N), some (vI 0), some (vI pp)] [] (hM (sset σ 14 fl)) sz 0 0 (QL σ f g N sz) := by
  intro m
  induction m with
  | zero =>
    intro p pp fl hm hpp hfl
    refine V.iload (pc := 6) d_Mo_findLoops_6 rfl ?_
    refine V.iconst (pc := 8) d_Mo_findLoops_8 ⟨by decide, by decide⟩ ?_
    refine V.iload (pc := 9) d_Mo_findLoops_9 rfl ?_
    refine V.imul (pc := 11) d_Mo_findLoops_11 ⟨by omega, by omega⟩ ?_
    refine V.icmp_ge (tgt := 29) (pc := 12) d_Mo_findLoops_12 (by decide) (fun c_12 => ?_) (fun c_12 => ?_)
    · skip
      refine V.iconst (pc := 29) d_Mo_findLoops_29 ⟨by decide, by decide⟩ ?_
      refine V.istore (pc := 30) d_Mo_findLoops_30 (Nat.le_of_ble_eq_true rfl) rfl ?_
      dsimp only [put]
      refine V.pad ?_
      exact lp_Mo_findLoops_out ha hb h1 h2 σ A B N hN hA hB hla hlb sz f g hfa hgb hf hg (2 * N) 0 0 0 none fl (by omega) rfl rfl (fun q hq => hfl q (by omega))
    · skip
      exfalso; omega
  | succ m ih =>
    intro p pp fl hm hpp hfl
    refine V.iload (pc := 6) d_Mo_findLoops_6 rfl ?_
    refine V.iconst (pc := 8) d_Mo_findLoops_8 ⟨by decide, by decide⟩ ?_
    refine V.iload (pc := 9) d_Mo_findLoops_9 rfl ?_
    refine V.imul (pc := 11) d_Mo_findLoops_11 ⟨by omega, by omega⟩ ?_
    refine V.icmp_ge (tgt := 29) (pc := 12) d_Mo_findLoops_12 (by decide) (fun c_12 => ?_) (fun c_12 => ?_)
    · skip
      exfalso; omega
    · skip
      refine V.aload_n (pc := 15) 0 d_Mo_findLoops_15 rfl rfl ?_
      refine V.getf (pc := 16) 14 cl_Mo fl_Mo_46_Mo d_Mo_findLoops_16 (hM_o _) (Nat.le_of_ble_eq_true rfl) rfl ?_
      refine V.iload (pc := 19) d_Mo_findLoops_19 rfl ?_
      refine V.iconst (pc := 21) d_Mo_findLoops_21 ⟨by decide, by decide⟩ ?_
      refine V.iast (pc := 22) d_Mo_findLoops_22 (ar_loopOf _).1 (by omega) (by omega) ?_
      rw [(ar_loopOf _).2]
      simp (disch := omega) only [sset_n, sset_e]
      rw [sset_tw]
      refine V.iinc (pc := 23) d_Mo_findLoops_23 rfl ⟨by omega, by omega⟩ (Nat.le_of_ble_eq_true rfl) rfl ?_
      dsimp only [put]
      refine V.goto (tgt := 6) (pc := 26) d_Mo_findLoops_26 (by decide) ?_
      refine ih (p + 1) _ _ (by omega) (by omega) (fun q hq => ?_)
      unfold upf
      by_cases e : q = p
      · rw [if_pos (by omega)]
      · rw [if_neg (by omega)]; exact hfl q (by omega)
set_option maxRecDepth 20000 in
theorem ct_Mo_findLoops {ka kb aa ab La Lb : Nat} (ha : Arr ka aa La) (hb : Arr kb ab Lb) (h1 : ka ≠ 14) (h2 : kb ≠ 14) (σ : SM) (A B N : Nat) (hN : N ≤ 20) (hA : A + 2 * N ≤ La) (hB : B + 2 * N ≤ Lb) (hla : La ≤ 10000) (hlb : Lb ≤ 10000) (sz : Nat) (f g : Nat → Int) (hfa : ∀ q, q < 2 * N → σ ka (A + q) = f q) (hgb : ∀ q, q < 2 * N → σ kb (B + q) = g q) (hf : PR f (2 * N)) (hg : PR g (2 * N)) : Ct M_Mo_findLoops 0 0 0 [vR 8, vR aa, vI A, vR ab, vI B, vI N] (hM σ) sz (QL σ f g N sz) := by
  refine Ct.of rfl (Nat.le_of_ble_eq_true rfl) ?_
  dsimp only [lsOf]
  refine V.iconst (pc := 0) d_Mo_findLoops_0 ⟨by decide, by decide⟩ ?_
  refine V.istore (pc := 1) d_Mo_findLoops_1 (Nat.le_of_ble_eq_true rfl) rfl ?_
  dsimp only [put]
  refine V.iconst (pc := 3) d_Mo_findLoops_3 ⟨by decide, by decide⟩ ?_
  refine V.istore (pc := 4) d_Mo_findLoops_4 (Nat.le_of_ble_eq_true rfl) rfl ?_
  dsimp only [put]
  have k := lp_Mo_findLoops_fill ha hb h1 h2 σ A B N hN hA hB hla hlb sz f g hfa hgb hf hg (2 * N) 0 0 (σ 14) (by omega) rfl (fun q hq => by omega)
  rw [sset_id] at k
  exact k
