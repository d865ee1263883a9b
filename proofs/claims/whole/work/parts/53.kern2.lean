/-! COUNTING in the kernel: loops -/
noncomputable def mk2 (m q r : Nat) : Nat := Nat.lor m (Nat.lor (Nat.shiftLeft 1 q) (Nat.shiftLeft 1 r))
theorem mk2_bit (m q r x : Nat) : (mk2 m q r).testBit x = true ↔ m.testBit x = true ∨ q = x ∨ r = x := by
  show (m ||| (1 <<< q ||| 1 <<< r)).testBit x = true ↔ _
  rw [Nat.testBit_or, Nat.testBit_or, Nat.one_shiftLeft, Nat.one_shiftLeft, Nat.testBit_two_pow, Nat.testBit_two_pow]
  simp only [Bool.or_eq_true, decide_eq_true_eq]
noncomputable def kwalk (F G p : Nat) (fuel : Nat) : Nat → Nat → Nat := Nat.rec (motive := fun _ => Nat → Nat → Nat) (fun _ m => m) (fun _ ih q m => cond (Nat.beq (dg G (dg F q)) p) (mk2 m q (dg F q)) (ih (dg G (dg F q)) (mk2 m q (dg F q)))) fuel
theorem kwalk_s (F G p k q m : Nat) : kwalk F G p (k + 1) q m = cond (Nat.beq (dg G (dg F q)) p) (mk2 m q (dg F q)) (kwalk F G p k (dg G (dg F q)) (mk2 m q (dg F q))) := rfl
theorem beq_f {x y : Nat} (h : x ≠ y) : Nat.beq x y = false := by
  cases e : Nat.beq x y with
  | true => exact absurd (Nat.eq_of_beq_eq_true e) h
  | false => rfl
theorem kwalk_bits {f g : Nat → Int} {M F G : Nat} (hf : PR f M) (hg : PR g M) (hF : ∀ q, q < M → (dg F q : Int) = f q) (hG : ∀ q, q < M → (dg G q : Int) = g q) {p : Nat} (hp : p < M) {s : Nat} (s3 : s % 2 = 0) (s4 : wk f g p s = p) (s5 : ∀ i j, i < j → j < s → wk f g p i ≠ wk f g p j) : ∀ (k j m : Nat), s ≤ 2 * j + 2 * k → 2 * j < s → ∀ x, (kwalk F G p k (wk f g p (2 * j)) m).testBit x = true ↔ m.testBit x = true ∨ ∃ i, 2 * j ≤ i ∧ i < s ∧ wk f g p i = x
  | 0, j, m, h1, h2 => by omega
  | k + 1, j, m, h1, h2 => by
    intro x
    have l0 := wk_lt hf hg hp (2 * j)
    have l1 := wk_lt hf hg hp (2 * j + 1)
    have e1 : dg F (wk f g p (2 * j)) = wk f g p (2 * j + 1) := by
      rw [wk_even (by omega)]
      have := hF _ l0
      omega
    have e2 : dg G (wk f g p (2 * j + 1)) = wk f g p (2 * j + 2) := by
      rw [wk_odd (k := 2 * j + 1) (by omega)]
      have := hG _ l1
      omega
    rw [kwalk_s, e1, e2]
    by_cases hb : 2 * j + 2 = s
    · have hB : Nat.beq (wk f g p (2 * j + 2)) p = true := by rw [hb, s4]; exact Nat.beq_refl p
      rw [hB]
      show (mk2 m _ _).testBit x = true ↔ _
      rw [mk2_bit]
      constructor
      · rintro (h | h | h)
        · exact Or.inl h
        · exact Or.inr ⟨2 * j, by omega, by omega, h⟩
        · exact Or.inr ⟨2 * j + 1, by omega, by omega, h⟩
      · rintro (h | ⟨i, i1, i2, i3⟩)
        · exact Or.inl h
        · by_cases e : i = 2 * j
          · rw [e] at i3; exact Or.inr (Or.inl i3)
          · rw [show i = 2 * j + 1 by omega] at i3; exact Or.inr (Or.inr i3)
    · have hne : wk f g p (2 * j + 2) ≠ p := fun e => s5 0 (2 * j + 2) (by omega) (by omega) e.symm
      rw [beq_f hne]
      show (kwalk F G p k _ _).testBit x = true ↔ _
      have ih := kwalk_bits hf hg hF hG hp s3 s4 s5 k (j + 1) (mk2 m (wk f g p (2 * j)) (wk f g p (2 * j + 1))) (by omega) (by omega) x
      rw [show 2 * (j + 1) = 2 * j + 2 by omega] at ih
      rw [ih, mk2_bit]
      constructor
      · rintro ((h | h | h) | ⟨i, i1, i2, i3⟩)
        · exact Or.inl h
        · exact Or.inr ⟨2 * j, by omega, by omega, h⟩
        · exact Or.inr ⟨2 * j + 1, by omega, by omega, h⟩
        · exact Or.inr ⟨i, by omega, i2, i3⟩
      · rintro (h | ⟨i, i1, i2, i3⟩)
        · exact Or.inl (Or.inl h)
        · by_cases e : i = 2 * j
          · rw [e] at i3; exact Or.inl (Or.inr (Or.inl i3))
          · by_cases e' : i = 2 * j + 1
            · rw [e'] at i3; exact Or.inl (Or.inr (Or.inr i3))
            · exact Or.inr ⟨i, by omega, i2, i3⟩
noncomputable def kloops (F G N : Nat) (k : Nat) : Nat → Nat → Nat → Nat := Nat.rec (motive := fun _ => Nat → Nat → Nat → Nat) (fun _ _ c => c) (fun _ ih p m c => cond (Nat.beq (Nat.mod (Nat.shiftRight m p) 2) 1) (ih (Nat.succ p) m c) (ih (Nat.succ p) (kwalk F G p N p m) (Nat.succ c))) k
theorem kloops_s (F G N k p m c : Nat) : kloops F G N (k + 1) p m c = cond (Nat.beq (Nat.mod (Nat.shiftRight m p) 2) 1) (kloops F G N k (p + 1) m c) (kloops F G N k (p + 1) (kwalk F G p N p m) (c + 1)) := rfl
theorem bit_eq (m p : Nat) : Nat.beq (Nat.mod (Nat.shiftRight m p) 2) 1 = m.testBit p := by
  rw [Nat.testBit_eq_decide_div_mod_eq, ← Nat.shiftRight_eq_div_pow]
  show Nat.beq (m >>> p % 2) 1 = decide (m >>> p % 2 = 1)
  generalize m >>> p % 2 = z
  by_cases h : z = 1
  · rw [h]; rfl
  · rw [beq_f h]; simp [h]
theorem kloops_ok {f g : Nat → Int} {M F G N : Nat} (hN : M ≤ 2 * N) (hf : PR f M) (hg : PR g M) (hF : ∀ q, q < M → (dg F q : Int) = f q) (hG : ∀ q, q < M → (dg G q : Int) = g q) : ∀ (k p m c : Nat), p + k = M → (∀ q, q < M → (m.testBit q = true ↔ 0 ≤ (lpS f g M p).1 q)) → c = (lpS f g M p).2 → kloops F G N k p m c = (lpS f g M M).2
  | 0, p, m, c, h1, h2, h3 => by
    rw [show M = p by omega] at h3 ⊢
    exact h3
  | k + 1, p, m, c, h1, h2, h3 => by
    have hp : p < M := by omega
    rw [kloops_s, bit_eq]
    have e1 : lpS f g M (p + 1) = if (lpS f g M p).1 p < 0 then (fun q => if orb f g M p q then ((lpS f g M p).2 : Int) else (lpS f g M p).1 q, (lpS f g M p).2 + 1) else lpS f g M p := rfl
    cases hb : m.testBit p with
    | true =>
      have h0 := (h2 p hp).mp hb
      rw [if_neg (by omega)] at e1
      show kloops F G N k (p + 1) m c = _
      exact kloops_ok hN hf hg hF hG k (p + 1) m c (by omega) (by rw [e1]; exact h2) (by rw [e1]; exact h3)
    | false =>
      have h0 : (lpS f g M p).1 p < 0 := by
        by_cases e : 0 ≤ (lpS f g M p).1 p
        · have := (h2 p hp).mpr e
          rw [hb] at this; cases this
        · omega
      rw [if_pos h0] at e1
      obtain ⟨s, s1, s2, s3, s4, s5⟩ := wk_back hf hg hp
      show kloops F G N k (p + 1) (kwalk F G p N p m) (c + 1) = _
      refine kloops_ok hN hf hg hF hG k (p + 1) _ (c + 1) (by omega) (fun q hq => ?_) (by rw [e1, h3])
      have hk := kwalk_bits hf hg hF hG hp s3 s4 s5 N 0 m (by omega) (by omega) q
      rw [e1]
      show (kwalk F G p N (wk f g p (2 * 0)) m).testBit q = true ↔ 0 ≤ (if orb f g M p q then ((lpS f g M p).2 : Int) else (lpS f g M p).1 q)
      rw [hk]
      by_cases ho : orb f g M p q
      · rw [if_pos ho]
        obtain ⟨i, i1, i2⟩ := (orb_iff hf hg hp s1 s2 s3 s4 q).mp ho
        exact ⟨fun _ => by omega, fun _ => Or.inr ⟨i, by omega, i1, i2⟩⟩
      · rw [if_neg ho, ← h2 q hq]
        constructor
        · rintro (h | ⟨i, i1, i2, i3⟩)
          · exact h
          · exact absurd ((orb_iff hf hg hp s1 s2 s3 s4 q).mpr ⟨i, i2, i3⟩) ho
        · exact Or.inl
noncomputable def klp (n F G : Nat) : Nat := kloops F G n (Nat.mul 2 n) 0 0 0
theorem klp_ok {n : Nat} {a b : Nat → Int} {F G : Nat} (ha : arch a n) (hb : arch b n) (hF : ∀ q, q < 2 * n → (dg F q : Int) = pt a n q) (hG : ∀ q, q < 2 * n → (dg G q : Int) = pt b n q) : klp n F G = nlp a b n := by
  refine kloops_ok (Nat.le_refl _) (PR_pt ha) (PR_pt hb) hF hG (2 * n) 0 0 0 (by omega) (fun q _ => ?_) rfl
  show (0 : Nat).testBit q = true ↔ (0 : Int) ≤ -1
  rw [Nat.zero_testBit]
  exact ⟨fun h => (by cases h), fun h => (by omega)⟩
