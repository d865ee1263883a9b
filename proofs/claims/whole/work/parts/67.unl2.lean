/-! UNLIKE: what the kernel's numbers say -/
theorem UD {n : Nat} (h1 : 1 ≤ n) (h5 : n ≤ 5) : (∀ i, i < EE n → (PL n)[i]? = some (bg (PPn n) i) ∧ d6 (TTn n) i < EE n ∧ d6 (MMn n) i < EE n ∧ ∀ q, q < 2 * n → (q < ymN n (dg (bg (PPn n) i) (sq n q)) ↔ q < dg (bg (PPn n) (d6 (TTn n) i)) q) ∧ (¬ (2 * n - 1 - q < dg (bg (PPn n) i) (2 * n - 1 - q)) ↔ q < dg (bg (PPn n) (d6 (MMn n) i)) q)) ∧ (∃ c, unK n (EE n) (PPn n) (TTn n) (MMn n) (EE n * EE n) 0 0 0 = some c ∧ (c : Int) = unlT n) ∧ EE n ≤ 42 ∧ 1 ≤ EE n := by
  match n, h1, h5 with
  | 1, _, _ =>
    have e : EE 1 = 1 := by decide +kernel
    rw [e]
    exact ⟨fun i hi => ⟨(up_1 ⟨i, hi⟩).1, (up_1 ⟨i, hi⟩).2.1, (up_1 ⟨i, hi⟩).2.2.1, fun q hq => (up_1 ⟨i, hi⟩).2.2.2 ⟨q, hq⟩⟩, ⟨1, un_1, by decide +kernel⟩, by omega, by omega⟩
  | 2, _, _ =>
    have e : EE 2 = 2 := by decide +kernel
    rw [e]
    exact ⟨fun i hi => ⟨(up_2 ⟨i, hi⟩).1, (up_2 ⟨i, hi⟩).2.1, (up_2 ⟨i, hi⟩).2.2.1, fun q hq => (up_2 ⟨i, hi⟩).2.2.2 ⟨q, hq⟩⟩, ⟨1, un_2, by decide +kernel⟩, by omega, by omega⟩
  | 3, _, _ =>
    have e : EE 3 = 5 := by decide +kernel
    rw [e]
    exact ⟨fun i hi => ⟨(up_3 ⟨i, hi⟩).1, (up_3 ⟨i, hi⟩).2.1, (up_3 ⟨i, hi⟩).2.2.1, fun q hq => (up_3 ⟨i, hi⟩).2.2.2 ⟨q, hq⟩⟩, ⟨2, un_3, by decide +kernel⟩, by omega, by omega⟩
  | 4, _, _ =>
    have e : EE 4 = 14 := by decide +kernel
    rw [e]
    exact ⟨fun i hi => ⟨(up_4 ⟨i, hi⟩).1, (up_4 ⟨i, hi⟩).2.1, (up_4 ⟨i, hi⟩).2.2.1, fun q hq => (up_4 ⟨i, hi⟩).2.2.2 ⟨q, hq⟩⟩, ⟨4, un_4, by decide +kernel⟩, by omega, by omega⟩
  | 5, _, _ =>
    have e : EE 5 = 42 := by decide +kernel
    rw [e]
    exact ⟨fun i hi => ⟨(up_5 ⟨i, hi⟩).1, (up_5 ⟨i, hi⟩).2.1, (up_5 ⟨i, hi⟩).2.2.1, fun q hq => (up_5 ⟨i, hi⟩).2.2.2 ⟨q, hq⟩⟩, ⟨14, un_5, by decide +kernel⟩, by omega, by omega⟩
/-- the rank of the i-th arches is i -/
theorem rk_tls {n : Nat} {i : Int} (h : 0 ≤ i ∧ i < En (2 * n) 0) : ∀ p : Nat, p ≤ 2 * n → rk (tls n i) n p + (tlS n i p).1 = i
  | 0, _ => by show 0 + i = i; omega
  | p + 1, hp => by
    have ih := rk_tls h p (by omega)
    have hiv := tlS_inv h p (by omega)
    have e0 : rk (tls n i) n (p + 1) = rk (tls n i) n p + (if 0 < tls n i p then 0 else En (2 * n - p - 1) (ht (tls n i) p + 1).toNat) := rfl
    have e1 : tlS n i (p + 1) = if (tlS n i p).1 < En (2 * n - p - 1) ((tlS n i p).2 + 1).toNat then ((tlS n i p).1, (tlS n i p).2 + 1) else ((tlS n i p).1 - En (2 * n - p - 1) ((tlS n i p).2 + 1).toNat, (tlS n i p).2 - 1) := rfl
    have e3 : tls n i p = if (tlS n i p).1 < En (2 * n - p - 1) ((tlS n i p).2 + 1).toNat then 1 else -1 := rfl
    rw [e0, hiv.2.2.2.2]
    by_cases hu : (tlS n i p).1 < En (2 * n - p - 1) ((tlS n i p).2 + 1).toNat
    · rw [if_pos hu] at e1 e3
      rw [e1, e3, if_pos (by decide)]
      dsimp only; omega
    · rw [if_neg hu] at e1 e3
      rw [e1, e3, if_neg (by decide)]
      dsimp only; omega
theorem rk_tls2 {n : Nat} {i : Int} (h : 0 ≤ i ∧ i < En (2 * n) 0) : rk (tls n i) n (2 * n) = i := by
  have h1 := rk_tls h (2 * n) (Nat.le_refl _)
  have h2 := tlS_inv h (2 * n) (Nat.le_refl _)
  have h3 := (En_rng (2 * n - 2 * n) (tlS n i (2 * n)).2.toNat).2
  rw [Nat.sub_self] at h3 h2
  have e9 : (2 : Int) ^ 0 = 1 := rfl
  omega
theorem ht_cong {a b : Nat → Int} : ∀ p : Nat, (∀ q, q < p → (0 < a q ↔ 0 < b q)) → ht a p = ht b p
  | 0, _ => rfl
  | p + 1, h => by
    have ih := ht_cong p (fun q hq => h q (by omega))
    show ht a p + (if 0 < a p then 1 else -1) = ht b p + (if 0 < b p then 1 else -1)
    rw [ih]
    by_cases hp : 0 < a p
    · rw [if_pos hp, if_pos ((h p (by omega)).mp hp)]
    · rw [if_neg hp, if_neg (fun z => hp ((h p (by omega)).mpr z))]
theorem rk_cong {a b : Nat → Int} {n : Nat} : ∀ p : Nat, (∀ q, q < p → (0 < a q ↔ 0 < b q)) → rk a n p = rk b n p
  | 0, _ => rfl
  | p + 1, h => by
    have ih := rk_cong (n := n) p (fun q hq => h q (by omega))
    have eh := ht_cong (a := a) (b := b) p (fun q hq => h q (by omega))
    show rk a n p + (if 0 < a p then 0 else En (2 * n - p - 1) (ht a p + 1).toNat) = rk b n p + (if 0 < b p then 0 else En (2 * n - p - 1) (ht b p + 1).toNat)
    rw [ih, eh]
    by_cases hp : 0 < a p
    · rw [if_pos hp, if_pos ((h p (by omega)).mp hp)]
    · rw [if_neg hp, if_neg (fun z => hp ((h p (by omega)).mpr z))]
theorem bg_pt {n : Nat} (h1 : 1 ≤ n) (h5 : n ≤ 5) {i : Nat} (hi : i < EE n) : ∀ q, q < 2 * n → (dg (bg (PPn n) i) q : Int) = pt (tls n i) n q := by
  obtain ⟨F, f1, f2⟩ := PL_get (n := n) (i := i) (by omega) (by have : (EE n : Int) = En (2 * n) 0 := by { have := En_rng (2 * n) 0; show ((En (2 * n) 0).toNat : Int) = _; omega }; omega)
  rw [((UD h1 h5).1 i hi).1] at f1
  cases f1
  exact f2
theorem EE_int (n : Nat) : (EE n : Int) = En (2 * n) 0 := by have := En_rng (2 * n) 0; show ((En (2 * n) 0).toNat : Int) = _; omega
theorem tls_pos {n : Nat} {i : Nat} (hi : i < EE n) {F : Nat} (hF : ∀ q, q < 2 * n → (dg F q : Int) = pt (tls n i) n q) : ∀ q, q < 2 * n → (0 < tls n i q ↔ q < dg F q) := by
  intro q hq
  have hE := EE_int n
  obtain ⟨r, k1, k2, k3, k4, k5⟩ := pt_pair (tls_arch (n := n) (i := (i : Int)) ⟨by omega, by omega⟩) hq
  rw [k5]
  have := hF q hq
  omega
theorem turn_rk {n : Nat} (h1 : 1 ≤ n) (h5 : n ≤ 5) {i : Nat} (hi : i < EE n) : rk (tu (tls n i) n) n (2 * n) = (d6 (TTn n) i : Int) := by
  have hE := EE_int n
  have ha := tls_arch (n := n) (i := (i : Int)) ⟨by omega, by omega⟩
  obtain ⟨-, u2, -, u4⟩ := (UD h1 h5).1 i hi
  rw [rk_cong (b := tls n (d6 (TTn n) i : Nat)) (2 * n) (fun q hq => ?_), rk_tls2 ⟨by omega, by omega⟩]
  rw [← tuf_tu ha h1 (fun p _ => tls_sg n i p) q hq, tls_pos u2 (bg_pt h1 h5 u2) q hq, ← (u4 q hq).1]
  have hsq : sq n q < 2 * n := by unfold sq; split <;> omega
  have hp := bg_pt h1 h5 hi (sq n q) hsq
  have e : ym n (pt (tls n i) n (sq n q)) = (ymN n (dg (bg (PPn n) i) (sq n q)) : Int) := by
    rw [← hp]
    unfold ym ymN
    by_cases e : dg (bg (PPn n) i) (sq n q) = 0
    · rw [if_pos e, if_pos (by omega)]; omega
    · rw [if_neg e, if_neg (by omega)]; omega
  unfold tuf
  rw [e]
  split <;> omega
theorem mirror_rk {n : Nat} (h1 : 1 ≤ n) (h5 : n ≤ 5) {i : Nat} (hi : i < EE n) : rk (mi (tls n i) n) n (2 * n) = (d6 (MMn n) i : Int) := by
  have hE := EE_int n
  obtain ⟨-, -, u3, u4⟩ := (UD h1 h5).1 i hi
  rw [rk_cong (b := tls n (d6 (MMn n) i : Nat)) (2 * n) (fun q hq => ?_), rk_tls2 ⟨by omega, by omega⟩]
  rw [tls_pos u3 (bg_pt h1 h5 u3) q hq, ← (u4 q hq).2, ← tls_pos hi (bg_pt h1 h5 hi) (2 * n - 1 - q) (by omega)]
  have := tls_sg n (i : Int) (2 * n - 1 - q)
  show 0 < - tls n (i : Int) (2 * n - 1 - q) ↔ _
  omega
/-! going through -/
theorem puD_bit (D t x : Nat) : (puD D t).testBit x = true ↔ D.testBit x = true ∨ t = x := by
  unfold puD
  rw [bit_eq]
  cases h : D.testBit t with
  | true =>
    show D.testBit x = true ↔ _
    exact ⟨Or.inl, fun g => g.elim id (fun e => by rw [← e]; exact h)⟩
  | false =>
    show (D ||| 1 <<< t).testBit x = true ↔ _
    rw [Nat.testBit_or, Nat.one_shiftLeft, Nat.testBit_two_pow]
    simp only [Bool.or_eq_true, decide_eq_true_eq]
theorem or_bit (D t x : Nat) : (Nat.lor D (Nat.shiftLeft 1 t)).testBit x = true ↔ D.testBit x = true ∨ t = x := by
  show (D ||| 1 <<< t).testBit x = true ↔ _
  rw [Nat.testBit_or, Nat.one_shiftLeft, Nat.testBit_two_pow]
  simp only [Bool.or_eq_true, decide_eq_true_eq]
theorem puS_t {D t : Nat} {S : List Nat} (h : D.testBit t = true) : puS D t S = S := by unfold puS; rw [bit_eq, h]; rfl
theorem puS_f {D t : Nat} {S : List Nat} (h : D.testBit t = false) : puS D t S = t :: S := by unfold puS; rw [bit_eq, h]; rfl
theorem flK_n (A T M f D : Nat) : flK A T M (f + 1) D [] = some D := rfl
noncomputable abbrev w1 (A T t : Nat) : Nat := A * d6 T (t / A) + d6 T (t % A)
abbrev w3 (A t : Nat) : Nat := A * (t % A) + t / A
theorem flK_c (A T M f D t : Nat) (R : List Nat) : flK A T M (f + 1) D (t :: R) = flK A T M f (puD (puD (puD D (w1 A T t)) (w1 A M t)) (w3 A t)) (puS (puD (puD D (w1 A T t)) (w1 A M t)) (w3 A t) (puS (puD D (w1 A T t)) (w1 A M t) (puS D (w1 A T t) R))) := rfl
theorem unK_inv {n A P T M m k D c r : Nat} (h : unK n A P T M (m + 1) k D c = some r) : (D.testBit k = true ∧ unK n A P T M m (k + 1) D c = some r) ∨ (D.testBit k = false ∧ klp n (bg P (k / A)) (bg P (k % A)) ≠ 1 ∧ unK n A P T M m (k + 1) D c = some r) ∨ (D.testBit k = false ∧ klp n (bg P (k / A)) (bg P (k % A)) = 1 ∧ ∃ D2, flK A T M 100 (Nat.lor D (Nat.shiftLeft 1 k)) [k] = some D2 ∧ unK n A P T M m (k + 1) D2 (c + 1) = some r) := by
  have h2 : cond (Nat.beq (Nat.mod (Nat.shiftRight D k) 2) 1) (unK n A P T M m (k + 1) D c) (cond (Nat.beq (klp n (bg P (k / A)) (bg P (k % A))) 1) (Option.rec (motive := fun _ => Option Nat) none (fun D2 => unK n A P T M m (k + 1) D2 (c + 1)) (flK A T M 100 (Nat.lor D (Nat.shiftLeft 1 k)) [k])) (unK n A P T M m (k + 1) D c)) = some r := h
  rw [bit_eq] at h2
  cases hb : D.testBit k with
  | true => rw [hb] at h2; exact Or.inl ⟨rfl, h2⟩
  | false =>
    rw [hb] at h2
    have h3 : cond (Nat.beq (klp n (bg P (k / A)) (bg P (k % A))) 1) (Option.rec (motive := fun _ => Option Nat) none (fun D2 => unK n A P T M m (k + 1) D2 (c + 1)) (flK A T M 100 (Nat.lor D (Nat.shiftLeft 1 k)) [k])) (unK n A P T M m (k + 1) D c) = some r := h2
    by_cases e : klp n (bg P (k / A)) (bg P (k % A)) = 1
    · rw [beq_t e] at h3
      have h4 : (Option.rec (motive := fun _ => Option Nat) none (fun D2 => unK n A P T M m (k + 1) D2 (c + 1)) (flK A T M 100 (Nat.lor D (Nat.shiftLeft 1 k)) [k]) : Option Nat) = some r := h3
      cases hf : flK A T M 100 (Nat.lor D (Nat.shiftLeft 1 k)) [k] with
      | none => rw [hf] at h4; cases h4
      | some D2 => rw [hf] at h4; exact Or.inr (Or.inr ⟨rfl, e, D2, rfl, h4⟩)
    · rw [beq_f e] at h3
      exact Or.inr (Or.inl ⟨rfl, e, h3⟩)
/-- what is to be gone through, the latest first -/
def TD (g : Nat → Int) : List Nat → Prop
  | [] => True
  | t :: S => g S.length = (t : Int) ∧ TD g S
theorem TD_upd {g : Nat → Int} {x : Int} {l : Nat} : ∀ {S : List Nat}, S.length ≤ l → TD g S → TD (upf g l x) S
  | [], _, _ => trivial
  | t :: S, h, hg => by
    rw [List.length_cons] at h
    exact ⟨by rw [upf_n (by omega)]; exact hg.1, TD_upd (by omega) hg.2⟩
theorem mb {x y : Int} (hx : 0 ≤ x ∧ x ≤ 42) (hy : 0 ≤ y ∧ y ≤ 42) : 0 ≤ x * y ∧ x * y ≤ 1764 := by
  refine ⟨Int.mul_nonneg hx.1 hy.1, ?_⟩
  have h1 := Int.mul_le_mul hx.2 hy.2 hy.1 (by omega)
  omega
theorem pair_lt {A a b : Nat} (ha : a < A) (hb : b < A) : A * a + b < A * A := by
  have := Nat.mul_le_mul_left A (show a + 1 ≤ A by omega)
  rw [Nat.mul_add] at this
  omega
theorem div_lt {A t : Nat} (h : t < A * A) : t / A < A := Nat.div_lt_of_lt_mul h
