/-! THE STATE, as the document has it: SHEETS (lane, size, items), THE SHELF (kind, n, signs or stamps, signs of UNDER), the latest finding, THE TRACE -/
abbrev TH : Type := Int × Nat × (Nat → Int) × (Nat → Int)
abbrev SHT : Type := Int × Nat × (Nat → Int)
abbrev SS : Type := (Nat → Option SHT) × (Nat → Option TH) × Int × Nat × (Nat → Int)
def ups {α : Type} (f : Nat → Option α) (k : Nat) (v : Option α) : Nat → Option α := fun j => if j = k then v else f j
def sSt (S : SS) (x : Int) : SS := (S.1, S.2.1, x, S.2.2.2)
def sSh (S : SS) (k : Nat) (v : Option SHT) : SS := (ups S.1 k v, S.2.1, 0, S.2.2.2)
def sTh (S : SS) (k : Nat) (v : Option TH) : SS := (S.1, ups S.2.1 k v, 0, S.2.2.2)
/-- PEAKS, NEST, and the KIND of a ROW -/
abbrev peaks (a : Nat → Int) (n : Nat) : Prop := ∀ p, p < 2 * n → (0 < a p ↔ p % 2 = 0)
abbrev nest (a : Nat → Int) (n : Nat) : Prop := ∀ p, p < 2 * n → (0 < a p ↔ p < n)
def rowKind (a : Nat → Int) (n : Nat) : Int := if arch a n then (if peaks a n then 4 else if nest a n then 3 else 2) else 1
theorem rowKind_rng (a : Nat → Int) (n : Nat) : 1 ≤ rowKind a n ∧ rowKind a n ≤ 4 ∧ (2 ≤ rowKind a n ↔ arch a n) := by
  unfold rowKind
  by_cases h : arch a n
  · rw [if_pos h]
    split
    · exact ⟨by omega, by omega, fun _ => h, fun _ => by omega⟩
    · split
      · exact ⟨by omega, by omega, fun _ => h, fun _ => by omega⟩
      · exact ⟨by omega, by omega, fun _ => h, fun _ => by omega⟩
  · rw [if_neg h]; exact ⟨by omega, by omega, fun g => by omega, fun g => absurd g h⟩
/-- the way over (f) and under (g) the road from p; its loop; the loops' numbers, and how many -/
def wk (f g : Nat → Int) (p : Nat) : Nat → Nat
  | 0 => p
  | k + 1 => if k % 2 = 0 then (f (wk f g p k)).toNat else (g (wk f g p k)).toNat
abbrev orb (f g : Nat → Int) (N p q : Nat) : Prop := ∃ k, k < N ∧ wk f g p k = q
def lpS (f g : Nat → Int) (N : Nat) : Nat → (Nat → Int) × Nat
  | 0 => (fun _ => -1, 0)
  | p + 1 => if (lpS f g N p).1 p < 0 then (fun q => if orb f g N p q then ((lpS f g N p).2 : Int) else (lpS f g N p).1 q, (lpS f g N p).2 + 1) else lpS f g N p
def nlp (a b : Nat → Int) (n : Nat) : Nat := (lpS (pt a n) (pt b n) (2 * n) (2 * n)).2
def lab (a b : Nat → Int) (n q : Nat) : Int := (lpS (pt a n) (pt b n) (2 * n) (2 * n)).1 q
/-- STRIPS: an order a of n stamps, ps the places; joints i, j clash -/
abbrev isPerm (a : Nat → Int) (n : Nat) : Prop := (∀ k, k < n → 0 ≤ a k ∧ a k < n) ∧ ∀ j, j < n → ∀ k, k < n → a j = a k → j = k
abbrev isPos (a ps : Nat → Int) (n : Nat) : Prop := ∀ k, k < n → ps (a k).toNat = k
abbrev btw (ps : Nat → Int) (i j : Nat) : Prop := (ps i < ps j ∧ ps j < ps (i + 1)) ∨ (ps (i + 1) < ps j ∧ ps j < ps i)
abbrev clashAt (ps : Nat → Int) (n i j : Nat) : Prop := j + 1 < n ∧ i + 2 ≤ j ∧ (j - i) % 2 = 0 ∧ ¬ (btw ps i j ↔ btw ps i (j + 1))
def noClash (ps : Nat → Int) (n : Nat) : Prop := ∀ i j, ¬ clashAt ps n i j
/-- the first clash, or NONE -/
def firstClash (ps : Nat → Int) (n : Nat) (x y : Int) : Prop := (noClash ps n ∧ x = -1000000 ∧ y = -1000000) ∨ ∃ i j : Nat, clashAt ps n i j ∧ x = i ∧ y = j ∧ (∀ i2 j2, clashAt ps n i2 j2 → i < i2 ∨ (i = i2 ∧ j ≤ j2))
theorem firstClash_one {ps : Nat → Int} {n : Nat} {x y x2 y2 : Int} (h : firstClash ps n x y) (h2 : firstClash ps n x2 y2) : x = x2 ∧ y = y2 := by
  rcases h with ⟨h, rfl, rfl⟩ | ⟨i, j, h, rfl, rfl, hm⟩
  · rcases h2 with ⟨-, rfl, rfl⟩ | ⟨i, j, g, -⟩
    · exact ⟨rfl, rfl⟩
    · exact absurd g (h i j)
  · rcases h2 with ⟨g, -⟩ | ⟨i2, j2, g, rfl, rfl, gm⟩
    · exact absurd h (g i j)
    · have a1 := hm i2 j2 g
      have a2 := gm i j h
      omega
/-- positions agree on the stamps: all is the same -/
theorem clash_cong {ps qs : Nat → Int} {n i j : Nat} (h : ∀ s, s < n → ps s = qs s) : clashAt ps n i j ↔ clashAt qs n i j := by
  unfold clashAt btw
  constructor
  · rintro ⟨h1, h2, h3, h4⟩
    rw [h i (by omega), h (i + 1) (by omega), h j (by omega), h (j + 1) (by omega)] at h4
    exact ⟨h1, h2, h3, h4⟩
  · rintro ⟨h1, h2, h3, h4⟩
    rw [← h i (by omega), ← h (i + 1) (by omega), ← h j (by omega), ← h (j + 1) (by omega)] at h4
    exact ⟨h1, h2, h3, h4⟩
theorem perm_onto {a : Nat → Int} {n : Nat} (h : isPerm a n) {s : Nat} (hs : s < n) : ∃ k, k < n ∧ a k = s := by
  obtain ⟨k, hk, e⟩ := fb_onto (n := n) (f := fun k => (a k).toNat) (fun i hi => by have := h.1 i hi; omega) (fun i j hij hj e => by
    have h1 := h.1 i (by omega)
    have h2 := h.1 j hj
    have := h.2 i (by omega) j hj (by omega)
    omega) hs
  refine ⟨k, hk, ?_⟩
  have := h.1 k hk
  omega
theorem pos_one {a ps qs : Nat → Int} {n : Nat} (h : isPerm a n) (h1 : isPos a ps n) (h2 : isPos a qs n) : ∀ s, s < n → ps s = qs s := by
  intro s hs
  obtain ⟨k, hk, e⟩ := perm_onto h hs
  have a1 := h1 k hk
  have a2 := h2 k hk
  rw [e] at a1 a2
  simp only [Int.toNat_natCast] at a1 a2
  rw [a1, a2]
/-- a THING as it may stand on THE SHELF -/
def wfT (T : TH) : Prop := match T with
  | (k, n, a, b) => 1 ≤ n ∧ n ≤ 20 ∧
    ((1 ≤ k ∧ k ≤ 4 ∧ (∀ p, p < 2 * n → a p = 1 ∨ a p = -1) ∧ k = rowKind a n) ∨
     ((k = 5 ∨ k = 6) ∧ (∀ p, p < 2 * n → a p = 1 ∨ a p = -1) ∧ (∀ p, p < 2 * n → b p = 1 ∨ b p = -1) ∧ arch a n ∧ arch b n ∧ (k = 6 ↔ nlp a b n = 1)) ∨
     ((k = 7 ∨ k = 8) ∧ isPerm a n ∧ (k = 8 ↔ ∃ ps, isPos a ps n ∧ noClash ps n)))
/-! WHAT THE REFERENCE HOLDS of the state -/
def R_sh (f : Nat → Option SHT) (la sz it : Nat → Int) : Prop := ∀ k, k < 8 → match f k with
  | none => la k = 0
  | some (l, n, g) => 0 ≤ l ∧ l ≤ 2 ∧ n ≤ 100 ∧ la k = l + 1 ∧ sz k = n ∧ ∀ i, i < n → it (100 * k + i) = g i
def R_one (T : TH) (t : Nat) (kd mn one two ov un : Nat → Int) : Prop := match T with
  | (k, n, a, b) => wfT T ∧ kd t = k ∧ mn t = n ∧ (k ≤ 6 → ∀ p, p < 2 * n → one (40 * t + p) = a p) ∧ (7 ≤ k → ∀ p, p < n → one (40 * t + p) = a p) ∧
    ((k = 5 ∨ k = 6) → ∀ p, p < 2 * n → two (40 * t + p) = b p ∧ un (40 * t + p) = pt b n p) ∧ (2 ≤ k → k ≤ 6 → ∀ p, p < 2 * n → ov (40 * t + p) = pt a n p)
def R_th (f : Nat → Option TH) (kd mn one two ov un : Nat → Int) : Prop := ∀ t, t < 10 → match f t with
  | none => kd t = 0
  | some T => R_one T t kd mn one two ov un
def R_st (S : SS) (st tr td : Nat → Int) : Prop := st 0 = S.2.2.1 ∧ td 0 = S.2.2.2.1 ∧ S.2.2.2.1 ≤ 16 ∧ ∀ i, i < S.2.2.2.1 → tr i = S.2.2.2.2 i
