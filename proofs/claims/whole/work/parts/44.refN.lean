/-! THE REFERENCE: endsOf, printed by wip/whole/gen/refN.py -/
theorem En_far : ∀ (l h : Nat), l < h → En l h = 0
  | 0, h, e => by unfold En; rw [if_neg (by omega)]
  | l + 1, h, e => by
    unfold En
    rw [En_far l (h + 1) (by omega), En_far l (h - 1) (by omega)]
    split <;> rfl
theorem En_rng : ∀ (l h : Nat), 0 ≤ En l h ∧ En l h ≤ 2 ^ l
  | 0, h => by unfold En; split <;> decide
  | l + 1, h => by
    have h1 := En_rng l (h + 1)
    have h2 := En_rng l (h - 1)
    unfold En
    rw [Int.pow_succ]
    split <;> omega
theorem pow24 {l : Nat} (h : l ≤ 24) : (2 : Int) ^ l ≤ 16777216 := by
  have h1 : 2 ^ l ≤ 2 ^ 24 := Nat.pow_le_pow_right (by decide) h
  have h2 : ((2 ^ l : Nat) : Int) ≤ ((2 ^ 24 : Nat) : Int) := Int.ofNat_le.mpr h1
  rw [Int.natCast_pow] at h2
  exact h2
theorem En_24 {l : Nat} (hl : l ≤ 24) (h : Nat) : 0 ≤ En l h ∧ En l h ≤ 16777216 := ⟨(En_rng l h).1, Int.le_trans (En_rng l h).2 (pow24 hl)⟩
def tb (e : Nat → Int) : Prop := ∀ l, l ≤ 24 → ∀ h, h ≤ 25 → e (26 * l + h) = En l h
def EN (σ τ : SM) : Prop := (∀ j, j ≠ 19 → j ≠ 20 → τ j = σ j) ∧ τ 20 0 = 1 ∧ tb (τ 19)
def QE (σ : SM) (v : Int) (sz : Nat) : QT := fun r h s => s = sz ∧ r = some (vI v) ∧ ∃ τ, h = hM τ ∧ EN σ τ
