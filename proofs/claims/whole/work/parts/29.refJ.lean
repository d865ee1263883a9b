/-! THE REFERENCE: the row that is made is nobody's; things that agree where they are read -/
def KN (σ τ : SM) : Prop := (∀ j, (j ≤ 2 ∨ (10 ≤ j ∧ j ≤ 12) ∨ 19 ≤ j) → τ j = σ j) ∧ (∀ t, t < 10 → τ 4 t = σ 4 t ∧ τ 5 t = σ 5 t) ∧ ∀ j, 6 ≤ j → j ≤ 9 → ∀ i, i < 400 → τ j i = σ j i
theorem RI.kn {S : SS} {σ τ : SM} (hI : RI S σ) (h : KN σ τ) : RI S τ := by
  obtain ⟨h1, h2, h3, h4, h5, h6, h7⟩ := hI
  obtain ⟨k1, k2, k3⟩ := h
  refine ⟨by rw [k1 0 (by omega), k1 1 (by omega), k1 2 (by omega)]; exact h1, fun t ht => ?_, ⟨by rw [k1 10 (by omega)]; exact h3.1, by rw [k1 12 (by omega)]; exact h3.2.1, h3.2.2.1, by rw [k1 11 (by omega)]; exact h3.2.2.2⟩, by rw [k1 19 (by omega), k1 20 (by omega)]; exact h4, by rw [k1 24 (by omega), k1 25 (by omega)]; exact h5, by rw [k1 26 (by omega)]; exact h6, by rw [k1 27 (by omega)]; exact h7⟩
  have g := h2 t ht
  cases e9 : S.2.1 t with
  | none => rw [e9] at g; show τ 4 t = 0; rw [(k2 t ht).1]; exact g
  | some T2 =>
    rw [e9] at g
    obtain ⟨k, n, a, b⟩ := T2
    obtain ⟨w, g1, g2, g3, g4, g5, g6⟩ := g
    have hn := (wf_kind w).2.2.2
    exact ⟨w, by rw [(k2 t ht).1]; exact g1, by rw [(k2 t ht).2]; exact g2, fun z p hp => by rw [k3 6 (by omega) (by omega) _ (by omega)]; exact g3 z p hp, fun z p hp => by rw [k3 6 (by omega) (by omega) _ (by omega)]; exact g4 z p hp, fun z p hp => ⟨by rw [k3 7 (by omega) (by omega) _ (by omega)]; exact (g5 z p hp).1, by rw [k3 9 (by omega) (by omega) _ (by omega)]; exact (g5 z p hp).2⟩, fun z1 z2 p hp => by rw [k3 8 (by omega) (by omega) _ (by omega)]; exact g6 z1 z2 p hp⟩
theorem rowKind_cong {a b : Nat → Int} {n : Nat} (h : ∀ q, q < 2 * n → a q = b q) : rowKind a n = rowKind b n := by
  have hh : ∀ q, q < 2 * n → (0 < a q ↔ 0 < b q) := fun q hq => by rw [h q hq]
  have h1 : arch a n ↔ arch b n := arch_cong hh
  have h2 : peaks a n ↔ peaks b n := by
    constructor
    · intro g p hp; rw [← hh p hp]; exact g p hp
    · intro g p hp; rw [hh p hp]; exact g p hp
  have h3 : nest a n ↔ nest b n := by
    constructor
    · intro g p hp; rw [← hh p hp]; exact g p hp
    · intro g p hp; rw [hh p hp]; exact g p hp
  unfold rowKind
  simp only [h1, h2, h3]
theorem R_one_row {a a2 b b2 : Nat → Int} {n t : Nat} {kd mn one two ov un : Nat → Int} (h : ∀ q, q < 2 * n → a q = a2 q) (g : R_one (rowKind a n, n, a, b) t kd mn one two ov un) : R_one (rowKind a2 n, n, a2, b2) t kd mn one two ov un := by
  have e := rowKind_cong h
  have hp : pt a n = pt a2 n := pt_cong (fun q hq => by rw [h q hq])
  obtain ⟨w, g1, g2, g3, g4, g5, g6⟩ := g
  have hr := rowKind_rng a n
  refine ⟨⟨w.1, w.2.1, ?_⟩, by rw [← e]; exact g1, g2, fun _ p hp2 => by rw [← h p hp2]; exact g3 (by omega) p hp2, fun z => by omega, fun z => by omega, fun z1 z2 p hp2 => by rw [← hp]; exact g6 (by omega) (by omega) p hp2⟩
  rcases w.2.2 with q | q | q
  · exact Or.inl ⟨by rw [← e]; exact q.1, by rw [← e]; exact q.2.1, fun p hp2 => by rw [← h p hp2]; exact q.2.2.1 p hp2, rfl⟩
  · have := q.1; omega
  · have := q.1; omega
theorem nlp_cong {a a2 b b2 : Nat → Int} {n : Nat} (h : ∀ q, q < 2 * n → a q = a2 q) (g : ∀ q, q < 2 * n → b q = b2 q) : nlp a b n = nlp a2 b2 n := by
  unfold nlp
  rw [pt_cong (fun q hq => by rw [h q hq] : ∀ q, q < 2 * n → (0 < a q ↔ 0 < a2 q)), pt_cong (fun q hq => by rw [g q hq] : ∀ q, q < 2 * n → (0 < b q ↔ 0 < b2 q))]
theorem R_one_land {a a2 b b2 : Nat → Int} {k : Int} {n t : Nat} {kd mn one two ov un : Nat → Int} (hk : k = 5 ∨ k = 6) (h : ∀ q, q < 2 * n → a q = a2 q) (h2 : ∀ q, q < 2 * n → b q = b2 q) (g : R_one (k, n, a, b) t kd mn one two ov un) : R_one (k, n, a2, b2) t kd mn one two ov un := by
  have hp : pt a n = pt a2 n := pt_cong (fun q hq => by rw [h q hq])
  have hq : pt b n = pt b2 n := pt_cong (fun q hq => by rw [h2 q hq])
  obtain ⟨w, g1, g2, g3, g4, g5, g6⟩ := g
  refine ⟨⟨w.1, w.2.1, ?_⟩, g1, g2, fun z p hp2 => by rw [← h p hp2]; exact g3 z p hp2, fun z => by omega, fun z p hp2 => ⟨by rw [← h2 p hp2]; exact (g5 z p hp2).1, by rw [← hq]; exact (g5 z p hp2).2⟩, fun z1 z2 p hp2 => by rw [← hp]; exact g6 z1 z2 p hp2⟩
  rcases w.2.2 with q | q | q
  · have := q.1; have := q.2.1; omega
  · refine Or.inr (Or.inl ⟨hk, fun p hp2 => by rw [← h p hp2]; exact q.2.1 p hp2, fun p hp2 => by rw [← h2 p hp2]; exact q.2.2.1 p hp2, (arch_cong (fun q hq => by rw [h q hq])).mp q.2.2.2.1, (arch_cong (fun q hq => by rw [h2 q hq])).mp q.2.2.2.2.1, by rw [← nlp_cong h h2]; exact q.2.2.2.2.2⟩)
  · have := q.1; omega
theorem perm_cong {a b : Nat → Int} {n : Nat} (h : ∀ q, q < n → a q = b q) (g : isPerm a n) : isPerm b n := ⟨fun k hk => by rw [← h k hk]; exact g.1 k hk, fun j hj k hk e => g.2 j hj k hk (by rw [h j hj, h k hk]; exact e)⟩
theorem pos_cong {a b ps : Nat → Int} {n : Nat} (h : ∀ q, q < n → a q = b q) (g : isPos a ps n) : isPos b ps n := fun k hk => by rw [← h k hk]; exact g k hk
theorem R_one_strip {a a2 b b2 : Nat → Int} {k : Int} {n t : Nat} {kd mn one two ov un : Nat → Int} (hk : k = 7 ∨ k = 8) (h : ∀ q, q < n → a q = a2 q) (g : R_one (k, n, a, b) t kd mn one two ov un) : R_one (k, n, a2, b2) t kd mn one two ov un := by
  obtain ⟨w, g1, g2, g3, g4, g5, g6⟩ := g
  refine ⟨⟨w.1, w.2.1, ?_⟩, g1, g2, fun z => by omega, fun z p hp2 => by rw [← h p hp2]; exact g4 z p hp2, fun z => by omega, fun z1 z2 => by omega⟩
  rcases w.2.2 with q | q | q
  · have := q.1; have := q.2.1; omega
  · have := q.1; omega
  · refine Or.inr (Or.inr ⟨hk, perm_cong h q.2.1, ?_⟩)
    rw [q.2.2]
    exact ⟨fun ⟨ps, h1, h2⟩ => ⟨ps, pos_cong h h1, h2⟩, fun ⟨ps, h1, h2⟩ => ⟨ps, pos_cong (fun q hq => (h q hq).symm) h1, h2⟩⟩
/-! calls that make things -/
def sg (f : Nat → Int) (i : Nat) : Nat → Int := fun p => if 0 < f (i + p) then 1 else -1
def sp_row (S : SS) (pl sh i n : Int) : Int × SS := if (0 ≤ pl ∧ pl ≤ 9) ∧ (0 ≤ sh ∧ sh ≤ 7) ∧ (1 ≤ n ∧ n ≤ 20) then (match S.1 sh.toNat with
  | none => (-1000011, sSt S 1)
  | some (_, m, f) => if 0 ≤ i ∧ i + 2 * n ≤ m then (if ∀ p, p < 2 * n.toNat → f (i.toNat + p) ≠ 0 then (rowKind (sg f i.toNat) n.toNat, sTh S pl.toNat (some (rowKind (sg f i.toNat) n.toNat, n.toNat, sg f i.toNat, fun _ => 0))) else (-1000001, S)) else (-1000012, sSt S 2)) else (-1000001, S)
def landK (a b : Nat → Int) (n : Nat) : Int := if nlp a b n = 1 then 6 else 5
def sp_land (S : SS) (pl p q : Int) : Int × SS := if (0 ≤ pl ∧ pl ≤ 9) ∧ (0 ≤ p ∧ p ≤ 9) ∧ (0 ≤ q ∧ q ≤ 9) then (match S.2.1 p.toNat with
  | none => (-1000011, sSt S 1)
  | some (kd, n, a, _) => if isOf kd 2 then (match S.2.1 q.toNat with
    | none => (-1000011, sSt S 1)
    | some (kd2, n2, a2, _) => if isOf kd2 2 then (if n = n2 then (landK a a2 n, sTh S pl.toNat (some (landK a a2 n, n, a, a2))) else (-1000001, S)) else (-1000013, sSt S 3)) else (-1000013, sSt S 3)) else (-1000001, S)
/-- the strip call: its kind is told by a relation -/
def sp_strip (S : SS) (pl sh i n : Int) (x : Int × SS) : Prop := if (0 ≤ pl ∧ pl ≤ 9) ∧ (0 ≤ sh ∧ sh ≤ 7) ∧ (1 ≤ n ∧ n ≤ 20) then (match S.1 sh.toNat with
  | none => x = (-1000011, sSt S 1)
  | some (_, m, f) => if 0 ≤ i ∧ i + n ≤ m then (if isPerm (fun q => f (i.toNat + q)) n.toNat then (∃ k, isStripK (fun q => f (i.toNat + q)) n.toNat k ∧ x = (k, sTh S pl.toNat (some (k, n.toNat, fun q => f (i.toNat + q), fun _ => 0)))) else x = (-1000001, S)) else x = (-1000012, sSt S 2)) else x = (-1000001, S)
