/-! HEIGHTS: turned and mirrored ARCHES are ARCHES -/
def ht (a : Nat → Int) : Nat → Int
  | 0 => 0
  | p + 1 => ht a p + (if 0 < a p then 1 else -1)
theorem ht_stk {a : Nat → Int} : ∀ {p : Nat}, nof a p → ht a p = ((stk a p).length : Int)
  | 0, _ => rfl
  | p + 1, h => by
    have ih := ht_stk (nof_mono h (Nat.le_succ p))
    unfold ht
    by_cases hp : 0 < a p
    · rw [if_pos hp, stk_plus hp, List.length_cons, ih]; omega
    · rw [if_neg hp, stk_minus hp, List.length_tail, ih]
      have h1 := (h p (by omega)).resolve_left hp
      have h2 : 0 < (stk a p).length := List.length_pos_iff.mpr h1
      omega
theorem nof_of_ht {a : Nat → Int} : ∀ {p : Nat}, (∀ q, q ≤ p → 0 ≤ ht a q) → nof a p
  | 0, _ => fun q hq => by omega
  | p + 1, h => by
    have ih : nof a p := nof_of_ht (fun q hq => h q (by omega))
    intro q hq
    by_cases e : q = p
    · rw [e]
      by_cases hp : 0 < a p
      · exact Or.inl hp
      · right
        intro hs
        have h1 := ht_stk ih
        have h2 := h (p + 1) (by omega)
        unfold ht at h2
        rw [if_neg hp, h1, hs] at h2
        simp at h2
    · exact ih q (by omega)
theorem arch_iff {a : Nat → Int} {n : Nat} : arch a n ↔ (∀ q, q ≤ 2 * n → 0 ≤ ht a q) ∧ ht a (2 * n) = 0 := by
  constructor
  · intro h
    refine ⟨fun q hq => ?_, ?_⟩
    · rw [ht_stk (nof_mono h.1 hq)]; omega
    · rw [ht_stk h.1, h.2]; rfl
  · intro h
    have hn := nof_of_ht h.1
    refine ⟨hn, ?_⟩
    have h1 := ht_stk hn
    rw [h.2] at h1
    exact List.eq_nil_of_length_eq_zero (by omega)
def mi (a : Nat → Int) (n : Nat) : Nat → Int := fun p => - a (2 * n - 1 - p)
theorem ht_mi {a : Nat → Int} {n : Nat} (hs : ∀ p, p < 2 * n → a p = 1 ∨ a p = -1) : ∀ q, q ≤ 2 * n → ht (mi a n) q = ht a (2 * n - q) - ht a (2 * n)
  | 0, _ => by simp [ht]
  | q + 1, h => by
    have ih := ht_mi hs q (by omega)
    have e : 2 * n - q = (2 * n - (q + 1)) + 1 := by omega
    have e2 : 2 * n - 1 - q = 2 * n - (q + 1) := by omega
    have hq := hs (2 * n - (q + 1)) (by omega)
    rw [e] at ih
    have e4 : ht (mi a n) (q + 1) = ht (mi a n) q + (if 0 < mi a n q then 1 else -1) := rfl
    have e5 : ht a (2 * n - (q + 1) + 1) = ht a (2 * n - (q + 1)) + (if 0 < a (2 * n - (q + 1)) then 1 else -1) := rfl
    rw [e5] at ih
    rw [e4]
    rw [show mi a n q = - a (2 * n - (q + 1)) by unfold mi; rw [e2]]
    rcases hq with hq | hq
    · rw [if_pos (by omega)] at ih
      rw [if_neg (by omega)]
      omega
    · rw [if_neg (by omega)] at ih
      rw [if_pos (by omega)]
      omega
theorem arch_mi {a : Nat → Int} {n : Nat} (hs : ∀ p, p < 2 * n → a p = 1 ∨ a p = -1) (h : arch a n) : arch (mi a n) n := by
  rw [arch_iff] at h ⊢
  refine ⟨fun q hq => ?_, ?_⟩
  · rw [ht_mi hs q hq, h.2]
    have := h.1 (2 * n - q) (by omega)
    omega
  · rw [ht_mi hs (2 * n) (by omega), h.2]
    simp [ht]
theorem mi_sg {a : Nat → Int} {n : Nat} (hs : ∀ p, p < 2 * n → a p = 1 ∨ a p = -1) : ∀ p, p < 2 * n → mi a n p = 1 ∨ mi a n p = -1 := by
  intro p hp
  have := hs (2 * n - 1 - p) (by omega)
  unfold mi; omega
/-- what is joined stays joined -/
theorem jn_stable {a t : Nat → Int} {p q : Nat} (hq : q < p) (hs : q ∉ stk a p) : ∀ k, nof a (p + k) → jn a t (p + k) q = jn a t p q ∧ q ∉ stk a (p + k)
  | 0, _ => ⟨rfl, hs⟩
  | k + 1, h => by
    obtain ⟨i1, i2⟩ := jn_stable (t := t) hq hs k (nof_mono h (by omega))
    rw [show p + (k + 1) = (p + k) + 1 by omega] at h ⊢
    by_cases hp : 0 < a (p + k)
    · rw [jn_plus hp, stk_plus hp]
      exact ⟨i1, fun z => (List.mem_cons.mp z).elim (fun e => by omega) i2⟩
    · have h2 := (h (p + k) (by omega)).resolve_left hp
      obtain ⟨s, r, hsr⟩ : ∃ s r, stk a (p + k) = s :: r := by
        cases e : stk a (p + k) with
        | nil => exact absurd e h2
        | cons s r => exact ⟨s, r, rfl⟩
      rw [jn_minus hp hsr, stk_minus hp, hsr]
      rw [hsr] at i2
      have q1 : q ≠ s := fun e => i2 (by rw [e]; exact List.mem_cons_self)
      refine ⟨?_, fun z => i2 (List.mem_cons_of_mem _ z)⟩
      simp only [upf, if_neg q1, if_neg (show ¬ q = p + k by omega)]
      exact i1
theorem stk_pw {a : Nat → Int} : ∀ p : Nat, (stk a p).Pairwise (fun x y => y < x)
  | 0 => List.Pairwise.nil
  | p + 1 => by
    unfold stk
    split
    · exact List.Pairwise.cons (fun y hy => (stk_lt hy).1) (stk_pw p)
    · exact (stk_pw p).tail
theorem in_stk {a : Nat → Int} {n x c q : Nat} (h : arch a n) (hx : x < 2 * n) (hc : pt a n x = (c : Int)) (h1 : x < q) (h2 : q ≤ c) (hc2 : c < 2 * n) : x ∈ stk a q := by
  refine Classical.byContradiction fun hno => ?_
  have hnf : nof a q := nof_mono h.1 (by omega)
  obtain ⟨r, g1, g2, -⟩ := jn_pair (t := fun _ => 0) hnf x h1 hno
  have hst := jn_stable (t := fun _ => 0) h1 hno (2 * n - q) (by rw [show q + (2 * n - q) = 2 * n by omega]; exact h.1)
  rw [show q + (2 * n - q) = 2 * n by omega] at hst
  have e : pt a n x = (r : Int) := hst.1.trans g1
  rw [hc] at e
  omega
/-- the arch of crossing 0 -/
theorem arch_0 {a : Nat → Int} {n : Nat} (h : arch a n) (hn : 1 ≤ n) : ∃ c : Nat, pt a n 0 = c ∧ 0 < c ∧ c < 2 * n ∧ pt a n c = 0 ∧ 0 < a 0 ∧ ¬ 0 < a c ∧ (∀ q, 1 ≤ q → q ≤ c → 1 ≤ ht a q) ∧ ht a (c + 1) = 0 := by
  obtain ⟨c, g1, g2, g3, g4, g5⟩ := pt_pair h (show 0 < 2 * n by omega)
  have hc0 : 0 < c := by omega
  have ha0 : 0 < a 0 := g5.mpr hc0
  obtain ⟨r, k1, k2, k3, k4, k5⟩ := pt_pair h g2
  have hr : r = 0 := by rw [g4] at k1; omega
  have hac : ¬ 0 < a c := fun z => by have := k5.mp z; omega
  have hin : ∀ q, 1 ≤ q → q ≤ c → 0 ∈ stk a q := fun q q1 q2 => in_stk h (by omega) g1 (by omega) q2 g2
  refine ⟨c, g1, hc0, g2, by rw [g4]; rfl, ha0, hac, fun q q1 q2 => ?_, ?_⟩
  · rw [ht_stk (nof_mono h.1 (by omega))]
    have := List.length_pos_of_mem (hin q q1 q2)
    omega
  · have hnf : nof a (c + 1) := nof_mono h.1 (by omega)
    have h2 := (hnf c (by omega)).resolve_left hac
    obtain ⟨s, l, hsl⟩ : ∃ s r, stk a c = s :: r := by
      cases e : stk a c with
      | nil => exact absurd e h2
      | cons s r => exact ⟨s, r, rfl⟩
    have hpw := stk_pw (a := a) c
    rw [hsl] at hpw
    have hcn : c ∉ stk a (c + 1) := by
      rw [stk_minus hac, hsl]
      intro z
      have := (stk_lt (show c ∈ stk a c by rw [hsl]; exact List.mem_cons_of_mem _ z)).1
      omega
    have hst := jn_stable (t := fun _ => 0) (show c < c + 1 by omega) hcn (2 * n - (c + 1)) (by rw [show c + 1 + (2 * n - (c + 1)) = 2 * n by omega]; exact h.1)
    rw [show c + 1 + (2 * n - (c + 1)) = 2 * n by omega, jn_minus hac hsl] at hst
    have hs0 : s = 0 := by
      have e1 : pt a n c = upf (upf (jn a (fun _ => 0) c) c s) s c c := hst.1
      have hsc := (stk_lt (show s ∈ stk a c by rw [hsl]; exact List.mem_cons_self)).1
      rw [g4] at e1
      simp only [upf, if_neg (show ¬ c = s by omega), if_true] at e1
      omega
    have hl : l = [] := by
      cases l with
      | nil => rfl
      | cons y l2 =>
        have := (List.pairwise_cons.mp hpw).1 y List.mem_cons_self
        omega
    rw [ht_stk hnf, stk_minus hac, hsl, hl]
    rfl
def tu (a : Nat → Int) (n : Nat) : Nat → Int := fun p => if p + 1 = 2 * n then -1 else if ((p + 1 : Nat) : Int) = pt a n 0 then 1 else a (p + 1)
theorem ht_tu {a : Nat → Int} {n c : Nat} (hc : pt a n 0 = c) (hc0 : 0 < c) (hc2 : c < 2 * n) (ha0 : 0 < a 0) (hac : ¬ 0 < a c) : ∀ q, q + 1 ≤ 2 * n → ht (tu a n) q = ht a (q + 1) - 1 + (if c ≤ q then 2 else 0)
  | 0, h => by
    rw [if_neg (by omega)]
    simp [ht, ha0]
  | q + 1, h => by
    have ih := ht_tu hc hc0 hc2 ha0 hac q (by omega)
    have e1 : ht (tu a n) (q + 1) = ht (tu a n) q + (if 0 < tu a n q then 1 else -1) := rfl
    have e2 : ht a (q + 1 + 1) = ht a (q + 1) + (if 0 < a (q + 1) then 1 else -1) := rfl
    rw [e1, e2, ih]
    have e3 : tu a n q = if ((q + 1 : Nat) : Int) = pt a n 0 then 1 else a (q + 1) := by unfold tu; rw [if_neg (by omega)]
    rw [e3, hc]
    by_cases e : q + 1 = c
    · rw [if_neg (show ¬ c ≤ q by omega), if_pos (show ((q + 1 : Nat) : Int) = (c : Int) by omega), if_pos (show (0 : Int) < 1 by decide), if_pos (show c ≤ q + 1 by omega), e, if_neg hac]; omega
    · rw [if_neg (show ¬ ((q + 1 : Nat) : Int) = (c : Int) by omega)]
      by_cases e4 : c ≤ q
      · rw [if_pos e4, if_pos (show c ≤ q + 1 by omega)]; omega
      · rw [if_neg e4, if_neg (show ¬ c ≤ q + 1 by omega)]; omega
theorem arch_tu {a : Nat → Int} {n : Nat} (h : arch a n) (hn : 1 ≤ n) : arch (tu a n) n := by
  obtain ⟨c, g1, g2, g3, g4, g5, g6, g7, g8⟩ := arch_0 h hn
  rw [arch_iff] at h ⊢
  have hq : ∀ q, q + 1 ≤ 2 * n → 0 ≤ ht (tu a n) q := by
    intro q hq
    rw [ht_tu g1 g2 g3 g5 g6 q hq]
    by_cases e : c ≤ q
    · rw [if_pos e]; have := h.1 (q + 1) hq; omega
    · rw [if_neg e]; have := g7 (q + 1) (by omega) (by omega); omega
  have hlast : ht (tu a n) (2 * n) = 0 := by
    obtain ⟨m, hm⟩ : ∃ m, 2 * n = m + 1 := ⟨2 * n - 1, by omega⟩
    have e1 : ht (tu a n) (m + 1) = ht (tu a n) m + (if 0 < tu a n m then 1 else -1) := rfl
    rw [hm, e1, ht_tu g1 g2 g3 g5 g6 m (by omega), if_pos (by omega), ← hm, h.2]
    have e3 : tu a n m = -1 := by unfold tu; rw [if_pos hm.symm]
    rw [e3]; simp
  refine ⟨fun q h2 => ?_, hlast⟩
  by_cases e : q = 2 * n
  · rw [e, hlast]; omega
  · exact hq q (by omega)
theorem tu_sg {a : Nat → Int} {n : Nat} (hs : ∀ p, p < 2 * n → a p = 1 ∨ a p = -1) : ∀ p, p < 2 * n → tu a n p = 1 ∨ tu a n p = -1 := by
  intro p hp
  unfold tu
  split
  · exact Or.inr rfl
  · split
    · exact Or.inl rfl
    · exact hs (p + 1) (by omega)
