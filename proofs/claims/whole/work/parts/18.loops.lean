/-! LOOPS: f, g join the crossings below M in pairs -/
def PR (f : Nat → Int) (M : Nat) : Prop := ∀ q, q < M → ∃ r : Nat, f q = r ∧ r < M ∧ r ≠ q ∧ f r = q
theorem PR_pt {a : Nat → Int} {n : Nat} (h : arch a n) : PR (pt a n) (2 * n) := fun q hq => by
  obtain ⟨r, g1, g2, g3, g4, -⟩ := pt_pair h hq
  exact ⟨r, g1, g2, g3, g4⟩
theorem PR.nat {f : Nat → Int} {M q : Nat} (h : PR f M) (hq : q < M) : (f q).toNat < M ∧ (f q).toNat ≠ q ∧ f (f q).toNat = q ∧ f q = ((f q).toNat : Int) ∧ (f (f q).toNat).toNat = q := by
  obtain ⟨r, g1, g2, g3, g4⟩ := h q hq
  rw [g1]; simp only [Int.toNat_natCast]
  exact ⟨g2, g3, g4, trivial, by rw [g4]; simp⟩
section LP
variable {f g : Nat → Int} {M p : Nat}
theorem wk_even {k : Nat} (h : k % 2 = 0) : wk f g p (k + 1) = (f (wk f g p k)).toNat := by rw [wk, if_pos h]
theorem wk_odd {k : Nat} (h : k % 2 = 1) : wk f g p (k + 1) = (g (wk f g p k)).toNat := by rw [wk, if_neg (by omega)]
theorem wk_lt (hf : PR f M) (hg : PR g M) (hp : p < M) : ∀ k, wk f g p k < M
  | 0 => hp
  | k + 1 => by
    have ih := wk_lt hf hg hp k
    rcases Nat.mod_two_eq_zero_or_one k with h | h
    · rw [wk_even h]; exact (hf.nat ih).1
    · rw [wk_odd h]; exact (hg.nat ih).1
/-- one step back -/
theorem wk_bk_even (hf : PR f M) (hg : PR g M) (hp : p < M) {k : Nat} (h : k % 2 = 0) : (f (wk f g p (k + 1))).toNat = wk f g p k := by
  rw [wk_even h]; exact (hf.nat (wk_lt hf hg hp k)).2.2.2.2
theorem wk_bk_odd (hf : PR f M) (hg : PR g M) (hp : p < M) {k : Nat} (h : k % 2 = 1) : (g (wk f g p (k + 1))).toNat = wk f g p k := by
  rw [wk_odd h]; exact (hg.nat (wk_lt hf hg hp k)).2.2.2.2
/-- the way comes back: after s steps, s even, the first time that it is anywhere again -/
theorem wk_back (hf : PR f M) (hg : PR g M) (hp : p < M) : ∃ s, 2 ≤ s ∧ s ≤ M ∧ s % 2 = 0 ∧ wk f g p s = p ∧ ∀ i j, i < j → j < s → wk f g p i ≠ wk f g p j := by
  have hex : ∃ j, j < M + 1 ∧ ∃ i, i < j ∧ wk f g p i = wk f g p j := by
    obtain ⟨i, j, h1, h2, h3⟩ := fb_twice (m := M) (n := M + 1) (f := wk f g p) (fun i _ => wk_lt hf hg hp i) (by omega)
    exact ⟨j, h2, i, h1, h3⟩
  obtain ⟨s, hs, ⟨i, hi, he⟩, hmin⟩ := fb_first (p := fun j => ∃ i, i < j ∧ wk f g p i = wk f g p j) hex
  have hdis : ∀ i j, i < j → j < s → wk f g p i ≠ wk f g p j := fun i j h1 h2 h3 => hmin j h2 ⟨i, h1, h3⟩
  have hi0 : i = 0 := by
    refine Classical.byContradiction fun hne => ?_
    obtain ⟨i', rfl⟩ : ∃ i', i = i' + 1 := ⟨i - 1, by omega⟩
    obtain ⟨s', rfl⟩ : ∃ s', s = s' + 1 := ⟨s - 1, by omega⟩
    rcases Nat.mod_two_eq_zero_or_one i' with h1 | h1 <;> rcases Nat.mod_two_eq_zero_or_one s' with h2 | h2
    · have e1 := wk_bk_even hf hg hp h1
      have e2 := wk_bk_even hf hg hp h2
      rw [he] at e1
      exact hdis i' s' (by omega) (by omega) (e1.symm.trans e2)
    · -- i' even, s' odd: i'+1 odd: from i'+1 on by g
      have e2 := wk_bk_odd hf hg hp h2
      rw [← he, ← wk_odd (f := f) (g := g) (p := p) (k := i' + 1) (by omega)] at e2
      by_cases q : i' + 1 + 1 = s'
      · omega
      · by_cases q2 : i' + 1 = s'
        · rw [q2] at he
          have := (hg.nat (wk_lt hf hg hp s')).2.1
          rw [wk_odd h2] at he
          exact this he.symm
        · exact hdis (i' + 1 + 1) s' (by omega) (by omega) e2
    · have e2 := wk_bk_even hf hg hp h2
      rw [← he, ← wk_even (f := f) (g := g) (p := p) (k := i' + 1) (by omega)] at e2
      by_cases q : i' + 1 + 1 = s'
      · omega
      · by_cases q2 : i' + 1 = s'
        · rw [q2] at he
          have := (hf.nat (wk_lt hf hg hp s')).2.1
          rw [wk_even h2] at he
          exact this he.symm
        · exact hdis (i' + 1 + 1) s' (by omega) (by omega) e2
    · have e1 := wk_bk_odd hf hg hp h1
      have e2 := wk_bk_odd hf hg hp h2
      rw [he] at e1
      exact hdis i' s' (by omega) (by omega) (e1.symm.trans e2)
  subst hi0
  have he : p = wk f g p s := he
  have heven : s % 2 = 0 := by
    refine Classical.byContradiction fun hne => ?_
    obtain ⟨s', rfl⟩ : ∃ s', s = s' + 1 := ⟨s - 1, by omega⟩
    have h2 : s' % 2 = 0 := by omega
    have e2 := wk_bk_even hf hg hp h2
    rw [← he] at e2
    have e3 : wk f g p 1 = wk f g p s' := by rw [wk_even (k := 0) rfl]; exact e2
    by_cases q : s' = 0
    · subst q
      have := (hf.nat hp).2.1
      exact this (by rw [e2]; rfl)
    · exact hdis 1 s' (by omega) (by omega) e3
  exact ⟨s, by omega, by omega, heven, he.symm, hdis⟩
/-- the loop of p: its crossings are those of the way till it is back -/
theorem orb_iff (hf : PR f M) (hg : PR g M) (hp : p < M) {s : Nat} (h1 : 2 ≤ s) (h2 : s ≤ M) (h3 : s % 2 = 0) (h4 : wk f g p s = p) (q : Nat) : orb f g M p q ↔ ∃ k, k < s ∧ wk f g p k = q := by
  have hper : ∀ k, wk f g p (k + s) = wk f g p k := by
    intro k
    induction k with
    | zero => rw [Nat.zero_add]; exact h4
    | succ k ih =>
      rw [show k + 1 + s = (k + s) + 1 by omega]
      rcases Nat.mod_two_eq_zero_or_one k with h | h
      · rw [wk_even (by omega), wk_even h, ih]
      · rw [wk_odd (by omega), wk_odd h, ih]
  have hred : ∀ k, ∃ j, j < s ∧ wk f g p j = wk f g p k := by
    intro k
    induction k using Nat.strongRecOn with
    | _ k ih =>
      by_cases hk : k < s
      · exact ⟨k, hk, rfl⟩
      · obtain ⟨j, hj, e⟩ := ih (k - s) (by omega)
        refine ⟨j, hj, e.trans ?_⟩
        have := hper (k - s)
        rw [show k - s + s = k by omega] at this
        exact this.symm
  constructor
  · rintro ⟨k, -, e⟩
    obtain ⟨j, hj, e2⟩ := hred k
    exact ⟨j, hj, e2.trans e⟩
  · rintro ⟨k, hk, e⟩
    exact ⟨k, by omega, e⟩
theorem orb_f (hf : PR f M) (hg : PR g M) (hp : p < M) {q : Nat} (h : orb f g M p q) : orb f g M p (f q).toNat := by
  obtain ⟨s, a1, a2, a3, a4, -⟩ := wk_back hf hg hp
  rw [orb_iff hf hg hp a1 a2 a3 a4] at h ⊢
  obtain ⟨k, hk, rfl⟩ := h
  rcases Nat.mod_two_eq_zero_or_one k with h | h
  · exact ⟨k + 1, by omega, wk_even h⟩
  · obtain ⟨j, rfl⟩ : ∃ j, k = j + 1 := ⟨k - 1, by omega⟩
    exact ⟨j, by omega, (wk_bk_even hf hg hp (by omega)).symm⟩
theorem orb_g (hf : PR f M) (hg : PR g M) (hp : p < M) {q : Nat} (h : orb f g M p q) : orb f g M p (g q).toNat := by
  obtain ⟨s, a1, a2, a3, a4, -⟩ := wk_back hf hg hp
  rw [orb_iff hf hg hp a1 a2 a3 a4] at h ⊢
  obtain ⟨k, hk, rfl⟩ := h
  rcases Nat.mod_two_eq_zero_or_one k with h | h
  · by_cases hk0 : k = 0
    · subst hk0
      refine ⟨s - 1, by omega, ?_⟩
      have := wk_bk_odd hf hg hp (k := s - 1) (by omega)
      rw [show s - 1 + 1 = s by omega, a4] at this
      exact this.symm
    · obtain ⟨j, rfl⟩ : ∃ j, k = j + 1 := ⟨k - 1, by omega⟩
      exact ⟨j, by omega, (wk_bk_odd hf hg hp (by omega)).symm⟩
  · by_cases hk1 : k + 1 = s
    · exact ⟨0, by omega, by rw [← wk_odd h, hk1, a4]; rfl⟩
    · exact ⟨k + 1, by omega, wk_odd h⟩
/-- the numbers: what has one is closed under going on; they are below how many there are -/
theorem lpS_inv (hf : PR f M) (hg : PR g M) : ∀ k, k ≤ M → (∀ q, q < M → -1 ≤ (lpS f g M k).1 q ∧ (lpS f g M k).1 q < (lpS f g M k).2) ∧ (∀ q, q < M → ((lpS f g M k).1 q < 0 → (lpS f g M k).1 (f q).toNat < 0) ∧ ((lpS f g M k).1 q < 0 → (lpS f g M k).1 (g q).toNat < 0)) ∧ (∀ q, q < k → 0 ≤ (lpS f g M k).1 q) ∧ (lpS f g M k).2 ≤ k
  | 0, _ => ⟨fun q _ => ⟨by simp [lpS], by simp [lpS]⟩, fun q _ => ⟨fun _ => by simp [lpS], fun _ => by simp [lpS]⟩, fun q hq => by omega, Nat.le_refl _⟩
  | k + 1, hk => by
    obtain ⟨i1, i2, i3, i4⟩ := lpS_inv hf hg k (by omega)
    by_cases hc : (lpS f g M k).1 k < 0
    · have e : lpS f g M (k + 1) = (fun q => if orb f g M k q then ((lpS f g M k).2 : Int) else (lpS f g M k).1 q, (lpS f g M k).2 + 1) := by rw [lpS, if_pos hc]
      rw [e]
      refine ⟨fun q hq => ?_, fun q hq => ⟨fun h => ?_, fun h => ?_⟩, fun q hq => ?_, by show (lpS f g M k).2 + 1 ≤ k + 1; omega⟩
      · simp only
        split
        · omega
        · have := i1 q hq; omega
      · simp only at h ⊢
        split at h
        · omega
        · rename_i hn
          rw [if_neg]
          · exact (i2 q hq).1 h
          · intro z
            have := orb_f hf hg (by omega : k < M) z
            rw [(hf.nat hq).2.2.2.2] at this
            exact hn this
      · simp only at h ⊢
        split at h
        · omega
        · rename_i hn
          rw [if_neg]
          · exact (i2 q hq).2 h
          · intro z
            have := orb_g hf hg (by omega : k < M) z
            rw [(hg.nat hq).2.2.2.2] at this
            exact hn this
      · simp only
        split
        · omega
        · rename_i hn
          have : q ≠ k := fun z => hn (by rw [z]; exact ⟨0, by omega, rfl⟩)
          exact i3 q (by omega)
    · have e : lpS f g M (k + 1) = lpS f g M k := by rw [lpS, if_neg hc]
      rw [e]
      refine ⟨i1, i2, fun q hq => ?_, by omega⟩
      by_cases z : q = k
      · subst z; omega
      · exact i3 q (by omega)
/-- a crossing without number: none of its loop has one -/
theorem lpS_free (hf : PR f M) (hg : PR g M) {k : Nat} (hk : k ≤ M) (hp : p < M) (h : (lpS f g M k).1 p < 0) : ∀ j, (lpS f g M k).1 (wk f g p j) < 0
  | 0 => h
  | j + 1 => by
    have ih := lpS_free hf hg hk hp h j
    have hi := (lpS_inv hf hg k hk).2.1 (wk f g p j) (wk_lt hf hg hp j)
    rcases Nat.mod_two_eq_zero_or_one j with z | z
    · rw [wk_even z]; exact hi.1 ih
    · rw [wk_odd z]; exact hi.2 ih
end LP
