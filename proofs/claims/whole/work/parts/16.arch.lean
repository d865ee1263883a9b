/-! ARCHES: signs a, + where 0 < a p; the + that are not joined yet, the latest first; who is joined -/
def stk (a : Nat → Int) : Nat → List Nat
  | 0 => []
  | p + 1 => if 0 < a p then p :: stk a p else (stk a p).tail
/-- no - comes while nothing is free -/
abbrev nof (a : Nat → Int) (p : Nat) : Prop := ∀ q, q < p → 0 < a q ∨ stk a q ≠ []
abbrev arch (a : Nat → Int) (n : Nat) : Prop := nof a (2 * n) ∧ stk a (2 * n) = []
def jn (a t : Nat → Int) : Nat → Nat → Int
  | 0 => t
  | p + 1 => if 0 < a p then jn a t p else match stk a p with
    | [] => jn a t p
    | s :: _ => upf (upf (jn a t p) p s) s p
def pt (a : Nat → Int) (n : Nat) : Nat → Int := jn a (fun _ => 0) (2 * n)
theorem stk_lt {a : Nat → Int} : ∀ {p q : Nat}, q ∈ stk a p → q < p ∧ 0 < a q
  | 0, q, h => by simp [stk] at h
  | p + 1, q, h => by
    unfold stk at h
    split at h
    · rename_i hp
      rcases List.mem_cons.mp h with rfl | h
      · exact ⟨by omega, hp⟩
      · have := stk_lt h; exact ⟨by omega, this.2⟩
    · have := stk_lt (List.mem_of_mem_tail h); exact ⟨by omega, this.2⟩
theorem stk_nodup {a : Nat → Int} : ∀ p : Nat, (stk a p).Nodup
  | 0 => by simp [stk]
  | p + 1 => by
    unfold stk
    split
    · refine List.nodup_cons.mpr ⟨fun h => ?_, stk_nodup p⟩
      have := (stk_lt h).1; omega
    · exact (stk_nodup p).tail
theorem nof_mono {a : Nat → Int} {p q : Nat} (h : nof a p) (hq : q ≤ p) : nof a q := fun r hr => h r (by omega)
theorem jn_plus {a t : Nat → Int} {p : Nat} (h : 0 < a p) : jn a t (p + 1) = jn a t p := by rw [jn, if_pos h]
theorem jn_minus {a t : Nat → Int} {p s : Nat} {r : List Nat} (h : ¬ 0 < a p) (hs : stk a p = s :: r) : jn a t (p + 1) = upf (upf (jn a t p) p s) s p := by rw [jn, if_neg h, hs]
theorem stk_plus {a : Nat → Int} {p : Nat} (h : 0 < a p) : stk a (p + 1) = p :: stk a p := by rw [stk, if_pos h]
theorem stk_minus {a : Nat → Int} {p : Nat} (h : ¬ 0 < a p) : stk a (p + 1) = (stk a p).tail := by rw [stk, if_neg h]
theorem jn_indep {a t u : Nat → Int} : ∀ {p : Nat}, nof a p → ∀ q, q < p → q ∉ stk a p → jn a t p q = jn a u p q
  | 0, _, q, hq, _ => by omega
  | p + 1, hn, q, hq, hm => by
    have ih := jn_indep (t := t) (u := u) (nof_mono hn (Nat.le_succ p))
    by_cases hp : 0 < a p
    · rw [jn_plus hp, jn_plus hp]
      rw [stk_plus hp] at hm
      have h1 : q ≠ p := fun e => hm (by rw [e]; exact List.mem_cons_self)
      exact ih q (by omega) (fun h => hm (List.mem_cons_of_mem _ h))
    · have h2 := (hn p (by omega)).resolve_left hp
      obtain ⟨s, r, hs⟩ : ∃ s r, stk a p = s :: r := by
        cases e : stk a p with
        | nil => exact absurd e h2
        | cons s r => exact ⟨s, r, rfl⟩
      rw [jn_minus hp hs, jn_minus hp hs]
      rw [stk_minus hp, hs] at hm
      by_cases e1 : q = s
      · simp [upf, e1]
      · by_cases e2 : q = p
        · simp [upf, e2]
        · simp only [upf, if_neg e1, if_neg e2]
          refine ih q (by omega) (fun h => ?_)
          rw [hs] at h
          rcases List.mem_cons.mp h with h | h
          · exact e1 h
          · exact hm h
theorem jn_pt {a t : Nat → Int} {n q : Nat} (h : arch a n) (hq : q < 2 * n) : jn a t (2 * n) q = pt a n q := jn_indep h.1 q hq (by rw [h.2]; simp)
/-- who is joined: pairs -/
theorem jn_pair {a t : Nat → Int} : ∀ {p : Nat}, nof a p → ∀ q, q < p → q ∉ stk a p → ∃ r : Nat, jn a t p q = r ∧ r < p ∧ r ∉ stk a p ∧ r ≠ q ∧ jn a t p r = q ∧ (0 < a q ↔ q < r)
  | 0, _, q, hq, _ => by omega
  | p + 1, hn, q, hq, hm => by
    have ih := jn_pair (t := t) (nof_mono hn (Nat.le_succ p))
    by_cases hp : 0 < a p
    · rw [jn_plus hp]
      rw [stk_plus hp] at hm ⊢
      have h1 : q ≠ p := fun e => hm (by rw [e]; exact List.mem_cons_self)
      obtain ⟨r, g1, g2, g3, g4, g5, g6⟩ := ih q (by omega) (fun h => hm (List.mem_cons_of_mem _ h))
      exact ⟨r, g1, by omega, fun h => (List.mem_cons.mp h).elim (fun e => by omega) g3, g4, g5, g6⟩
    · have h2 := (hn p (by omega)).resolve_left hp
      obtain ⟨s, l, hs⟩ : ∃ s r, stk a p = s :: r := by
        cases e : stk a p with
        | nil => exact absurd e h2
        | cons s r => exact ⟨s, r, rfl⟩
      have hsp := stk_lt (show s ∈ stk a p by rw [hs]; exact List.mem_cons_self)
      have hnd := stk_nodup (a := a) p
      rw [hs] at hnd
      have hsl : s ∉ l := (List.nodup_cons.mp hnd).1
      have hpl : p ∉ l := fun h => by
        have := (stk_lt (show p ∈ stk a p by rw [hs]; exact List.mem_cons_of_mem _ h)).1; omega
      rw [jn_minus hp hs]
      rw [stk_minus hp, hs] at hm ⊢
      simp only [List.tail_cons] at hm ⊢
      by_cases e1 : q = s
      · subst e1
        refine ⟨p, by simp [upf], by omega, hpl, by omega, ?_, ⟨fun _ => hsp.1, fun _ => hsp.2⟩⟩
        simp [upf, show p ≠ q by omega]
      · by_cases e2 : q = p
        · subst e2
          refine ⟨s, by simp [upf, e1], by omega, hsl, by omega, by simp [upf], ⟨fun h => absurd h hp, fun h => by omega⟩⟩
        · obtain ⟨r, g1, g2, g3, g4, g5, g6⟩ := ih q (by omega) (fun h => by
            rw [hs] at h
            rcases List.mem_cons.mp h with h | h
            · exact e1 h
            · exact hm h)
          rw [hs] at g3
          have e3 : r ≠ s := fun e => g3 (by rw [e]; exact List.mem_cons_self)
          refine ⟨r, by simp [upf, e1, e2, g1], by omega, fun h => g3 (List.mem_cons_of_mem _ h), g4, ?_, g6⟩
          simp [upf, e3, show r ≠ p by omega, g5]
theorem pt_pair {a : Nat → Int} {n q : Nat} (h : arch a n) (hq : q < 2 * n) : ∃ r : Nat, pt a n q = r ∧ r < 2 * n ∧ r ≠ q ∧ pt a n r = q ∧ (0 < a q ↔ q < r) := by
  obtain ⟨r, g1, g2, -, g4, g5, g6⟩ := jn_pair (t := fun _ => 0) h.1 q hq (by rw [h.2]; simp)
  exact ⟨r, g1, g2, g4, g5, g6⟩
/-- what is read of the signs -/
theorem stk_cong {a b : Nat → Int} : ∀ {p : Nat}, (∀ q, q < p → (0 < a q ↔ 0 < b q)) → stk a p = stk b p
  | 0, _ => rfl
  | p + 1, h => by
    have ih := stk_cong (p := p) (fun q hq => h q (by omega))
    unfold stk
    rw [ih]
    by_cases hp : 0 < a p
    · rw [if_pos hp, if_pos ((h p (by omega)).mp hp)]
    · rw [if_neg hp, if_neg (fun z => hp ((h p (by omega)).mpr z))]
theorem nof_cong {a b : Nat → Int} {p : Nat} (h : ∀ q, q < p → (0 < a q ↔ 0 < b q)) (hn : nof a p) : nof b p := by
  intro q hq
  rw [← stk_cong (a := a) (b := b) (p := q) (fun r hr => h r (by omega)), ← h q hq]
  exact hn q hq
theorem arch_cong {a b : Nat → Int} {n : Nat} (h : ∀ q, q < 2 * n → (0 < a q ↔ 0 < b q)) : arch a n ↔ arch b n := by
  refine ⟨fun g => ⟨nof_cong h g.1, by rw [← stk_cong h]; exact g.2⟩, fun g => ⟨nof_cong (fun q hq => (h q hq).symm) g.1, by rw [stk_cong h]; exact g.2⟩⟩
theorem jn_cong {a b t : Nat → Int} : ∀ {p : Nat}, (∀ q, q < p → (0 < a q ↔ 0 < b q)) → jn a t p = jn b t p
  | 0, _ => rfl
  | p + 1, h => by
    have ih := jn_cong (t := t) (p := p) (fun q hq => h q (by omega))
    have hs := stk_cong (a := a) (b := b) (p := p) (fun q hq => h q (by omega))
    unfold jn
    rw [ih, hs]
    by_cases hp : 0 < a p
    · rw [if_pos hp, if_pos ((h p (by omega)).mp hp)]
    · rw [if_neg hp, if_neg (fun z => hp ((h p (by omega)).mpr z))]
theorem pt_cong {a b : Nat → Int} {n : Nat} (h : ∀ q, q < 2 * n → (0 < a q ↔ 0 < b q)) : pt a n = pt b n := jn_cong h
