/-! FOLDS in the kernel: an order of stamps, four bits a place -/
theorem dg_lt (F q : Nat) : dg F q < 16 := Nat.mod_lt _ (by omega)
/-- a number out of its digits -/
noncomputable def tbK (b : Nat → Nat) (m : Nat) : Nat := Nat.rec (motive := fun _ => Nat) 0 (fun k ih => Nat.lor ih (Nat.shiftLeft (b k) (Nat.mul 4 k))) m
theorem tbK_dg {b : Nat → Nat} (hb : ∀ k, b k < 16) : ∀ {m : Nat}, m ≤ 16 → ∀ q, q < 16 → dg (tbK b m) q = if q < m then b q else 0
  | 0, _, q, hq => by
    rw [if_neg (by omega)]; exact dg_0 ⟨q, hq⟩
  | m + 1, hm, q, hq => by
    show dg (tbK b m ||| Nat.shiftLeft (b m) (Nat.mul 4 m)) q = _
    rw [dg_or, tbK_dg hb (by omega) q hq, dg_sh2 (hb m) (by omega) hq]
    by_cases e : q = m
    · rw [if_neg (by omega), if_pos e, if_pos (by omega), e]; simp
    · by_cases e2 : q < m
      · rw [if_pos e2, if_neg e, if_pos (by omega)]; simp
      · rw [if_neg e2, if_neg e, if_neg (by omega)]; simp
noncomputable def pvK (P : Nat) (m : Nat) : Nat := Nat.rec (motive := fun _ => Nat) 0 (fun k ih => cond (Nat.ble (dg P k) (dg P (Nat.succ k))) (Nat.succ k) ih) m
theorem pvK_s (P m : Nat) : pvK P (m + 1) = cond (Nat.ble (dg P m) (dg P (m + 1))) (m + 1) (pvK P m) := rfl
noncomputable def lsK (P x : Nat) (m : Nat) : Nat := Nat.rec (motive := fun _ => Nat) 0 (fun k ih => cond (Nat.ble x (dg P (Nat.succ k))) (Nat.succ k) ih) m
theorem lsK_s (P x m : Nat) : lsK P x (m + 1) = cond (Nat.ble x (dg P (m + 1))) (m + 1) (lsK P x m) := rfl
/-- where the next order takes its place k from: i the pivot, j its successor -/
def piK (n i j k : Nat) : Nat := if k < i then k else if k = i then j else if n + i - k = j then i else n + i - k
noncomputable def piB (n i j k : Nat) : Nat := cond (Nat.ble (Nat.succ k) i) k (cond (Nat.beq k i) j (cond (Nat.beq (Nat.sub (Nat.add n i) k) j) i (Nat.sub (Nat.add n i) k)))
theorem ble_t {x y : Nat} (h : x ≤ y) : Nat.ble x y = true := Nat.ble_eq.mpr h
theorem ble_f {x y : Nat} (h : ¬ x ≤ y) : Nat.ble x y = false := by
  cases e : Nat.ble x y with
  | true => exact absurd (Nat.le_of_ble_eq_true e) h
  | false => rfl
theorem beq_t {x y : Nat} (h : x = y) : Nat.beq x y = true := by rw [h]; exact Nat.beq_refl y
theorem piB_eq (n i j k : Nat) : piB n i j k = piK n i j k := by
  unfold piB piK
  by_cases h1 : k < i
  · rw [if_pos h1, ble_t h1]; rfl
  · rw [if_neg h1, ble_f (by show ¬ k + 1 ≤ i; omega)]
    show cond (Nat.beq k i) _ _ = _
    by_cases h2 : k = i
    · rw [if_pos h2, beq_t h2]; rfl
    · rw [if_neg h2, beq_f h2]
      show cond (Nat.beq (n + i - k) j) i (n + i - k) = _
      by_cases h3 : n + i - k = j
      · rw [if_pos h3, beq_t h3]; rfl
      · rw [if_neg h3, beq_f h3]; rfl
noncomputable def nxJ (n P i : Nat) : Nat := tbK (fun k => dg P (piB n i (lsK P (dg P i) (Nat.sub n 1)) k)) n
/-- the next order, by the pivot that is there -/
noncomputable def nxK (n P : Nat) : Nat := nxJ n P (Nat.sub (pvK P (Nat.sub n 1)) 1)
theorem nxK_dg {n P : Nat} (hn : n ≤ 8) : ∀ q, q < n → dg (nxK n P) q = dg P (piK n (pvK P (n - 1) - 1) (lsK P (dg P (pvK P (n - 1) - 1)) (n - 1)) q) := by
  intro q hq
  have := tbK_dg (b := fun k => dg P (piB n (pvK P (n - 1) - 1) (lsK P (dg P (pvK P (n - 1) - 1)) (n - 1)) k)) (fun k => dg_lt _ _) (m := n) (by omega) q (by omega)
  rw [if_pos hq] at this
  show dg (tbK _ n) q = _
  rw [← piB_eq]; exact this
/-- the places of the stamps -/
noncomputable def psK (P : Nat) (m : Nat) : Nat := Nat.rec (motive := fun _ => Nat) 0 (fun k ih => Nat.lor ih (Nat.shiftLeft k (Nat.mul 4 (dg P k)))) m
theorem psK_n {P : Nat} : ∀ {m : Nat}, m ≤ 16 → ∀ s, s < 16 → (∀ k, k < m → dg P k ≠ s) → dg (psK P m) s = 0
  | 0, _, s, hs, _ => dg_0 ⟨s, hs⟩
  | m + 1, hm, s, hs, h => by
    show dg (psK P m ||| Nat.shiftLeft m (Nat.mul 4 (dg P m))) s = 0
    rw [dg_or, psK_n (by omega) s hs (fun k hk => h k (by omega)), dg_sh2 (by omega) (dg_lt _ _) hs, if_neg (fun e => h m (by omega) e.symm)]
    rfl
theorem psK_e {P : Nat} : ∀ {m : Nat}, m ≤ 16 → (∀ j k, j < k → k < m → dg P j ≠ dg P k) → ∀ k, k < m → dg (psK P m) (dg P k) = k
  | 0, _, _, k, hk => by omega
  | m + 1, hm, h, k, hk => by
    show dg (psK P m ||| Nat.shiftLeft m (Nat.mul 4 (dg P m))) (dg P k) = k
    rw [dg_or, dg_sh2 (by omega) (dg_lt _ _) (dg_lt _ _)]
    by_cases e : k = m
    · rw [e, if_pos rfl, psK_n (by omega) _ (dg_lt _ _) (fun j hj => h j m (by omega) (by omega))]; simp
    · rw [if_neg (h k m (by omega) (by omega)), psK_e (by omega) (fun j k h1 h2 => h j k h1 (by omega)) k (by omega)]; simp
noncomputable def ltB (x y : Nat) : Bool := Nat.ble (Nat.succ x) y
theorem ltB_iff (x y : Nat) : ltB x y = true ↔ x < y := ⟨fun h => Nat.le_of_ble_eq_true h, fun h => Nat.ble_eq.mpr h⟩
noncomputable def btB (x y z : Nat) : Bool := cond (ltB x z) (ltB z y) (cond (ltB y z) (ltB z x) false)
theorem btB_iff (x y z : Nat) : btB x y z = true ↔ (x < z ∧ z < y) ∨ (y < z ∧ z < x) := by
  unfold btB
  cases h1 : ltB x z with
  | true =>
    have h1 := (ltB_iff _ _).mp h1
    show ltB z y = true ↔ _
    rw [ltB_iff]; omega
  | false =>
    have h1 : ¬ x < z := fun h => by rw [(ltB_iff _ _).mpr h] at h1; cases h1
    show cond (ltB y z) (ltB z x) false = true ↔ _
    cases h2 : ltB y z with
    | true =>
      have h2 := (ltB_iff _ _).mp h2
      show ltB z x = true ↔ _
      rw [ltB_iff]; omega
    | false =>
      have h2 : ¬ y < z := fun h => by rw [(ltB_iff _ _).mpr h] at h2; cases h2
      show false = true ↔ _
      constructor
      · intro h; cases h
      · intro h; omega
noncomputable def clB (S i j : Nat) : Bool := cond (btB (dg S i) (dg S (Nat.succ i)) (dg S j)) (cond (btB (dg S i) (dg S (Nat.succ i)) (dg S (Nat.succ j))) false true) (btB (dg S i) (dg S (Nat.succ i)) (dg S (Nat.succ j)))
theorem clB_iff {S i j : Nat} {ps : Nat → Int} (h1 : ps i = (dg S i : Int)) (h2 : ps (i + 1) = (dg S (i + 1) : Int)) (h3 : ps j = (dg S j : Int)) (h4 : ps (j + 1) = (dg S (j + 1) : Int)) : clB S i j = true ↔ ¬ (btw ps i j ↔ btw ps i (j + 1)) := by
  have b1 : btB (dg S i) (dg S (i + 1)) (dg S j) = true ↔ btw ps i j := by rw [btB_iff]; unfold btw; rw [h1, h2, h3]; omega
  have b2 : btB (dg S i) (dg S (i + 1)) (dg S (j + 1)) = true ↔ btw ps i (j + 1) := by rw [btB_iff]; unfold btw; rw [h1, h2, h4]; omega
  rw [← b1, ← b2]
  show cond (btB (dg S i) (dg S (i + 1)) (dg S j)) (cond (btB (dg S i) (dg S (i + 1)) (dg S (j + 1))) false true) (btB (dg S i) (dg S (i + 1)) (dg S (j + 1))) = true ↔ _
  generalize btB (dg S i) (dg S (i + 1)) (dg S j) = x
  generalize btB (dg S i) (dg S (i + 1)) (dg S (j + 1)) = y
  cases x <;> cases y <;> simp
/-- the pairs of joints that might clash, of 8 stamps; of n: those below -/
def prs (n : Nat) : List (Nat × Nat) := match n with
  | 4 => [(0, 2)]
  | 5 => [(0, 2), (1, 3)]
  | 6 => [(0, 2), (0, 4), (1, 3), (2, 4)]
  | 7 => [(0, 2), (0, 4), (1, 3), (1, 5), (2, 4), (3, 5)]
  | 8 => [(0, 2), (0, 4), (0, 6), (1, 3), (1, 5), (2, 4), (2, 6), (3, 5), (4, 6)]
  | _ => []
theorem prs_ok {n : Nat} (hn : n ≤ 8) (i j : Nat) : (j + 1 < n ∧ i + 2 ≤ j ∧ (j - i) % 2 = 0) ↔ (i, j) ∈ prs n := by
  by_cases hj : j < 8
  · by_cases hi : i < 8
    · have : ∀ n : Fin 9, ∀ i j : Fin 8, (j.val + 1 < n.val ∧ i.val + 2 ≤ j.val ∧ (j.val - i.val) % 2 = 0) ↔ (i.val, j.val) ∈ prs n.val := by decide +kernel
      exact this ⟨n, by omega⟩ ⟨i, hi⟩ ⟨j, hj⟩
    · constructor
      · intro h; omega
      · intro h
        have : ∀ n : Fin 9, ∀ q ∈ prs n.val, q.1 < 8 := by decide +kernel
        exact absurd (this ⟨n, by omega⟩ _ h) hi
  · constructor
    · intro h; omega
    · intro h
      have : ∀ n : Fin 9, ∀ q ∈ prs n.val, q.2 < 8 := by decide +kernel
      exact absurd (this ⟨n, by omega⟩ _ h) hj
noncomputable def alB (S : Nat) (l : List (Nat × Nat)) : Bool := List.rec (motive := fun _ => Bool) true (fun q _ ih => cond (clB S q.1 q.2) false ih) l
theorem alB_iff (S : Nat) : ∀ l : List (Nat × Nat), alB S l = true ↔ ∀ q ∈ l, ¬ clB S q.1 q.2 = true
  | [] => ⟨fun _ q hq => (by cases hq), fun _ => rfl⟩
  | q :: l => by
    show cond (clB S q.1 q.2) false (alB S l) = true ↔ _
    have ih := alB_iff S l
    cases h : clB S q.1 q.2 with
    | true => exact ⟨fun e => (by cases e), fun e => absurd h (e q List.mem_cons_self)⟩
    | false =>
      show alB S l = true ↔ _
      rw [ih]
      constructor
      · intro g r hr
        rcases List.mem_cons.mp hr with rfl | hr
        · rw [h]; intro e; cases e
        · exact g r hr
      · intro g r hr; exact g r (List.mem_cons_of_mem _ hr)
noncomputable def fdK (n P : Nat) : Bool := alB (psK P n) (prs n)
theorem fdK_iff {n P : Nat} (hn : n ≤ 8) {ps : Nat → Int} (hps : ∀ s, s < n → ps s = (dg (psK P n) s : Int)) : fdK n P = true ↔ noClash ps n := by
  unfold fdK noClash
  rw [alB_iff]
  constructor
  · rintro h i j ⟨h1, h2, h3, h4⟩
    have hm := (prs_ok hn i j).mp ⟨h1, h2, h3⟩
    exact h (i, j) hm ((clB_iff (hps i (by omega)) (hps (i + 1) (by omega)) (hps j (by omega)) (hps (j + 1) (by omega))).mpr h4)
  · rintro h ⟨i, j⟩ hm hc
    have hm2 := (prs_ok hn i j).mpr hm
    exact h i j ⟨hm2.1, hm2.2.1, hm2.2.2, (clB_iff (hps i (by omega)) (hps (i + 1) (by omega)) (hps j (by omega)) (hps (j + 1) (by omega))).mp hc⟩
/-- the orders from P on, in the order of the reference: L are those that fold -/
noncomputable def chk (n : Nat) (f : Nat) : Nat → List Nat → Bool := Nat.rec (motive := fun _ => Nat → List Nat → Bool) (fun _ _ => false) (fun _ ih P L => cond (fdK n P) (List.rec (motive := fun _ => Bool) false (fun Q M _ => cond (Nat.beq Q P) (cond (Nat.beq (pvK P (Nat.sub n 1)) 0) (List.rec (motive := fun _ => Bool) true (fun _ _ _ => false) M) (ih (nxK n P) M)) false) L) (cond (Nat.beq (pvK P (Nat.sub n 1)) 0) (List.rec (motive := fun _ => Bool) true (fun _ _ _ => false) L) (ih (nxK n P) L))) f
theorem chk_inv {n f P : Nat} {L : List Nat} (h : chk n (f + 1) P L = true) : ∃ M, ((fdK n P = true ∧ L = P :: M) ∨ (fdK n P = false ∧ L = M)) ∧ ((pvK P (n - 1) = 0 ∧ M = []) ∨ (pvK P (n - 1) ≠ 0 ∧ chk n f (nxK n P) M = true)) := by
  have tl : ∀ M : List Nat, cond (Nat.beq (pvK P (n - 1)) 0) (List.rec (motive := fun _ => Bool) true (fun _ _ _ => false) M) (chk n f (nxK n P) M) = true → (pvK P (n - 1) = 0 ∧ M = []) ∨ (pvK P (n - 1) ≠ 0 ∧ chk n f (nxK n P) M = true) := by
    intro M hM
    by_cases e : pvK P (n - 1) = 0
    · rw [beq_t e] at hM
      cases M with
      | nil => exact Or.inl ⟨e, rfl⟩
      | cons q M => cases hM
    · rw [beq_f e] at hM
      exact Or.inr ⟨e, hM⟩
  have h2 : cond (fdK n P) (List.rec (motive := fun _ => Bool) false (fun Q M _ => cond (Nat.beq Q P) (cond (Nat.beq (pvK P (n - 1)) 0) (List.rec (motive := fun _ => Bool) true (fun _ _ _ => false) M) (chk n f (nxK n P) M)) false) L) (cond (Nat.beq (pvK P (n - 1)) 0) (List.rec (motive := fun _ => Bool) true (fun _ _ _ => false) L) (chk n f (nxK n P) L)) = true := h
  cases hf : fdK n P with
  | true =>
    rw [hf] at h2
    cases L with
    | nil => cases h2
    | cons Q M =>
      have h3 : cond (Nat.beq Q P) (cond (Nat.beq (pvK P (n - 1)) 0) (List.rec (motive := fun _ => Bool) true (fun _ _ _ => false) M) (chk n f (nxK n P) M)) false = true := h2
      by_cases e : Q = P
      · rw [beq_t e] at h3
        exact ⟨M, Or.inl ⟨rfl, by rw [e]⟩, tl M h3⟩
      · rw [beq_f e] at h3; cases h3
  | false =>
    rw [hf] at h2
    exact ⟨L, Or.inr ⟨rfl, rfl⟩, tl L h2⟩
/-! the orders are orders -/
noncomputable abbrev dgI (P : Nat) : Nat → Int := fun k => (dg P k : Int)
theorem pvK_spec (P : Nat) : ∀ m, pvK P m = 0 ∨ ∃ i, pvK P m = i + 1 ∧ i + 1 ≤ m ∧ dg P i ≤ dg P (i + 1)
  | 0 => Or.inl rfl
  | m + 1 => by
    rw [pvK_s]
    by_cases h : dg P m ≤ dg P (m + 1)
    · rw [ble_t h]; exact Or.inr ⟨m, rfl, by omega, h⟩
    · rw [ble_f h]
      rcases pvK_spec P m with g | ⟨i, g1, g2, g3⟩
      · exact Or.inl g
      · exact Or.inr ⟨i, g1, by omega, g3⟩
theorem lsK_spec (P x : Nat) {i : Nat} (hx : x ≤ dg P (i + 1)) : ∀ m, i + 1 ≤ m → i + 1 ≤ lsK P x m ∧ lsK P x m ≤ m
  | 0, h => by omega
  | m + 1, h => by
    rw [lsK_s]
    by_cases g : x ≤ dg P (m + 1)
    · rw [ble_t g]; exact ⟨h, Nat.le_refl _⟩
    · rw [ble_f g]
      have : i + 1 ≤ m := by
        by_cases e : m = i
        · rw [e] at g; exact absurd hx g
        · omega
      have ih := lsK_spec P x hx m this
      exact ⟨ih.1, by show lsK P x m ≤ m + 1; omega⟩
theorem piK_lt {n i j k : Nat} (h1 : i < j) (h2 : j < n) (hk : k < n) : piK n i j k < n := by
  unfold piK
  split
  · omega
  · split
    · omega
    · split <;> omega
theorem piK_inj {n i j : Nat} (h1 : i < j) (h2 : j < n) {k l : Nat} (hk : k < n) (hl : l < n) (e : piK n i j k = piK n i j l) : k = l := by
  unfold piK at e
  by_cases a1 : k < i
  · rw [if_pos a1] at e
    by_cases b1 : l < i
    · rw [if_pos b1] at e; exact e
    · rw [if_neg b1] at e
      split at e
      · omega
      · split at e <;> omega
  · rw [if_neg a1] at e
    by_cases b1 : l < i
    · rw [if_pos b1] at e
      split at e
      · omega
      · split at e <;> omega
    · rw [if_neg b1] at e
      by_cases a2 : k = i
      · rw [if_pos a2] at e
        split at e
        · omega
        · split at e <;> omega
      · rw [if_neg a2] at e
        by_cases b2 : l = i
        · rw [if_pos b2] at e
          split at e <;> omega
        · rw [if_neg b2] at e
          split at e
          · split at e <;> omega
          · split at e <;> omega
theorem perm_nx {n P : Nat} (hn : n ≤ 8) (h : isPerm (dgI P) n) (hp : pvK P (n - 1) ≠ 0) : isPerm (dgI (nxK n P)) n := by
  rcases pvK_spec P (n - 1) with g | ⟨i, g1, g2, g3⟩
  · exact absurd g hp
  · have hj := lsK_spec P (dg P i) g3 (n - 1) g2
    have hd := nxK_dg (P := P) hn
    rw [g1, Nat.add_sub_cancel] at hd
    generalize lsK P (dg P i) (n - 1) = j at hj hd
    refine ⟨fun k hk => ?_, fun k hk l hl e => ?_⟩
    · show 0 ≤ (dg (nxK n P) k : Int) ∧ (dg (nxK n P) k : Int) < n
      rw [hd k hk]; exact h.1 _ (piK_lt (by omega) (by omega) hk)
    · have e2 : (dg (nxK n P) k : Int) = (dg (nxK n P) l : Int) := e
      rw [hd k hk, hd l hl] at e2
      exact piK_inj (by omega) (by omega) hk hl (h.2 _ (piK_lt (by omega) (by omega) hk) _ (piK_lt (by omega) (by omega) hl) e2)
theorem pos_K {n P : Nat} (hn : n ≤ 8) (h : isPerm (dgI P) n) : isPos (dgI P) (dgI (psK P n)) n := by
  intro k hk
  show ((dg (psK P n) ((dg P k : Nat) : Int).toNat : Nat) : Int) = k
  rw [Int.toNat_natCast, psK_e (by omega) (fun a b h1 h2 e => by
    have := h.2 a (by omega) b h2 (by show ((dg P a : Nat) : Int) = (dg P b : Nat); rw [e])
    omega) k hk]
theorem fd_iff {n P : Nat} (hn : n ≤ 8) (h : isPerm (dgI P) n) {ps : Nat → Int} (hps : isPos (dgI P) ps n) : fdK n P = true ↔ noClash ps n := fdK_iff hn (pos_one h hps (pos_K hn h))
