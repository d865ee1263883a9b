/-! THE WAY: loops by their labels, and how long they are -/
theorem orb_sym {f g : Nat → Int} {M p q : Nat} (hf : PR f M) (hg : PR g M) (hp : p < M) (h : orb f g M p q) : orb f g M q p := by
  obtain ⟨k, hk, e⟩ := h
  have hq : q < M := by rw [← e]; exact wk_lt hf hg hp k
  have key : ∀ j, j ≤ k → orb f g M q (wk f g p (k - j)) := by
    intro j
    induction j with
    | zero => intro _; exact ⟨0, by omega, by rw [Nat.sub_zero, e]; rfl⟩
    | succ j ih =>
      intro hj
      have h1 := ih (by omega)
      rw [show k - j = (k - (j + 1)) + 1 by omega] at h1
      by_cases hev : (k - (j + 1)) % 2 = 0
      · rw [← wk_bk_even hf hg hp hev]; exact orb_f hf hg hq h1
      · rw [← wk_bk_odd hf hg hp (show (k - (j + 1)) % 2 = 1 by omega)]; exact orb_g hf hg hq h1
  have := key k (Nat.le_refl k)
  rw [Nat.sub_self] at this
  exact this
theorem orb_tr {f g : Nat → Int} {M p q x : Nat} (hf : PR f M) (hg : PR g M) (hp : p < M) (h : orb f g M p q) (h2 : orb f g M q x) : orb f g M p x := by
  obtain ⟨k, hk, e⟩ := h2
  have key : ∀ j, j ≤ k → orb f g M p (wk f g q j) := by
    intro j
    induction j with
    | zero => intro _; exact h
    | succ j ih =>
      intro hj
      have h1 := ih (by omega)
      by_cases hev : j % 2 = 0
      · rw [wk_even hev]; exact orb_f hf hg hp h1
      · rw [wk_odd (show j % 2 = 1 by omega)]; exact orb_g hf hg hp h1
  rw [← e]
  exact key k (Nat.le_refl k)
theorem lpS_cls {f g : Nat → Int} {M : Nat} (hf : PR f M) (hg : PR g M) : ∀ k, k ≤ M → ∀ x, x < M → ∀ y, y < M → 0 ≤ (lpS f g M k).1 x → ((0 ≤ (lpS f g M k).1 y ∧ (lpS f g M k).1 x = (lpS f g M k).1 y) ↔ orb f g M x y) := by
  intro k
  induction k with
  | zero =>
    intro _ x _ y _ h
    have e : (lpS f g M 0).1 x = -1 := rfl
    omega
  | succ p ih =>
    intro hk x hx y hy
    have hp : p < M := by omega
    have hinv := (lpS_inv hf hg p (by omega)).1
    have e1 : lpS f g M (p + 1) = if (lpS f g M p).1 p < 0 then (fun q => if orb f g M p q then ((lpS f g M p).2 : Int) else (lpS f g M p).1 q, (lpS f g M p).2 + 1) else lpS f g M p := rfl
    by_cases hfree : (lpS f g M p).1 p < 0
    · rw [if_pos hfree] at e1
      rw [e1]
      show 0 ≤ (if orb f g M p x then ((lpS f g M p).2 : Int) else (lpS f g M p).1 x) → ((0 ≤ (if orb f g M p y then ((lpS f g M p).2 : Int) else (lpS f g M p).1 y) ∧ (if orb f g M p x then ((lpS f g M p).2 : Int) else (lpS f g M p).1 x) = (if orb f g M p y then ((lpS f g M p).2 : Int) else (lpS f g M p).1 y)) ↔ orb f g M x y)
      have hlx := hinv x hx
      have hly := hinv y hy
      by_cases ox : orb f g M p x
      · rw [if_pos ox]
        intro _
        by_cases oy : orb f g M p y
        · rw [if_pos oy]
          exact ⟨fun _ => orb_tr hf hg hx (orb_sym hf hg hp ox) oy, fun _ => ⟨by omega, rfl⟩⟩
        · rw [if_neg oy]
          exact ⟨fun z => by omega, fun z => absurd (orb_tr hf hg hp ox z) oy⟩
      · rw [if_neg ox]
        intro h0
        by_cases oy : orb f g M p y
        · rw [if_pos oy]
          exact ⟨fun z => by omega, fun z => absurd (orb_tr hf hg hp oy (orb_sym hf hg hx z)) ox⟩
        · rw [if_neg oy]
          exact ih (by omega) x hx y hy h0
    · rw [if_neg hfree] at e1
      rw [e1]
      exact ih (by omega) x hx y hy
theorem cn_zero {f : Nat → Int} : ∀ m, (∀ k, k < m → f k = 0) → cn f m = 0
  | 0, _ => rfl
  | m + 1, h => by
    show cn f m + f m = 0
    rw [cn_zero m (fun k hk => h k (by omega)), h m (by omega)]; rfl
theorem cn_add {f g k : Nat → Int} : ∀ m, (∀ x, x < m → k x = f x + g x) → cn k m = cn f m + cn g m
  | 0, _ => rfl
  | m + 1, h => by
    show cn k m + k m = cn f m + f m + (cn g m + g m)
    rw [cn_add m (fun x hx => h x (by omega)), h m (by omega)]; omega
theorem cn_one (c : Nat) : ∀ m, cn (fun x => if x = c then 1 else 0) m = if c < m then 1 else 0
  | 0 => by rw [if_neg (by omega)]; rfl
  | m + 1 => by
    show cn (fun x => if x = c then 1 else 0) m + (if m = c then 1 else 0) = _
    rw [cn_one c m]
    by_cases e : m = c
    · rw [if_neg (by omega), if_pos e, if_pos (by omega)]; rfl
    · rw [if_neg e]
      by_cases e2 : c < m
      · rw [if_pos e2, if_pos (by omega)]; rfl
      · rw [if_neg e2, if_neg (by omega)]; rfl
theorem cn_img {w : Nat → Nat} {M s : Nat} (hw : ∀ i, w i < M) (hinj : ∀ i j, i < j → j < s → w i ≠ w j) : ∀ t, t ≤ s → cn (fun x => if (∃ i, i < t ∧ w i = x) then 1 else 0) M = t
  | 0, _ => cn_zero M (fun k _ => if_neg (fun ⟨i, h1, _⟩ => by omega))
  | t + 1, ht => by
    rw [cn_add (f := fun x => if (∃ i, i < t ∧ w i = x) then 1 else 0) (g := fun x => if x = w t then 1 else 0) M (fun x _ => ?_), cn_img hw hinj t (by omega), cn_one, if_pos (hw t)]
    · omega
    · show (if (∃ i, i < t + 1 ∧ w i = x) then (1 : Int) else 0) = (if (∃ i, i < t ∧ w i = x) then 1 else 0) + (if x = w t then 1 else 0)
      by_cases e : x = w t
      · rw [if_pos ⟨t, by omega, e.symm⟩, if_pos e, if_neg]
        · rfl
        · rintro ⟨i, h1, h2⟩
          exact hinj i t h1 (by omega) (h2.trans e)
      · rw [if_neg e]
        by_cases e2 : ∃ i, i < t ∧ w i = x
        · obtain ⟨i, h1, h2⟩ := e2
          rw [if_pos ⟨i, by omega, h2⟩, if_pos ⟨i, h1, h2⟩]; rfl
        · rw [if_neg e2, if_neg]
          · rfl
          · rintro ⟨i, h1, h2⟩
            by_cases e3 : i = t
            · rw [e3] at h2; exact e h2.symm
            · exact e2 ⟨i, by omega, h2⟩
/-- the loop of q is as long as the way back to it -/
theorem way_len {a b : Nat → Int} {n q s : Nat} (ha : arch a n) (hb : arch b n) (hq : q < 2 * n) (s1 : 2 ≤ s) (s2 : s ≤ 2 * n) (s3 : s % 2 = 0) (s4 : wk (pt a n) (pt b n) q s = q) (s5 : ∀ i j, i < j → j < s → wk (pt a n) (pt b n) q i ≠ wk (pt a n) (pt b n) q j) : cn (clf a b n q) (2 * n) = (s : Int) := by
  have hf := PR_pt ha
  have hg := PR_pt hb
  have hL := (lpS_inv hf hg (2 * n) (Nat.le_refl _)).2.2.1
  rw [← cn_img (w := wk (pt a n) (pt b n) q) (M := 2 * n) (wk_lt hf hg hq) s5 s (Nat.le_refl s)]
  have key : ∀ m, m ≤ 2 * n → cn (clf a b n q) m = cn (fun x => if (∃ i, i < s ∧ wk (pt a n) (pt b n) q i = x) then 1 else 0) m := by
    intro m
    induction m with
    | zero => intro _; rfl
    | succ m ih =>
      intro hm
      show cn (clf a b n q) m + clf a b n q m = cn _ m + (if (∃ i, i < s ∧ wk (pt a n) (pt b n) q i = m) then 1 else 0)
      rw [ih (by omega)]
      congr 1
      have h1 := lpS_cls hf hg (2 * n) (Nat.le_refl _) q hq m (by omega) (hL q hq)
      have h2 := orb_iff hf hg hq s1 s2 s3 s4 m
      have h3 : lab a b n m = lab a b n q ↔ ∃ i, i < s ∧ wk (pt a n) (pt b n) q i = m := by
        rw [← h2, ← h1]
        exact ⟨fun z => ⟨hL m (by omega), z.symm⟩, fun z => z.2.symm⟩
      unfold clf
      by_cases e : lab a b n m = lab a b n q
      · rw [if_pos e, if_pos (h3.mp e)]
      · rw [if_neg e, if_neg (fun z => e (h3.mpr z))]
  exact key (2 * n) (Nat.le_refl _)
