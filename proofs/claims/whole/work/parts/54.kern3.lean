/-! COUNTING in the kernel: how many of each number of loops -/
/-- how many j < m have v j = k -/
def cnt (v : Nat → Nat) (k : Nat) : Nat → Nat
  | 0 => 0
  | m + 1 => cnt v k m + (if v m = k then 1 else 0)
def hs (v : Nat → Nat) : Nat → Nat
  | 0 => 0
  | m + 1 => hs v m + 2 ^ (20 * v m)
/-- how many pairs i < m, j < E have v i j = k -/
def cn2 (v : Nat → Nat → Nat) (E k : Nat) : Nat → Nat
  | 0 => 0
  | m + 1 => cn2 v E k m + cnt (v m) k E
def hs2 (v : Nat → Nat → Nat) (E : Nat) : Nat → Nat
  | 0 => 0
  | m + 1 => hs2 v E m + hs (v m) E
def s8 (c : Nat → Nat) : Nat := c 0 + 1048576 * (c 1 + 1048576 * (c 2 + 1048576 * (c 3 + 1048576 * (c 4 + 1048576 * (c 5 + 1048576 * (c 6 + 1048576 * c 7))))))
theorem s8_add (c d : Nat → Nat) : s8 (fun k => c k + d k) = s8 c + s8 d := by unfold s8; dsimp only; omega
theorem hs_s8 {v : Nat → Nat} : ∀ {m : Nat}, (∀ j, j < m → v j < 8) → hs v m = s8 (fun k => cnt v k m)
  | 0, _ => rfl
  | m + 1, h => by
    have ih := hs_s8 (v := v) (m := m) (fun j hj => h j (by omega))
    have h8 := h m (by omega)
    have e : (fun k => cnt v k (m + 1)) = fun k => cnt v k m + (if v m = k then 1 else 0) := rfl
    rw [e, s8_add (fun k => cnt v k m) (fun k => if v m = k then 1 else 0), ← ih]
    show hs v m + 2 ^ (20 * v m) = _
    congr 1
    generalize v m = w at h8
    have : ∀ w : Fin 8, 2 ^ (20 * w.val) = s8 (fun k => if w.val = k then 1 else 0) := by decide +kernel
    exact this ⟨w, h8⟩
theorem hs2_s8 {v : Nat → Nat → Nat} {E : Nat} : ∀ {m : Nat}, (∀ i, i < m → ∀ j, j < E → v i j < 8) → hs2 v E m = s8 (fun k => cn2 v E k m)
  | 0, _ => rfl
  | m + 1, h => by
    have ih := hs2_s8 (v := v) (E := E) (m := m) (fun i hi => h i (by omega))
    have e : (fun k => cn2 v E k (m + 1)) = fun k => cn2 v E k m + cnt (v m) k E := rfl
    rw [e, s8_add (fun k => cn2 v E k m) (fun k => cnt (v m) k E), ← ih, ← hs_s8 (h m (by omega))]
    rfl
theorem hs_le {v : Nat → Nat} {j : Nat} : ∀ {m : Nat}, j < m → 2 ^ (20 * v j) ≤ hs v m
  | 0, h => by omega
  | m + 1, h => by
    show _ ≤ hs v m + 2 ^ (20 * v m)
    by_cases e : j = m
    · rw [e]; omega
    · exact Nat.le_trans (hs_le (v := v) (j := j) (m := m) (by omega)) (Nat.le_add_right _ _)
theorem hs2_le {v : Nat → Nat → Nat} {E i j : Nat} (hj : j < E) : ∀ {m : Nat}, i < m → 2 ^ (20 * v i j) ≤ hs2 v E m
  | 0, h => by omega
  | m + 1, h => by
    show _ ≤ hs2 v E m + hs (v m) E
    by_cases e : i = m
    · have := hs_le (v := v m) hj; rw [e]; omega
    · have := hs2_le (v := v) (i := i) hj (m := m) (by omega); omega
theorem cnt_le (v : Nat → Nat) (k : Nat) : ∀ m, cnt v k m ≤ m
  | 0 => Nat.le_refl 0
  | m + 1 => by
    have := cnt_le v k m
    show cnt v k m + (if v m = k then 1 else 0) ≤ m + 1
    split <;> omega
theorem cn2_le (v : Nat → Nat → Nat) (E k : Nat) : ∀ m, cn2 v E k m ≤ E * m
  | 0 => Nat.le_refl 0
  | m + 1 => by
    have := cn2_le v E k m
    have := cnt_le (v m) k E
    show cn2 v E k m + cnt (v m) k E ≤ E * (m + 1)
    rw [Nat.mul_add]; omega
theorem s8_inj {c d : Nat → Nat} (hc : ∀ k, c k < 1048576) (hd : ∀ k, k < 8 → d k < 1048576) (h : s8 c = s8 d) : ∀ k, k < 8 → c k = d k := by
  unfold s8 at h
  have c0 := hc 0; have c1 := hc 1; have c2 := hc 2; have c3 := hc 3; have c4 := hc 4; have c5 := hc 5; have c6 := hc 6; have c7 := hc 7
  have d0 := hd 0 (by omega); have d1 := hd 1 (by omega); have d2 := hd 2 (by omega); have d3 := hd 3 (by omega); have d4 := hd 4 (by omega); have d5 := hd 5 (by omega); have d6 := hd 6 (by omega); have d7 := hd 7 (by omega)
  have dig : ∀ x y X Y : Nat, x < 1048576 → X < 1048576 → x + 1048576 * y = X + 1048576 * Y → x = X ∧ y = Y := by
    intro x y X Y h1 h2 h3; omega
  obtain ⟨e0, h⟩ := dig _ _ _ _ c0 d0 h
  obtain ⟨e1, h⟩ := dig _ _ _ _ c1 d1 h
  obtain ⟨e2, h⟩ := dig _ _ _ _ c2 d2 h
  obtain ⟨e3, h⟩ := dig _ _ _ _ c3 d3 h
  obtain ⟨e4, h⟩ := dig _ _ _ _ c4 d4 h
  obtain ⟨e5, h⟩ := dig _ _ _ _ c5 d5 h
  obtain ⟨e6, e7⟩ := dig _ _ _ _ c6 d6 h
  intro k hk
  match k, hk with
  | 0, _ => exact e0
  | 1, _ => exact e1
  | 2, _ => exact e2
  | 3, _ => exact e3
  | 4, _ => exact e4
  | 5, _ => exact e5
  | 6, _ => exact e6
  | 7, _ => exact e7
noncomputable def khist (n : Nat) (F : Nat) (L : List Nat) : Nat := List.rec (motive := fun _ => Nat) 0 (fun G _ ih => Nat.add (Nat.pow 2 (Nat.mul 20 (klp n F G))) ih) L
noncomputable def khist2 (n : Nat) (L M : List Nat) : Nat := List.rec (motive := fun _ => Nat) 0 (fun F _ ih => Nat.add (khist n F L) ih) M
theorem khist_c (n F G : Nat) (L : List Nat) : khist n F (G :: L) = 2 ^ (20 * klp n F G) + khist n F L := rfl
theorem khist2_c (n F : Nat) (L M : List Nat) : khist2 n L (F :: M) = khist n F L + khist2 n L M := rfl
theorem khist2_app (n : Nat) (L M : List Nat) : ∀ K : List Nat, khist2 n L (K ++ M) = khist2 n L K + khist2 n L M
  | [] => by show _ = 0 + _; rw [Nat.zero_add]; rfl
  | F :: K => by rw [List.cons_append, khist2_c, khist2_c, khist2_app n L M K, Nat.add_assoc]
theorem khist_hs {n F : Nat} {v : Nat → Nat} : ∀ (L : List Nat) (o : Nat), (∀ j x, L[j]? = some x → klp n F x = v (o + j)) → khist n F L + hs v o = hs v (o + L.length)
  | [], o, _ => by show 0 + hs v o = hs v (o + 0); rw [Nat.zero_add]; rfl
  | G :: L, o, h => by
    have ih := khist_hs (n := n) (F := F) (v := v) L (o + 1) (fun j x hx => by
      have := h (j + 1) x (by rw [List.getElem?_cons_succ]; exact hx)
      rw [this, show o + (j + 1) = o + 1 + j by omega])
    have h0 := h 0 G rfl
    rw [khist_c, h0, List.length_cons, show o + (L.length + 1) = o + 1 + L.length by omega, ← ih]
    show 2 ^ (20 * v (o + 0)) + khist n F L + hs v o = khist n F L + (hs v o + 2 ^ (20 * v o))
    rw [Nat.add_zero]; omega
theorem khist2_hs {n E : Nat} {v : Nat → Nat → Nat} {L : List Nat} : ∀ (M : List Nat) (o : Nat), (∀ i F, M[i]? = some F → khist n F L = hs (v (o + i)) E) → khist2 n L M + hs2 v E o = hs2 v E (o + M.length)
  | [], o, _ => by show 0 + hs2 v E o = hs2 v E (o + 0); rw [Nat.zero_add]; rfl
  | F :: M, o, h => by
    have ih := khist2_hs (n := n) (E := E) (v := v) (L := L) M (o + 1) (fun j x hx => by
      have := h (j + 1) x (by rw [List.getElem?_cons_succ]; exact hx)
      rw [this, show o + (j + 1) = o + 1 + j by omega])
    have h0 := h 0 F rfl
    rw [khist2_c, h0, List.length_cons, show o + (M.length + 1) = o + 1 + M.length by omega, ← ih]
    show hs (v (o + 0)) E + khist2 n L M + hs2 v E o = khist2 n L M + (hs2 v E o + hs (v o) E)
    rw [Nat.add_zero]; omega
/-- the loops of the land of the i-th and the j-th arches of n -/
noncomputable def lpN (n i j : Nat) : Nat := nlp (tls n i) (tls n j) n
noncomputable abbrev EE (n : Nat) : Nat := (En (2 * n) 0).toNat
theorem EE_len (n : Nat) : (PL n).length = EE n := by have := PL_len n; unfold EE; omega
theorem klp_PL {n i j F G : Nat} (hn : n ≤ 7) (hF : (PL n)[i]? = some F) (hG : (PL n)[j]? = some G) : klp n F G = lpN n i j := by
  have hi : (i : Int) < En (2 * n) 0 := by
    have := (List.getElem?_eq_some_iff.mp hF).1
    have := PL_len n
    omega
  have hj : (j : Int) < En (2 * n) 0 := by
    have := (List.getElem?_eq_some_iff.mp hG).1
    have := PL_len n
    omega
  obtain ⟨F2, f1, f2⟩ := PL_get hn hi
  obtain ⟨G2, g1, g2⟩ := PL_get hn hj
  rw [hF] at f1; cases f1
  rw [hG] at g1; cases g1
  exact klp_ok (tls_arch ⟨by omega, hi⟩) (tls_arch ⟨by omega, hj⟩) f2 g2
theorem khist2_PL {n : Nat} (hn : n ≤ 7) : khist2 n (PL n) (PL n) = hs2 (lpN n) (EE n) (EE n) := by
  have := khist2_hs (n := n) (E := EE n) (v := lpN n) (L := PL n) (PL n) 0 (fun i F hF => by
    have h2 := khist_hs (n := n) (F := F) (v := lpN n i) (PL n) 0 (fun j G hG => by rw [Nat.zero_add]; exact klp_PL hn hF hG)
    rw [EE_len, Nat.zero_add] at h2
    rw [Nat.zero_add]; exact h2)
  rw [EE_len, Nat.zero_add] at this
  exact this
/-- out of the sum: how many loops there may be, and how many lands there are of each number -/
theorem counted {n : Nat} (hn : n ≤ 7) {d : Nat → Nat} (hd : ∀ k, k < 8 → d k < 1048576) (h : khist2 n (PL n) (PL n) = s8 d) : (∀ i, i < EE n → ∀ j, j < EE n → lpN n i j < 8) ∧ ∀ k, k < 8 → cn2 (lpN n) (EE n) k (EE n) = d k := by
  rw [khist2_PL hn] at h
  have h8 : ∀ i, i < EE n → ∀ j, j < EE n → lpN n i j < 8 := by
    intro i hi j hj
    have h1 := hs2_le (v := lpN n) (E := EE n) hj hi
    rw [h] at h1
    have h2 : s8 d < 2 ^ 160 := by
      have d0 := hd 0 (by omega); have d1 := hd 1 (by omega); have d2 := hd 2 (by omega); have d3 := hd 3 (by omega); have d4 := hd 4 (by omega); have d5 := hd 5 (by omega); have d6 := hd 6 (by omega); have d7 := hd 7 (by omega)
      unfold s8; omega
    have h3 : 2 ^ (20 * lpN n i j) < 2 ^ 160 := Nat.lt_of_le_of_lt h1 h2
    have h4 := (Nat.pow_lt_pow_iff_right (by omega)).mp h3
    omega
  refine ⟨h8, s8_inj (fun k => ?_) hd (by rw [← hs2_s8 h8]; exact h)⟩
  have h1 := cn2_le (lpN n) (EE n) k (EE n)
  have h2 : EE n ≤ 429 := by have := En_7 n hn; unfold EE; omega
  have h3 := Nat.mul_le_mul h2 h2
  omega
