/-! WHAT THE REFERENCE HOLDS: rows for counting, all of it -/
/-- in how many ways one goes from a height down to 0, in l steps -/
def En : Nat → Nat → Int
  | 0, h => if h = 0 then 1 else 0
  | l + 1, h => En l (h + 1) + (if 0 < h then En l (h - 1) else 0)
def landT (n k : Nat) : Int := if 1 ≤ k ∧ k ≤ n then stV 1 ((n - 1) * 7 + k - 1) else 0
def unlT (n : Nat) : Int := stV 2 (n - 1)
def foldT (n : Nat) : Int := n * stV 3 (n - 1)
def R_en (en ic : Nat → Int) : Prop := (ic 0 = 0 ∧ ∀ j, j < 650 → en j = 0) ∨ (ic 0 = 1 ∧ ∀ l, l ≤ 24 → ∀ h, h ≤ 25 → en (26 * l + h) = En l h)
def R_ld (ct ic : Nat → Int) : Prop := ∀ n, 1 ≤ n → n ≤ 7 → (ic n = 0 ∧ ∀ k, k < 8 → ct (8 * n + k) = 0) ∨ (ic n = 1 ∧ ∀ k, k < 8 → ct (8 * n + k) = landT n k)
def R_ul (u : Nat → Int) : Prop := ∀ n, 1 ≤ n → n ≤ 5 → u n = 0 ∨ u n = unlT n
def R_fc (u : Nat → Int) : Prop := ∀ n, 1 ≤ n → n ≤ 8 → u n = 0 ∨ u n = foldT n
def RI (S : SS) (σ : SM) : Prop := R_sh S.1 (σ 0) (σ 1) (σ 2) ∧ R_th S.2.1 (σ 4) (σ 5) (σ 6) (σ 7) (σ 8) (σ 9) ∧ R_st S (σ 10) (σ 11) (σ 12) ∧ R_en (σ 19) (σ 20) ∧ R_ld (σ 24) (σ 25) ∧ R_ul (σ 26) ∧ R_fc (σ 27)
def QS (x : Int × SS) (sz : Nat) : QT := fun r h s => s = sz ∧ r = some (vI x.1) ∧ ∃ τ, h = hM τ ∧ RI x.2 τ
theorem qs_of {x : Int × SS} {v : Int} {S2 : SS} {τ : SM} {sz : Nat} (e : x = (v, S2)) (h : RI S2 τ) : QS x sz (some (vI v)) (hM τ) sz := by rw [e]; exact ⟨rfl, rfl, τ, rfl, h⟩
/-- another finding alone -/
theorem RI.st {S : SS} {σ : SM} (h : RI S σ) (x : Int) : RI (sSt S x) (sset σ 10 (fun _ => x)) := by
  obtain ⟨h1, h2, ⟨h3, h4⟩, h5⟩ := h
  exact ⟨h1, h2, ⟨rfl, h4⟩, h5⟩
theorem RI.st2 {S : SS} {σ : SM} (h : RI S σ) (hx : S.2.2.1 = 0) : RI S (sset σ 10 (fun _ => 0)) := by
  have := h.st 0
  have e : sSt S 0 = S := by unfold sSt; rw [← hx]
  rw [e] at this; exact this
theorem sh_cases {f : Nat → Option SHT} {la sz it : Nat → Int} (h : R_sh f la sz it) {k : Nat} (hk : k < 8) : (f k = none ∧ la k = 0) ∨ ∃ l n g, f k = some (l, n, g) ∧ 0 ≤ l ∧ l ≤ 2 ∧ n ≤ 100 ∧ la k = l + 1 ∧ sz k = (n : Int) ∧ ∀ i, i < n → it (100 * k + i) = g i := by
  have := h k hk
  cases e : f k with
  | none => rw [e] at this; exact Or.inl ⟨rfl, this⟩
  | some q => obtain ⟨l, n, g⟩ := q; rw [e] at this; exact Or.inr ⟨l, n, g, rfl, this⟩
theorem th_cases {f : Nat → Option TH} {kd mn one two ov un : Nat → Int} (h : R_th f kd mn one two ov un) {t : Nat} (ht : t < 10) : (f t = none ∧ kd t = 0) ∨ ∃ k n a b, f t = some (k, n, a, b) ∧ R_one (k, n, a, b) t kd mn one two ov un := by
  have := h t ht
  cases e : f t with
  | none => rw [e] at this; exact Or.inl ⟨rfl, this⟩
  | some q => obtain ⟨k, n, a, b⟩ := q; rw [e] at this; exact Or.inr ⟨k, n, a, b, rfl, this⟩
theorem wf_kind {k : Int} {n : Nat} {a b : Nat → Int} (h : wfT (k, n, a, b)) : 1 ≤ k ∧ k ≤ 8 ∧ 1 ≤ n ∧ n ≤ 20 := by
  obtain ⟨h1, h2, h3⟩ := h
  rcases h3 with h3 | h3 | h3
  · have := h3.1; have := h3.2.1; omega
  · have := h3.1; omega
  · have := h3.1; omega
theorem ups_e {α : Type} {f : Nat → Option α} {k : Nat} {v : Option α} : ups f k v k = v := by unfold ups; rw [if_pos rfl]
theorem ups_n {α : Type} {f : Nat → Option α} {k j : Nat} {v : Option α} (h : j ≠ k) : ups f k v j = f j := by unfold ups; rw [if_neg h]
/-- a thing has come to a place -/
theorem RI.put {S : SS} {σ τ : SM} (h : RI S σ) {to : Nat} (hto : to < 10) (hk : KP σ τ to) {T : TH} (hT : R_one T to (τ 4) (τ 5) (τ 6) (τ 7) (τ 8) (τ 9)) : RI (sTh S to (some T)) τ := by
  obtain ⟨h1, h2, h3, h4, h5, h6, h7⟩ := h
  obtain ⟨k1, k2, k3⟩ := hk
  have e0 := k1 0 (by omega); have e1 := k1 1 (by omega); have e2 := k1 2 (by omega)
  have e11 := k1 11 (by omega); have e12 := k1 12 (by omega); have e19 := k1 19 (by omega); have e20 := k1 20 (by omega)
  have e24 := k1 24 (by omega); have e25 := k1 25 (by omega); have e26 := k1 26 (by omega); have e27 := k1 27 (by omega)
  refine ⟨by rw [e0, e1, e2]; exact h1, fun t ht => ?_, ⟨k2, by rw [e12]; exact h3.2.1, h3.2.2.1, by rw [e11]; exact h3.2.2.2⟩, by rw [e19, e20]; exact h4, by rw [e24, e25]; exact h5, by rw [e26]; exact h6, by rw [e27]; exact h7⟩
  by_cases e : t = to
  · subst e
    have : (sTh S t (some T)).2.1 t = some T := ups_e
    rw [this]; exact hT
  · have : (sTh S to (some T)).2.1 t = S.2.1 t := ups_n e
    rw [this]
    have g := h2 t ht
    have q := k3 t ht e
    cases e9 : S.2.1 t with
    | none => rw [e9] at g; show τ 4 t = 0; rw [q.1]; exact g
    | some T2 =>
      rw [e9] at g
      obtain ⟨k, n, a, b⟩ := T2
      obtain ⟨w, g1, g2, g3, g4, g5, g6⟩ := g
      have hn := (wf_kind w).2.2.2
      have a6 := q.2.2 6 (by omega) (by omega); have a7 := q.2.2 7 (by omega) (by omega); have a8 := q.2.2 8 (by omega) (by omega); have a9 := q.2.2 9 (by omega) (by omega)
      exact ⟨w, by rw [q.1]; exact g1, by rw [q.2.1]; exact g2, fun z p hp => by rw [a6 p (by omega)]; exact g3 z p hp, fun z p hp => by rw [a6 p (by omega)]; exact g4 z p hp, fun z p hp => ⟨by rw [a7 p (by omega)]; exact (g5 z p hp).1, by rw [a9 p (by omega)]; exact (g5 z p hp).2⟩, fun z1 z2 p hp => by rw [a8 p (by omega)]; exact g6 z1 z2 p hp⟩
/-! THE CALLS, as the document has them: answer and state -/
def cutv (l v : Int) : Int := if l = 0 then v.bmod 256 else if l = 1 then v.bmod 65536 else v
def sp_sheet (S : SS) (sh ln n : Int) : Int × SS := if (0 ≤ sh ∧ sh ≤ 7) ∧ (0 ≤ ln ∧ ln ≤ 2) ∧ n ≤ 100 then (if n < 0 then (-1000014, sSt S 4) else (n, sSh S sh.toNat (some (ln, n.toNat, fun _ => 0)))) else (-1000001, S)
def sp_set (S : SS) (sh i v : Int) : Int × SS := if 0 ≤ sh ∧ sh ≤ 7 then (match S.1 sh.toNat with
  | none => (-1000011, sSt S 1)
  | some (l, n, f) => if 0 ≤ i ∧ i < n then (cutv l v, sSh S sh.toNat (some (l, n, upf f i.toNat (cutv l v)))) else (-1000012, sSt S 2)) else (-1000001, S)
def sp_drop (S : SS) (sh : Int) : Int × SS := if 0 ≤ sh ∧ sh ≤ 7 then (match S.1 sh.toNat with
  | none => (-1000011, sSt S 1)
  | some (_, n, _) => ((n : Int), sSh S sh.toNat none)) else (-1000001, S)
def sp_copy (S : SS) (a i b j n : Int) : Int × SS := if (0 ≤ a ∧ a ≤ 7) ∧ (0 ≤ b ∧ b ≤ 7) then (match S.1 a.toNat, S.1 b.toNat with
  | some (l, na, f), some (m, nb, g) => if l = m then (if 0 ≤ i ∧ 0 ≤ j ∧ 0 ≤ n ∧ i + n ≤ na ∧ j + n ≤ nb then (n, sSh S b.toNat (some (m, nb, cpf f g i.toNat j.toNat n.toNat))) else (-1000012, sSt S 2)) else (-1000015, sSt S 5)
  | _, _ => (-1000011, sSt S 1)) else (-1000001, S)
def sp_clear (S : SS) (p : Int) : Int × SS := if 0 ≤ p ∧ p ≤ 9 then (match S.2.1 p.toNat with
  | none => (0, S)
  | some _ => (1, (S.1, ups S.2.1 p.toNat none, S.2.2))) else (-1000001, S)
def sp_kind (S : SS) (p : Int) : Int × SS := if 0 ≤ p ∧ p ≤ 9 then (match S.2.1 p.toNat with
  | none => (-1000011, sSt S 1)
  | some (k, _, _, _) => (k, sSt S 0)) else (-1000001, S)
def sp_is (S : SS) (p k : Int) : Int × SS := if (0 ≤ p ∧ p ≤ 9) ∧ (0 ≤ k ∧ k ≤ 8) then (match S.2.1 p.toNat with
  | none => (0, S)
  | some (kd, _, _, _) => (if isOf kd k then 1 else 0, S)) else (-1000001, S)
def sp_as (S : SS) (p k : Int) : Int × SS := if (0 ≤ p ∧ p ≤ 9) ∧ (0 ≤ k ∧ k ≤ 8) then (match S.2.1 p.toNat with
  | none => (-1000011, sSt S 1)
  | some (kd, n, _, _) => if isOf kd k then ((n : Int), sSt S 0) else (-1000013, sSt S 3)) else (-1000001, S)
def sp_trace (S : SS) (i : Int) : Int × SS := if 0 ≤ i ∧ i < S.2.2.2.1 then (S.2.2.2.2 i.toNat, S) else (-1000000, S)
def sp_status (S : SS) : Int × SS := (S.2.2.1, S)
def sp_sign (S : SS) (p q : Int) : Int × SS := if 0 ≤ p ∧ p ≤ 9 then (match S.2.1 p.toNat with
  | none => (-1000011, sSt S 1)
  | some (kd, n, a, _) => if isOf kd 1 then (if 0 ≤ q ∧ q < 2 * n then (a q.toNat, sSt S 0) else (-1000001, S)) else (-1000013, sSt S 3)) else (-1000001, S)
def sp_joined (S : SS) (p q : Int) : Int × SS := if 0 ≤ p ∧ p ≤ 9 then (match S.2.1 p.toNat with
  | none => (-1000011, sSt S 1)
  | some (kd, n, a, _) => if isOf kd 2 then (if 0 ≤ q ∧ q < 2 * n then (pt a n q.toNat, sSt S 0) else (-1000001, S)) else (-1000013, sSt S 3)) else (-1000001, S)
def sp_stamp (S : SS) (p q : Int) : Int × SS := if 0 ≤ p ∧ p ≤ 9 then (match S.2.1 p.toNat with
  | none => (-1000011, sSt S 1)
  | some (kd, n, a, _) => if isOf kd 7 then (if 0 ≤ q ∧ q < n then (a q.toNat, sSt S 0) else (-1000001, S)) else (-1000013, sSt S 3)) else (-1000001, S)
def sp_loops (S : SS) (p q : Int) : Int × SS := if 0 ≤ p ∧ p ≤ 9 then (match S.2.1 p.toNat with
  | none => (-1000011, sSt S 1)
  | some (kd, n, a, b) => if isOf kd 5 then (if q = -1 then ((nlp a b n : Int), sSt S 0) else if 0 ≤ q ∧ q < 2 * n then (lab a b n q.toNat, sSt S 0) else (-1000001, S)) else (-1000013, sSt S 3)) else (-1000001, S)
