/-! ENDS -/
theorem lc_lt {x y : Int} : lc x y < 0 ↔ x < y := by unfold lc; split <;> (try split) <;> omega
theorem lc_ge {x y : Int} : 0 ≤ lc x y ↔ y ≤ x := by unfold lc; split <;> (try split) <;> omega
theorem lc_gt {x y : Int} : 0 < lc x y ↔ y < x := by unfold lc; split <;> (try split) <;> omega
theorem lc_le {x y : Int} : lc x y ≤ 0 ↔ x ≤ y := by unfold lc; split <;> (try split) <;> omega
theorem lc_eq {x y : Int} : lc x y = 0 ↔ x = y := by unfold lc; split <;> (try split) <;> omega
theorem lc_ne {x y : Int} : lc x y ≠ 0 ↔ x ≠ y := by rw [ne_eq, lc_eq]
theorem detT {P : Prop} [Decidable P] {h : MH} {sz : Nat} (hp : P) : Det (some (vI (if P then 1 else 0))) h sz (some (vI 1)) h sz := by rw [if_pos hp]; exact ⟨rfl, rfl, rfl⟩
theorem detF {P : Prop} [Decidable P] {h : MH} {sz : Nat} (hp : ¬ P) : Det (some (vI (if P then 1 else 0))) h sz (some (vI 0)) h sz := by rw [if_neg hp]; exact ⟨rfl, rfl, rfl⟩
theorem detR {r : Option MV} {h : MH} {sz : Nat} : Det r h sz r h sz := ⟨rfl, rfl, rfl⟩
theorem detI {x y : Int} {h : MH} {sz : Nat} (e : y = x) : Det (some (vI x)) h sz (some (vI y)) h sz := by rw [e]; exact ⟨rfl, rfl, rfl⟩
theorem bI_ne {P : Prop} [Decidable P] : (if P then (1 : Int) else 0) ≠ 0 ↔ P := by split <;> simp_all
theorem bI_eq {P : Prop} [Decidable P] : (if P then (1 : Int) else 0) = 0 ↔ ¬ P := by split <;> simp_all
theorem bI_01 {P : Prop} [Decidable P] : (if P then (1 : Int) else 0) = 0 ∨ (if P then (1 : Int) else 0) = 1 := by split <;> simp
theorem V.ifB_eq {M : MD} {d pc : Nat} {ls : List (Option MV)} {st : List MV} {h : MH} {sz kc ks : Nat} {Q : QT} {P : Prop} [Decidable P] {off : Int} {tgt : Nat} (hd : decode M.2.1 pc = .ok (.ifCond .eq off, 3)) (ht : (pc : Int) + off = (tgt : Int)) (kt : ¬ P → V M d tgt ls st h sz kc ks Q) (kf : P → V M d (pc + 3) ls st h sz kc ks Q) : V M d pc ls (vI (if P then 1 else 0) :: st) h sz kc ks Q := V.if_eq hd ht (fun c => kt (bI_eq.mp c)) (fun c => kf (bI_ne.mp c))
theorem V.ifB_ne {M : MD} {d pc : Nat} {ls : List (Option MV)} {st : List MV} {h : MH} {sz kc ks : Nat} {Q : QT} {P : Prop} [Decidable P] {off : Int} {tgt : Nat} (hd : decode M.2.1 pc = .ok (.ifCond .ne off, 3)) (ht : (pc : Int) + off = (tgt : Int)) (kt : P → V M d tgt ls st h sz kc ks Q) (kf : ¬ P → V M d (pc + 3) ls st h sz kc ks Q) : V M d pc ls (vI (if P then 1 else 0) :: st) h sz kc ks Q := V.if_ne hd ht (fun c => kt (bI_ne.mp c)) (fun c => kf (bI_eq.mp c))
theorem lk_pad : ∀ (ls : List (Option MV)) (i : Nat) (v : MV), lk (ls ++ [none]) i = some v → lk ls i = some v
  | [], 0, v, h => by cases h
  | [], n + 1, v, h => by rw [List.nil_append] at h; simp [lk] at h
  | o :: l, 0, v, h => h
  | o :: l, n + 1, v, h => lk_pad l n v h
/-- one place of the locals more -/
theorem V.pad {M : MD} {d pc : Nat} {ls : List (Option MV)} {st : List MV} {h : MH} {sz kc ks : Nat} {Q : QT} (k : V M d pc (ls ++ [none]) st h sz kc ks Q) : V M d pc ls st h sz kc ks Q := V.locs (lk_pad ls) k
theorem al_1 {P : Nat → Prop} {p : Nat} {z : Int} (h : z = 1 ↔ ∀ q, q < p → P q) (hz : z = 1) (hp : P p) : ((1 : Int) = 1 ↔ ∀ q, q < p + 1 → P q) := ⟨fun _ q hq => by
  by_cases e : q = p
  · rw [e]; exact hp
  · exact h.mp hz q (by omega), fun _ => rfl⟩
theorem al_0 {P : Nat → Prop} {p : Nat} {z : Int} (h : z = 1 ↔ ∀ q, q < p → P q) (hz : z ≠ 1 ∨ ¬ P p) : ((0 : Int) = 1 ↔ ∀ q, q < p + 1 → P q) := ⟨fun e => by omega, fun a => by
  rcases hz with hz | hz
  · exact absurd (h.mpr (fun q hq => a q (by omega))) hz
  · exact absurd (a p (by omega)) hz⟩
