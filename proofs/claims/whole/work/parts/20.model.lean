/-! THE REFERENCE'S WORLD, printed by wip/whole/gen/model.py: σ k i is place i of the array that field k holds; σ k 0 is a plain field k -/
abbrev SM : Type := Nat → Nat → Int
def sset (σ : SM) (k : Nat) (f : Nat → Int) : SM := fun j => if j = k then f else σ j
theorem sset_n {σ : SM} {k j : Nat} {f : Nat → Int} (h : j ≠ k) : sset σ k f j = σ j := by
  unfold sset; rw [if_neg h]
theorem sset_e {σ : SM} {k : Nat} {f : Nat → Int} : sset σ k f k = f := by unfold sset; rw [if_pos rfl]
theorem sset_tw {σ : SM} {k : Nat} {f g : Nat → Int} : sset (sset σ k f) k g = sset σ k g := by
  funext j; unfold sset; split <;> rfl
theorem sset_sw {σ : SM} {k j : Nat} {f g f2 : Nat → Int} (h : j ≠ k) : sset (sset (sset σ k f) j g) k f2 = sset (sset σ k f2) j g := by
  funext i; unfold sset; by_cases h1 : i = k
  · subst h1; rw [if_pos rfl, if_neg (Ne.symm h), if_pos rfl]
  · rw [if_neg h1, if_neg h1]; split <;> rfl
theorem sset_id {σ : SM} {k : Nat} : sset σ k (σ k) = σ := by
  funext j; unfold sset; split
  · rename_i e; rw [e]
  · rfl
abbrev mfs (σ : SM) : List MV := [vR 9, vR 10, vR 11, vR 12, vR 13, vR 14, vR 15, vR 16, vR 17, vR 18, vI (σ 10 0), vR 19, vI (σ 12 0), vR 20, vR 21, vR 22, vI (σ 16 0), vI (σ 17 0), vR 23, vR 24, vI (σ 20 0), vR 25, vR 26, vI (σ 23 0), vR 27, vR 28, vR 29, vR 30, vR 31, vR 32, vR 33, vR 34, vR 35, vR 36]
abbrev mcells (σ : SM) : List MC := [kO 11 (mfs σ), kA 0 8 (σ 0), kA 0 8 (σ 1), kA 0 800 (σ 2), kA 0 100 (σ 3), kA 0 11 (σ 4), kA 0 11 (σ 5), kA 0 440 (σ 6), kA 0 440 (σ 7), kA 0 440 (σ 8), kA 0 440 (σ 9), kA 0 16 (σ 11), kA 0 40 (σ 13), kA 0 40 (σ 14), kA 0 20 (σ 15), kZ 20 (σ 18), kA 0 650 (σ 19), kA 0 14 (σ 21), kA 0 6006 (σ 22), kA 0 64 (σ 24), kZ 8 (σ 25), kA 0 6 (σ 26), kA 0 9 (σ 27), kA 0 14 (σ 28), kZ 1764 (σ 29), kA 0 42 (σ 30), kA 0 42 (σ 31), kA 0 1764 (σ 32), kA 0 8 (σ 33)]
def hM (σ : SM) : MH := fun a => if a < 8 then none else (mcells σ)[a - 8]?
theorem hM_o (σ : SM) : hM σ 8 = some (kO 11 (mfs σ)) := rfl
theorem hM_set {σ τ : SM} {i : Nat} {c : MC} (hi : i < 29) (he : mcells τ = (mcells σ).set i c) : hset (hM σ) (8 + i) c = hM τ := by
  funext a
  unfold hset hM
  rw [he]
  by_cases h1 : a = 8 + i
  · subst h1
    rw [if_pos rfl, if_neg (by omega), show 8 + i - 8 = i by omega, List.getElem?_set, if_pos rfl, if_pos (by show i < 29; exact hi)]
  · rw [if_neg h1]
    split
    · rfl
    · rw [List.getElem?_set, if_neg (by omega)]
/-- an array of ints of the reference: field k, at address a, of L places -/
def Arr (k a L : Nat) : Prop := ∀ σ : SM, hM σ a = some (kA 0 L (σ k)) ∧ ∀ f : Nat → Int, hset (hM σ) a (kA 0 L f) = hM (sset σ k f)
def Arz (k a L : Nat) : Prop := ∀ σ : SM, hM σ a = some (kZ L (σ k)) ∧ ∀ f : Nat → Int, hset (hM σ) a (kZ L f) = hM (sset σ k f)
theorem ar_lane : Arr 0 9 8 := fun σ => ⟨rfl, fun f => hM_set (i := 1) (by decide) rfl⟩
theorem ar_size : Arr 1 10 8 := fun σ => ⟨rfl, fun f => hM_set (i := 2) (by decide) rfl⟩
theorem ar_item : Arr 2 11 800 := fun σ => ⟨rfl, fun f => hM_set (i := 3) (by decide) rfl⟩
theorem ar_moving : Arr 3 12 100 := fun σ => ⟨rfl, fun f => hM_set (i := 4) (by decide) rfl⟩
theorem ar_kinds : Arr 4 13 11 := fun σ => ⟨rfl, fun f => hM_set (i := 5) (by decide) rfl⟩
theorem ar_many : Arr 5 14 11 := fun σ => ⟨rfl, fun f => hM_set (i := 6) (by decide) rfl⟩
theorem ar_one : Arr 6 15 440 := fun σ => ⟨rfl, fun f => hM_set (i := 7) (by decide) rfl⟩
theorem ar_two : Arr 7 16 440 := fun σ => ⟨rfl, fun f => hM_set (i := 8) (by decide) rfl⟩
theorem ar_over : Arr 8 17 440 := fun σ => ⟨rfl, fun f => hM_set (i := 9) (by decide) rfl⟩
theorem ar_under : Arr 9 18 440 := fun σ => ⟨rfl, fun f => hM_set (i := 10) (by decide) rfl⟩
theorem pu_status (σ : SM) (x : Int) : hset (hM σ) 8 (kO 11 ((mfs σ).set 10 (vI x))) = hM (sset σ 10 (fun _ => x)) := hM_set (i := 0) (by decide) rfl
theorem ar_trace : Arr 11 19 16 := fun σ => ⟨rfl, fun f => hM_set (i := 11) (by decide) rfl⟩
theorem pu_traced (σ : SM) (x : Int) : hset (hM σ) 8 (kO 11 ((mfs σ).set 12 (vI x))) = hM (sset σ 12 (fun _ => x)) := hM_set (i := 0) (by decide) rfl
theorem ar_open : Arr 13 20 40 := fun σ => ⟨rfl, fun f => hM_set (i := 12) (by decide) rfl⟩
theorem ar_loopOf : Arr 14 21 40 := fun σ => ⟨rfl, fun f => hM_set (i := 13) (by decide) rfl⟩
theorem ar_stands : Arr 15 22 20 := fun σ => ⟨rfl, fun f => hM_set (i := 14) (by decide) rfl⟩
theorem pu_clashOne (σ : SM) (x : Int) : hset (hM σ) 8 (kO 11 ((mfs σ).set 16 (vI x))) = hM (sset σ 16 (fun _ => x)) := hM_set (i := 0) (by decide) rfl
theorem pu_clashTwo (σ : SM) (x : Int) : hset (hM σ) 8 (kO 11 ((mfs σ).set 17 (vI x))) = hM (sset σ 17 (fun _ => x)) := hM_set (i := 0) (by decide) rfl
theorem ar_met : Arz 18 23 20 := fun σ => ⟨rfl, fun f => hM_set (i := 15) (by decide) rfl⟩
theorem ar_ends : Arr 19 24 650 := fun σ => ⟨rfl, fun f => hM_set (i := 16) (by decide) rfl⟩
theorem pu_isCounted (σ : SM) (x : Int) : hset (hM σ) 8 (kO 11 ((mfs σ).set 20 (vI x))) = hM (sset σ 20 (fun _ => x)) := hM_set (i := 0) (by decide) rfl
theorem ar_allSigns : Arr 21 25 14 := fun σ => ⟨rfl, fun f => hM_set (i := 17) (by decide) rfl⟩
theorem ar_allJoined : Arr 22 26 6006 := fun σ => ⟨rfl, fun f => hM_set (i := 18) (by decide) rfl⟩
theorem pu_allOf (σ : SM) (x : Int) : hset (hM σ) 8 (kO 11 ((mfs σ).set 23 (vI x))) = hM (sset σ 23 (fun _ => x)) := hM_set (i := 0) (by decide) rfl
theorem ar_landCount : Arr 24 27 64 := fun σ => ⟨rfl, fun f => hM_set (i := 19) (by decide) rfl⟩
theorem ar_isLandCounted : Arz 25 28 8 := fun σ => ⟨rfl, fun f => hM_set (i := 20) (by decide) rfl⟩
theorem ar_unlikes : Arr 26 29 6 := fun σ => ⟨rfl, fun f => hM_set (i := 21) (by decide) rfl⟩
theorem ar_foldCount : Arr 27 30 9 := fun σ => ⟨rfl, fun f => hM_set (i := 22) (by decide) rfl⟩
theorem ar_open2 : Arr 28 31 14 := fun σ => ⟨rfl, fun f => hM_set (i := 23) (by decide) rfl⟩
theorem ar_isDone : Arz 29 32 1764 := fun σ => ⟨rfl, fun f => hM_set (i := 24) (by decide) rfl⟩
theorem ar_turned : Arr 30 33 42 := fun σ => ⟨rfl, fun f => hM_set (i := 25) (by decide) rfl⟩
theorem ar_mirrored : Arr 31 34 42 := fun σ => ⟨rfl, fun f => hM_set (i := 26) (by decide) rfl⟩
theorem ar_toDo : Arr 32 35 1764 := fun σ => ⟨rfl, fun f => hM_set (i := 27) (by decide) rfl⟩
theorem ar_order : Arr 33 36 8 := fun σ => ⟨rfl, fun f => hM_set (i := 28) (by decide) rfl⟩
