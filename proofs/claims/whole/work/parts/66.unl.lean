/-! UNLIKE in the kernel, printed by wip/whole/gen/unl.py -/
def PPn (n : Nat) : Nat := match n with
  | 1 => 1
  | 2 => 9852723696501027
  | 3 => 6621983536159340333540557390638216546710918153298322245
  | 4 => 5946919957046475277472087647085835693572232127440666981738162493211208464409795410491762647640741820530109903915499145875043142595031433754130679833361119130253739367
  | _ => 28850292814970325491482487034389475472521766347204189296768579348574221769439461835859102413743555807241609395125655895853861278636309375851801156488017007889357462115423992527743873382343237561207713864956470297854481854516584972558253716379092433441234453776300978503414852834450150039913950099575542378843751149335929618832104839650408931975958266230137352421057451009328631273399970822242046094519673388780355920105729925771618184428195042344214757660319511556534958203864044907103222265907894005622665
def TTn (n : Nat) : Nat := match n with
  | 1 => 0
  | 2 => 1
  | 3 => 16789762
  | 4 => 1530195470179030296985987
  | _ => 2180737555517849186821298011453875688233496574529668274198656349555794424324
def MMn (n : Nat) : Nat := match n with
  | 1 => 0
  | 2 => 64
  | 3 => 67645504
  | 4 => 3967606477331147014815808
  | _ => 4684915001871687474283393914016749766852427036342611987663519624610717388864
noncomputable def bg (F i : Nat) : Nat := Nat.mod (Nat.shiftRight F (Nat.mul 40 i)) 1099511627776
noncomputable def d6 (F i : Nat) : Nat := Nat.mod (Nat.shiftRight F (Nat.mul 6 i)) 64
def ymN (n x : Nat) : Nat := if x = 0 then 2 * n - 1 else x - 1
/-- one more to go through, if it wasn't met -/
noncomputable def puD (D t : Nat) : Nat := cond (Nat.beq (Nat.mod (Nat.shiftRight D t) 2) 1) D (Nat.lor D (Nat.shiftLeft 1 t))
noncomputable def puS (D t : Nat) (S : List Nat) : List Nat := cond (Nat.beq (Nat.mod (Nat.shiftRight D t) 2) 1) S (t :: S)
noncomputable def flK (A T M : Nat) (f : Nat) : Nat → List Nat → Option Nat := Nat.rec (motive := fun _ => Nat → List Nat → Option Nat) (fun _ _ => none) (fun _ ih D S => List.rec (motive := fun _ => Option Nat) (some D) (fun t R _ =>
  (fun t1 t2 t3 => ih (puD (puD (puD D t1) t2) t3) (puS (puD (puD D t1) t2) t3 (puS (puD D t1) t2 (puS D t1 R))))
    (Nat.add (Nat.mul A (d6 T (Nat.div t A))) (d6 T (Nat.mod t A))) (Nat.add (Nat.mul A (d6 M (Nat.div t A))) (d6 M (Nat.mod t A))) (Nat.add (Nat.mul A (Nat.mod t A)) (Nat.div t A))) S) f
noncomputable def unK (n A P T M : Nat) (m : Nat) : Nat → Nat → Nat → Option Nat := Nat.rec (motive := fun _ => Nat → Nat → Nat → Option Nat) (fun _ _ c => some c) (fun _ ih k D c => cond (Nat.beq (Nat.mod (Nat.shiftRight D k) 2) 1) (ih (Nat.succ k) D c) (cond (Nat.beq (klp n (bg P (Nat.div k A)) (bg P (Nat.mod k A))) 1) (Option.rec (motive := fun _ => Option Nat) none (fun D2 => ih (Nat.succ k) D2 (Nat.succ c)) (flK A T M 100 (Nat.lor D (Nat.shiftLeft 1 k)) [k])) (ih (Nat.succ k) D c))) m
theorem un_1 : unK 1 1 (PPn 1) (TTn 1) (MMn 1) 1 0 0 0 = some 1 := by decide +kernel
theorem up_1 : ∀ i : Fin 1, (PL 1)[i.val]? = some (bg (PPn 1) i.val) ∧ d6 (TTn 1) i.val < 1 ∧ d6 (MMn 1) i.val < 1 ∧ ∀ q : Fin 2, (q.val < ymN 1 (dg (bg (PPn 1) i.val) (sq 1 q.val)) ↔ q.val < dg (bg (PPn 1) (d6 (TTn 1) i.val)) q.val) ∧ (¬ (1 - q.val < dg (bg (PPn 1) i.val) (1 - q.val)) ↔ q.val < dg (bg (PPn 1) (d6 (MMn 1) i.val)) q.val) := by decide +kernel
theorem un_2 : unK 2 2 (PPn 2) (TTn 2) (MMn 2) 4 0 0 0 = some 1 := by decide +kernel
theorem up_2 : ∀ i : Fin 2, (PL 2)[i.val]? = some (bg (PPn 2) i.val) ∧ d6 (TTn 2) i.val < 2 ∧ d6 (MMn 2) i.val < 2 ∧ ∀ q : Fin 4, (q.val < ymN 2 (dg (bg (PPn 2) i.val) (sq 2 q.val)) ↔ q.val < dg (bg (PPn 2) (d6 (TTn 2) i.val)) q.val) ∧ (¬ (3 - q.val < dg (bg (PPn 2) i.val) (3 - q.val)) ↔ q.val < dg (bg (PPn 2) (d6 (MMn 2) i.val)) q.val) := by decide +kernel
theorem un_3 : unK 3 5 (PPn 3) (TTn 3) (MMn 3) 25 0 0 0 = some 2 := by decide +kernel
theorem up_3 : ∀ i : Fin 5, (PL 3)[i.val]? = some (bg (PPn 3) i.val) ∧ d6 (TTn 3) i.val < 5 ∧ d6 (MMn 3) i.val < 5 ∧ ∀ q : Fin 6, (q.val < ymN 3 (dg (bg (PPn 3) i.val) (sq 3 q.val)) ↔ q.val < dg (bg (PPn 3) (d6 (TTn 3) i.val)) q.val) ∧ (¬ (5 - q.val < dg (bg (PPn 3) i.val) (5 - q.val)) ↔ q.val < dg (bg (PPn 3) (d6 (MMn 3) i.val)) q.val) := by decide +kernel
theorem un_4 : unK 4 14 (PPn 4) (TTn 4) (MMn 4) 196 0 0 0 = some 4 := by decide +kernel
theorem up_4 : ∀ i : Fin 14, (PL 4)[i.val]? = some (bg (PPn 4) i.val) ∧ d6 (TTn 4) i.val < 14 ∧ d6 (MMn 4) i.val < 14 ∧ ∀ q : Fin 8, (q.val < ymN 4 (dg (bg (PPn 4) i.val) (sq 4 q.val)) ↔ q.val < dg (bg (PPn 4) (d6 (TTn 4) i.val)) q.val) ∧ (¬ (7 - q.val < dg (bg (PPn 4) i.val) (7 - q.val)) ↔ q.val < dg (bg (PPn 4) (d6 (MMn 4) i.val)) q.val) := by decide +kernel
theorem un_5 : unK 5 42 (PPn 5) (TTn 5) (MMn 5) 1764 0 0 0 = some 14 := by decide +kernel
theorem up_5 : ∀ i : Fin 42, (PL 5)[i.val]? = some (bg (PPn 5) i.val) ∧ d6 (TTn 5) i.val < 42 ∧ d6 (MMn 5) i.val < 42 ∧ ∀ q : Fin 10, (q.val < ymN 5 (dg (bg (PPn 5) i.val) (sq 5 q.val)) ↔ q.val < dg (bg (PPn 5) (d6 (TTn 5) i.val)) q.val) ∧ (¬ (9 - q.val < dg (bg (PPn 5) i.val) (9 - q.val)) ↔ q.val < dg (bg (PPn 5) (d6 (MMn 5) i.val)) q.val) := by decide +kernel
