/-! FOLDS as the class seeks them, in the kernel, printed by wip/whole/gen/fd.py -/
/-- the stamp at the other end of a joint, or 15 -/
noncomputable def mtK (n s d : Nat) : Nat := cond (Nat.beq (Nat.mod s 2) d) (cond (Nat.ble (Nat.add s 2) n) (Nat.succ s) 15) (cond (Nat.beq s 0) 15 (Nat.sub s 1))
noncomputable def okK (n k F P d m b : Nat) : Bool := cond (Nat.beq (mtK n (dg F b) d) 15) true (cond (ltB (dg P m) (dg P (mtK n (dg F b) d))) (Nat.ble (dg P (mtK n (dg F b) d)) k) false)
noncomputable def bwK (n k F P d m : Nat) (c : Nat) : Bool := Nat.rec (motive := fun _ => Bool) true (fun c ih => cond (okK n k F P d m (Nat.sub k (Nat.succ c))) ih false) c
noncomputable def clK (n k F P s d : Nat) : Bool := cond (Nat.beq (mtK n s d) 15) true (cond (Nat.beq (dg P (mtK n s d)) 0) true (bwK n k F P d (mtK n s d) (Nat.sub k (dg P (mtK n s d)))))
noncomputable def itK (n k F P : Nat) (D : Nat → Nat → List Nat) (j : Nat) : List Nat := Nat.rec (motive := fun _ => List Nat) [] (fun j ih => cond (Nat.beq (dg P (Nat.sub n (Nat.succ j))) 0) (cond (clK n k F P (Nat.sub n (Nat.succ j)) 0) (cond (clK n k F P (Nat.sub n (Nat.succ j)) 1) (D (Nat.lor F (Nat.shiftLeft (Nat.sub n (Nat.succ j)) (Nat.mul 4 k))) (Nat.lor P (Nat.shiftLeft (Nat.succ k) (Nat.mul 4 (Nat.sub n (Nat.succ j))))) ++ ih) ih) ih) ih) j
/-- the folds that begin with the k stamps of F; P tells their places, one more each; r stamps are to come -/
noncomputable def dfK (n : Nat) (r : Nat) : Nat → Nat → Nat → List Nat := Nat.rec (motive := fun _ => Nat → Nat → Nat → List Nat) (fun _ F _ => [F]) (fun _ ih k F P => itK n k F P (ih (Nat.succ k)) n) r
noncomputable def DF (n f : Nat) : List Nat := dfK n (Nat.sub n 1) 1 f (Nat.shiftLeft 1 (Nat.mul 4 f))
noncomputable def catF (n : Nat) (m : Nat) : List Nat := Nat.rec (motive := fun _ => List Nat) [] (fun m ih => ih ++ DF n m) m
theorem cat_1 : catF 1 1 = FL1 := by decide +kernel
theorem cal_1 : ∀ f : Fin 1, (DF 1 f.val).length = 1 := by decide +kernel
theorem cat_2 : catF 2 2 = FL2 := by decide +kernel
theorem cal_2 : ∀ f : Fin 2, (DF 2 f.val).length = 1 := by decide +kernel
theorem cat_3 : catF 3 3 = FL3 := by decide +kernel
theorem cal_3 : ∀ f : Fin 3, (DF 3 f.val).length = 2 := by decide +kernel
theorem cat_4 : catF 4 4 = FL4 := by decide +kernel
theorem cal_4 : ∀ f : Fin 4, (DF 4 f.val).length = 4 := by decide +kernel
theorem cat_5 : catF 5 5 = FL5 := by decide +kernel
theorem cal_5 : ∀ f : Fin 5, (DF 5 f.val).length = 10 := by decide +kernel
theorem cat_6 : catF 6 6 = FL6 := by decide +kernel
theorem cal_6 : ∀ f : Fin 6, (DF 6 f.val).length = 24 := by decide +kernel
theorem cat_7 : catF 7 7 = FL7 := by decide +kernel
theorem cal_7 : ∀ f : Fin 7, (DF 7 f.val).length = 66 := by decide +kernel
theorem cat_8 : catF 8 8 = FL8 := by decide +kernel
theorem cal_8 : ∀ f : Fin 8, (DF 8 f.val).length = 174 := by decide +kernel
