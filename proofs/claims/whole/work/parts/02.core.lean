/-! VALUES, CELLS, WORLDS: numbers are Int, addresses count from the law's first new cell -/
abbrev MV : Type := Int ⊕ (Int ⊕ (Option Nat ⊕ Nat))
abbrev vI (z : Int) : MV := .inl z
abbrev vL (z : Int) : MV := .inr (.inl z)
abbrev vQ (o : Option Nat) : MV := .inr (.inr (.inl o))
abbrev vR (a : Nat) : MV := .inr (.inr (.inl (some a)))
abbrev vN : MV := .inr (.inr (.inl none))
abbrev vS (k : Nat) : MV := .inr (.inr (.inr k))
/-- tables' numbers, arrays' classes, the first new address, the static arrays' addresses -/
abbrev Ev : Type := va_G × (Nat → ClassId) × Nat × (Nat → Nat)
def eb (E : Ev) : Nat := E.2.2.1
def cq (E : Ev) (o : Option Nat) : Option Nat := o.map (fun a => eb E + a)
def cv (E : Ev) (v : MV) : Value := match v with
  | .inl z => .int (Int32.ofInt z)
  | .inr (.inl z) => .long (Int64.ofInt z)
  | .inr (.inr (.inl none)) => .null
  | .inr (.inr (.inl (some a))) => .ref (eb E + a)
  | .inr (.inr (.inr k)) => .ref (E.2.2.2 k)
def i32 (z : Int) : Prop := -2147483648 ≤ z ∧ z < 2147483648
def i64 (z : Int) : Prop := -9223372036854775808 ≤ z ∧ z < 9223372036854775808
def okV (v : MV) : Prop := match v with
  | .inl z => i32 z
  | .inr (.inl z) => i64 z
  | .inr (.inr _) => True
abbrev MC : Type := (Bool × Nat × Nat × (Nat → Int)) ⊕ ((Nat × Nat × (Nat → Option Nat)) ⊕ (Nat × List MV))
abbrev kA (t n : Nat) (f : Nat → Int) : MC := .inl (false, t, n, f)
abbrev kZ (n : Nat) (f : Nat → Int) : MC := .inl (true, 0, n, f)
abbrev kR (y n : Nat) (g : Nat → Option Nat) : MC := .inr (.inl (y, n, g))
abbrev kO (ci : Nat) (fs : List MV) : MC := .inr (.inr (ci, fs))
abbrev MH : Type := Nat → Option MC
def ec (E : Ev) (c : MC) : va_E := match c with
  | .inl (b, _, n, f) => .inl (E.2.1 (if b then 1 else 0), n, .inl (fun j => Int32.ofInt (f j)))
  | .inr (.inl (y, n, g)) => .inl (E.2.1 (2 + y), n, .inr (.inr (.inr (.inr (fun j => cq E (g j))))))
  | .inr (.inr (ci, fs)) => .inr (ci, fs.map (cv E))
def okC (c : MC) : Prop := match c with
  | .inl (b, _, n, f) => n < 2147483648 ∧ ∀ j, j < n → i32 (f j) ∧ (b = true → f j = 0 ∨ f j = 1)
  | .inr (.inl (_, n, _)) => n < 2147483648
  | .inr (.inr (_, fs)) => ∀ v ∈ fs, okV v
def ty4 (E : Ev) : List (ClassId × FieldType) := [(E.2.1 0, .int), (E.2.1 1, .boolean), (E.2.1 2, .object "RiverRoad$Sheet"), (E.2.1 3, .object "RiverRoad$Thing")]
/-- the static arrays -/
def stN (k : Nat) : String := match k with
  | 1 => "LANDS_BY_LOOPS"
  | 2 => "UNLIKE_LOOPS"
  | _ => "FOLDS_BY_FIRST"
def stL (k : Nat) : Nat := match k with
  | 1 => 49
  | 2 => 5
  | _ => 8
def stT (k : Nat) : List Int := match k with
  | 1 => [1, 0, 0, 0, 0, 0, 0, 2, 2, 0, 0, 0, 0, 0, 8, 12, 5, 0, 0, 0, 0, 42, 84, 56, 14, 0, 0, 0, 262, 640, 580, 240, 42, 0, 0, 1828, 5236, 5894, 3344, 990, 132, 0, 13820, 45164, 60312, 42840, 17472, 4004, 429]
  | 2 => [1, 1, 2, 4, 14]
  | _ => [1, 1, 2, 4, 10, 24, 66, 174]
def stV (k j : Nat) : Int := (stT k).getD j 0
/-- classes that may be cast, methods that are declared alone, pairs that may not be cast -/
def caL : List (String × String) := [("[I", "java/lang/Cloneable"), ("RiverRoad$Nest", "RiverRoad$Arches"), ("RiverRoad$Peaks", "RiverRoad$Arches"), ("RiverRoad$Loop", "RiverRoad$Land"), ("RiverRoad$Arches", "RiverRoad$Row"), ("RiverRoad$Nest", "RiverRoad$Row"), ("RiverRoad$Peaks", "RiverRoad$Row"), ("RiverRoad$Fold", "RiverRoad$Strip"), ("RiverRoad$Peaks", "RiverRoad$Thing"), ("RiverRoad$Nest", "RiverRoad$Thing"), ("RiverRoad$Arches", "RiverRoad$Thing"), ("RiverRoad$Row", "RiverRoad$Thing"), ("RiverRoad$Loop", "RiverRoad$Thing"), ("RiverRoad$Land", "RiverRoad$Thing"), ("RiverRoad$Strip", "RiverRoad$Thing"), ("RiverRoad$Fold", "RiverRoad$Thing")]
def deL : List MethodName := [⟨"RiverRoad$Thing", "told", "()I"⟩, ⟨"RiverRoad$Thing", "askWorth", "(LRiverRoad$Trace;)I"⟩, ⟨"RiverRoad$Land", "askSize", "(LRiverRoad$Trace;)I"⟩, ⟨"RiverRoad$Thing", "askSize", "(LRiverRoad$Trace;)I"⟩, ⟨"RiverRoad$Thing", "askMark", "(LRiverRoad$Trace;)I"⟩, ⟨"RiverRoad$Arches", "askWorth", "(LRiverRoad$Trace;)I"⟩]
def ncL : List (String × String) := [("RiverRoad", "RiverRoad$Arches"), ("RiverRoad$Trace", "RiverRoad$Arches"), ("RiverRoadModel", "RiverRoad$Arches"), ("RiverRoad$Sheet", "RiverRoad$Arches"), ("RiverRoad$Row", "RiverRoad$Arches"), ("RiverRoad$Loop", "RiverRoad$Arches"), ("RiverRoad$Land", "RiverRoad$Arches"), ("RiverRoad$Strip", "RiverRoad$Arches"), ("RiverRoad$Fold", "RiverRoad$Arches"), ("RiverRoad", "RiverRoad$Land"), ("RiverRoad$Trace", "RiverRoad$Land"), ("RiverRoadModel", "RiverRoad$Land"), ("RiverRoad$Sheet", "RiverRoad$Land"), ("RiverRoad$Peaks", "RiverRoad$Land"), ("RiverRoad$Nest", "RiverRoad$Land"), ("RiverRoad$Arches", "RiverRoad$Land"), ("RiverRoad$Row", "RiverRoad$Land"), ("RiverRoad$Strip", "RiverRoad$Land"), ("RiverRoad$Fold", "RiverRoad$Land"), ("RiverRoad", "RiverRoad$Row"), ("RiverRoad$Trace", "RiverRoad$Row"), ("RiverRoadModel", "RiverRoad$Row"), ("RiverRoad$Sheet", "RiverRoad$Row"), ("RiverRoad$Loop", "RiverRoad$Row"), ("RiverRoad$Land", "RiverRoad$Row"), ("RiverRoad$Strip", "RiverRoad$Row"), ("RiverRoad$Fold", "RiverRoad$Row"), ("RiverRoad", "RiverRoad$Nest"), ("RiverRoad$Trace", "RiverRoad$Nest"), ("RiverRoadModel", "RiverRoad$Nest"), ("RiverRoad$Sheet", "RiverRoad$Nest"), ("RiverRoad$Peaks", "RiverRoad$Nest"), ("RiverRoad$Arches", "RiverRoad$Nest"), ("RiverRoad$Row", "RiverRoad$Nest"), ("RiverRoad$Loop", "RiverRoad$Nest"), ("RiverRoad$Land", "RiverRoad$Nest"), ("RiverRoad$Strip", "RiverRoad$Nest"), ("RiverRoad$Fold", "RiverRoad$Nest"), ("RiverRoad", "RiverRoad$Peaks"), ("RiverRoad$Trace", "RiverRoad$Peaks"), ("RiverRoadModel", "RiverRoad$Peaks"), ("RiverRoad$Sheet", "RiverRoad$Peaks"), ("RiverRoad$Nest", "RiverRoad$Peaks"), ("RiverRoad$Arches", "RiverRoad$Peaks"), ("RiverRoad$Row", "RiverRoad$Peaks"), ("RiverRoad$Loop", "RiverRoad$Peaks"), ("RiverRoad$Land", "RiverRoad$Peaks"), ("RiverRoad$Strip", "RiverRoad$Peaks"), ("RiverRoad$Fold", "RiverRoad$Peaks"), ("RiverRoad", "RiverRoad$Loop"), ("RiverRoad$Trace", "RiverRoad$Loop"), ("RiverRoadModel", "RiverRoad$Loop"), ("RiverRoad$Sheet", "RiverRoad$Loop"), ("RiverRoad$Peaks", "RiverRoad$Loop"), ("RiverRoad$Nest", "RiverRoad$Loop"), ("RiverRoad$Arches", "RiverRoad$Loop"), ("RiverRoad$Row", "RiverRoad$Loop"), ("RiverRoad$Land", "RiverRoad$Loop"), ("RiverRoad$Strip", "RiverRoad$Loop"), ("RiverRoad$Fold", "RiverRoad$Loop"), ("RiverRoad", "RiverRoad$Strip"), ("RiverRoad$Trace", "RiverRoad$Strip"), ("RiverRoadModel", "RiverRoad$Strip"), ("RiverRoad$Sheet", "RiverRoad$Strip"), ("RiverRoad$Peaks", "RiverRoad$Strip"), ("RiverRoad$Nest", "RiverRoad$Strip"), ("RiverRoad$Arches", "RiverRoad$Strip"), ("RiverRoad$Row", "RiverRoad$Strip"), ("RiverRoad$Loop", "RiverRoad$Strip"), ("RiverRoad$Land", "RiverRoad$Strip"), ("RiverRoad", "RiverRoad$Fold"), ("RiverRoad$Trace", "RiverRoad$Fold"), ("RiverRoadModel", "RiverRoad$Fold"), ("RiverRoad$Sheet", "RiverRoad$Fold"), ("RiverRoad$Peaks", "RiverRoad$Fold"), ("RiverRoad$Nest", "RiverRoad$Fold"), ("RiverRoad$Arches", "RiverRoad$Fold"), ("RiverRoad$Row", "RiverRoad$Fold"), ("RiverRoad$Loop", "RiverRoad$Fold"), ("RiverRoad$Land", "RiverRoad$Fold"), ("RiverRoad$Strip", "RiverRoad$Fold"), ("[LRiverRoad$Sheet;", "RiverRoad$Arches"), ("[LRiverRoad$Thing;", "RiverRoad$Arches"), ("[I", "RiverRoad$Arches"), ("[Z", "RiverRoad$Arches"), ("[LRiverRoad$Sheet;", "RiverRoad$Land"), ("[LRiverRoad$Thing;", "RiverRoad$Land"), ("[I", "RiverRoad$Land"), ("[Z", "RiverRoad$Land"), ("[LRiverRoad$Sheet;", "RiverRoad$Row"), ("[LRiverRoad$Thing;", "RiverRoad$Row"), ("[I", "RiverRoad$Row"), ("[Z", "RiverRoad$Row"), ("[LRiverRoad$Sheet;", "RiverRoad$Nest"), ("[LRiverRoad$Thing;", "RiverRoad$Nest"), ("[I", "RiverRoad$Nest"), ("[Z", "RiverRoad$Nest"), ("[LRiverRoad$Sheet;", "RiverRoad$Peaks"), ("[LRiverRoad$Thing;", "RiverRoad$Peaks"), ("[I", "RiverRoad$Peaks"), ("[Z", "RiverRoad$Peaks"), ("[LRiverRoad$Sheet;", "RiverRoad$Loop"), ("[LRiverRoad$Thing;", "RiverRoad$Loop"), ("[I", "RiverRoad$Loop"), ("[Z", "RiverRoad$Loop"), ("[LRiverRoad$Sheet;", "RiverRoad$Strip"), ("[LRiverRoad$Thing;", "RiverRoad$Strip"), ("[I", "RiverRoad$Strip"), ("[Z", "RiverRoad$Strip"), ("[LRiverRoad$Sheet;", "RiverRoad$Fold"), ("[LRiverRoad$Thing;", "RiverRoad$Fold"), ("[I", "RiverRoad$Fold"), ("[Z", "RiverRoad$Fold"), ("RiverRoad", "RiverRoad$Sheet"), ("RiverRoad$Trace", "RiverRoad$Sheet"), ("RiverRoadModel", "RiverRoad$Sheet"), ("RiverRoad$Peaks", "RiverRoad$Sheet"), ("RiverRoad$Nest", "RiverRoad$Sheet"), ("RiverRoad$Arches", "RiverRoad$Sheet"), ("RiverRoad$Row", "RiverRoad$Sheet"), ("RiverRoad$Loop", "RiverRoad$Sheet"), ("RiverRoad$Land", "RiverRoad$Sheet"), ("RiverRoad$Strip", "RiverRoad$Sheet"), ("RiverRoad$Fold", "RiverRoad$Sheet"), ("RiverRoad$Thing", "RiverRoad$Sheet"), ("RiverRoad", "RiverRoad$Thing"), ("RiverRoad$Trace", "RiverRoad$Thing"), ("RiverRoadModel", "RiverRoad$Thing"), ("RiverRoad$Sheet", "RiverRoad$Thing")]

/-- what a state says of the tables, of the casts, of the static arrays -/
def SF (E : Ev) (U : State) : Prop :=
  va_K E.1 classes (ty4 E) U ∧ (∀ w ∈ lw_tbl, goodWord w = true → w.before #[] U = true) ∧
  (∀ q ∈ caL, va_Nw (.castable q.1 q.2) U) ∧ (∀ y ∈ deL, va_Nw (.declares y) U) ∧ va_Nw (.methodLinkNest "RiverRoad" 23 ⟨"RiverRoad$Trace", "<init>", "()V"⟩ "RiverRoad") U ∧
  (∀ q ∈ ncL, va_Nc q.1 q.2 U) ∧ va_AO "RiverRoad$Sheet" U ∧ va_AO "RiverRoad$Thing" U ∧ eb E ≤ U.heap.size ∧
  ∀ k, 1 ≤ k → k ≤ 3 → va_Z "RiverRoad" (stN k) "[I" (.ref (E.2.2.2 k)) (fun q => eb E ≤ q) U U.heap ∧ va_T .int (E.2.2.2 k) (stL k) (fun j => .int (Int32.ofInt (stV k j))) (fun q => eb E ≤ q) U U.heap
theorem SF.warm {E : Ev} {s U : State} (h : SF E s) (hW : s.WarmedH U.vm) (hb : eb E ≤ U.heap.size) (hq : ∀ q : Nat, q < s.heap.size → ¬ eb E ≤ q → U.heap[q]? = s.heap[q]?) : SF E U := by
  obtain ⟨h1, h2, h3, h4, h5, h6, h7, h8, h9, h10⟩ := h
  refine ⟨va_K.moved hW.alike h1, fun w hw hg => word_at hW (good_of_word hg) (h2 w hw hg), fun q hq => (h3 q hq).warmC hW, fun y hy => (h4 y hy).warmD hW, h5.warmM hW, fun q hq => (h6 q hq).moved hW.alike, h7.moved hW.alike, h8.moved hW.alike, hb, fun k hk1 hk2 => ?_⟩
  obtain ⟨a, b⟩ := h10 k hk1 hk2
  exact ⟨(a.moved hW.alike).kept hq, (b.moved hW.alike).kept hq⟩
/-- the heap holds the cells of h, and is as large as sz says -/
def RW (E : Ev) (h : MH) (sz : Nat) (H : Heap) : Prop := H.size = eb E + sz ∧ ∀ a c, h a = some c → okC c ∧ va_at E.1 classes (eb E + a, ec E c) H
/-- the cells that a method may write: those of h, and new ones -/
def FR (E : Ev) (h : MH) (sz : Nat) : Nat → Prop := fun q => (∃ a c, h a = some c ∧ q = eb E + a) ∨ eb E + sz ≤ q
/-- locals, by their places -/
def lk : List (Option MV) → Nat → Option MV
  | [], _ => none
  | o :: _, 0 => o
  | _ :: l, n + 1 => lk l n
def LL (E : Ev) (nL : Nat) (ls : List (Option MV)) (lv : Array Slot) : Prop := lv.size = nL ∧ lv_wf lv ∧ ∀ i v, lk ls i = some v → lv[i]? = some (.val (cv E v)) ∧ okV v
/-- a method: its name, code, locals, answer -/
abbrev MD : Type := MethodName × ByteArray × Nat × Option FieldType
abbrev QT : Type := Option MV → MH → Nat → Prop
def okRet (rt : Option FieldType) (r : Option MV) : Prop := match r with
  | none => rt = none
  | some (.inl z) => rt = some .int ∨ (rt = some .boolean ∧ (z = 0 ∨ z = 1))
  | some (.inr (.inl _)) => rt = some .long
  | some (.inr (.inr _)) => (∃ t, rt = some (.array t)) ∨ ∃ c, rt = some (.object c)
def retI (r : Option MV) : Instr := match r with
  | none => .return_
  | some (.inl _) => .ireturn
  | some (.inr (.inl _)) => .lreturn
  | some (.inr (.inr _)) => .areturn
/-- the walk's own facts: of the machine, the method, its room (d frames deep, MC cells of MS slots), and what a return needs -/
def Cx (p : Program) (l : Launch) (e : Env) (R : Room) (s : State) (m : MethodId) (args : Array Value) (below : List Frame) (meth : Method) (c : Code) (Z : State → Prop) (E : Ev) (F : Nat → Prop) (cM sM : Nat) (M : MD) (d : Nat) (Q : QT) : Prop :=
  (p.tables.exec = Jvm.exec ∧ c.code = M.2.1 ∧ c.maxLocals = M.2.2.1 ∧ s.vm.findClass M.1.cls = some m.cls ∧ meth.name = M.1.name) ∧ SF E s ∧
  ((∀ q, s.heap.size ≤ q → F q) ∧ (∀ q, F q → eb E ≤ q)) ∧ (d ≤ R.frames ∧ 40 * d ≤ R.locals ∧ cM ≤ R.cells ∧ sM ≤ R.slots) ∧
  ∀ (H : Heap) (locs : List Loc) (lv : Array Slot) (pc : Nat) (r : Option MV) (h : MH) (sz : Nat), RW E h sz H → (∀ a c, h a = some c → F (eb E + a)) → va_S F s.heap H locs → (∀ v, r = some v → okV v) → okRet M.2.2.2 r → Q r h sz → decode M.2.1 pc = .ok (retI r, 1) →
    W p l e R s m args below meth c H locs cM sM Z (F0 m pc lv (r.toList.map (cv E)))
/-- THE WALK over pure worlds: from here the method comes to its end with Q; kc cells of ks slots may still be made -/
def V (M : MD) (d pc : Nat) (ls : List (Option MV)) (st : List MV) (h : MH) (sz kc ks : Nat) (Q : QT) : Prop :=
  ∀ (p : Program) (l : Launch) (e : Env) (R : Room) (s : State) (m : MethodId) (args : Array Value) (below : List Frame) (meth : Method) (c : Code) (Z : State → Prop) (E : Ev) (F : Nat → Prop) (cM sM : Nat),
    Cx p l e R s m args below meth c Z E F cM sM M d Q → ∀ (H : Heap) (locs : List Loc) (cells slots : Nat) (lv : Array Slot),
    RW E h sz H → (∀ a c, h a = some c → F (eb E + a)) → va_S F s.heap H locs → LL E M.2.2.1 ls lv → (∀ v ∈ st, okV v) → cells + kc ≤ cM → slots + ks ≤ sM →
    W p l e R s m args below meth c H locs cells slots Z (F0 m pc lv (st.map (cv E)))
/-- A CONTRACT over pure worlds: from h the method answers, and leaves a world, with Q -/
def cPre (E : Ev) (as : List MV) (h : MH) (sz : Nat) : Array Value → State → Prop := fun a U => a = (as.map (cv E)).toArray ∧ (∀ v ∈ as, okV v) ∧ SF E U ∧ RW E h sz U.heap
def cPost (E : Ev) (h : MH) (sz : Nat) (Q : QT) : Array Value → State → Outcome → State → Prop := fun _ st o t => ∃ (r : Option MV) (h2 : MH) (sz2 : Nat), o = .returned (r.map (cv E)) ∧ (∀ v, r = some v → okV v) ∧ Q r h2 sz2 ∧ RW E h2 sz2 t.heap ∧ (∀ a c, h2 a = some c → FR E h sz (eb E + a)) ∧ va_F (FR E h sz) st t
def Ct (M : MD) (d mc ms : Nat) (as : List MV) (h : MH) (sz : Nat) (Q : QT) : Prop :=
  ∀ (l : Launch) (E : Ev), Met l M.1 [.code M.1 M.2.1 M.2.2.1 M.2.2.2] ({ frames := d, cells := mc, slots := ms, locals := 40 * d }) (cPre E as h sz) (cPost E h sz Q) mc ms (FR E h sz)
/-- locals at a method's entry -/
def lsOf : List MV → List (Option MV)
  | [] => []
  | .inr (.inl z) :: t => some (vL z) :: none :: lsOf t
  | v :: t => some v :: lsOf t
