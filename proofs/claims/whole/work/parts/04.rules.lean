/-! RULES: numbers -/
theorem i32_to {z : Int} (h : i32 z) : (Int32.ofInt z).toInt = z := Int32.toInt_ofInt_of_le h.1 h.2
theorem i64_to {z : Int} (h : i64 z) : (Int64.ofInt z).toInt = z := Int64.toInt_ofInt_of_le h.1 h.2
theorem i32_eq {x y : Int} (hx : i32 x) (hy : i32 y) : Int32.ofInt x = Int32.ofInt y ↔ x = y := by rw [← Int32.toInt_inj, i32_to hx, i32_to hy]
theorem i32_lt {x y : Int} (hx : i32 x) (hy : i32 y) : Int32.ofInt x < Int32.ofInt y ↔ x < y := by rw [Int32.lt_iff_toInt_lt, i32_to hx, i32_to hy]
theorem i32_le {x y : Int} (hx : i32 x) (hy : i32 y) : Int32.ofInt x ≤ Int32.ofInt y ↔ x ≤ y := by rw [Int32.le_iff_toInt_le, i32_to hx, i32_to hy]
theorem i64_eq {x y : Int} (hx : i64 x) (hy : i64 y) : Int64.ofInt x = Int64.ofInt y ↔ x = y := by rw [← Int64.toInt_inj, i64_to hx, i64_to hy]
theorem i64_lt {x y : Int} (hx : i64 x) (hy : i64 y) : Int64.ofInt x < Int64.ofInt y ↔ x < y := by rw [Int64.lt_iff_toInt_lt, i64_to hx, i64_to hy]
theorem i32_0 : i32 0 := by unfold i32; omega
theorem i32_cl {z : Int} (h : i32 z) : (Int32.ofInt z).toNatClampNeg = z.toNat := Int32.toNatClampNeg_ofInt_of_le h.1 h.2
theorem i32_in {z : Int} {n : Nat} (h : i32 z) (h0 : 0 ≤ z) (h1 : z < n) : ¬ (Int32.ofInt z < 0 ∨ n ≤ (Int32.ofInt z).toNatClampNeg) := by
  rw [show (0 : Int32) = Int32.ofInt 0 from rfl, i32_lt h i32_0, i32_cl h]; omega
theorem i32_i64 {z : Int} (h : i32 z) : i64 z := by unfold i32 at h; unfold i64; omega
theorem i32_wide {z : Int} (h : i32 z) : (Int32.ofInt z).toInt64 = Int64.ofInt z := by
  rw [← Int64.toInt_inj, Int32.toInt_toInt64, i32_to h, i64_to (i32_i64 h)]
theorem i64_nar {z : Int} : (Int64.ofInt z).toInt32 = Int32.ofInt z := Int64.toInt32_ofInt
theorem i32_div {x y : Int} (hx : i32 x) (hy : i32 y) (h0 : 0 ≤ x) (h1 : 0 < y) : Int32.ofInt x / Int32.ofInt y = Int32.ofInt (x / y) := by
  have hd : i32 (x / y) := by
    have a := Int.ediv_nonneg h0 (Int.le_of_lt h1)
    have b := Int.ediv_le_self y h0
    unfold i32 at *; omega
  have hne : Int32.ofInt y ≠ -1 := by
    intro q
    have : Int32.ofInt y = Int32.ofInt (-1) := q
    rw [i32_eq hy (by unfold i32; omega)] at this; omega
  rw [← Int32.toInt_inj, Int32.toInt_div_of_ne_right _ _ hne, i32_to hx, i32_to hy, i32_to hd, Int.tdiv_eq_ediv_of_nonneg h0]
theorem i32_rem {x y : Int} (hx : i32 x) (hy : i32 y) (h0 : 0 ≤ x) (h1 : 0 < y) : Int32.ofInt x - Int32.ofInt x / Int32.ofInt y * Int32.ofInt y = Int32.ofInt (x % y) := by
  rw [i32_div hx hy h0 h1, ← Int32.ofInt_mul, ← Int32.ofInt_sub]
  congr 1
  have := Int.mul_ediv_add_emod x y
  rw [Int.mul_comm]; omega
theorem bm_rng (x : Int) (m : Nat) (hm : 0 < m) : -(m : Int) ≤ 2 * x.bmod m ∧ 2 * x.bmod m < m := by
  have h1 := Int.le_bmod (x := x) hm
  have h2 := Int.bmod_lt (x := x) hm
  omega
theorem i32_bmod8 (x : Int) : i32 (x.bmod 256) := by have := bm_rng x 256 (by omega); unfold i32; omega
theorem i32_bmod16 (x : Int) : i32 (x.bmod 65536) := by have := bm_rng x 65536 (by omega); unfold i32; omega
theorem i32_b {x : Int} : (Int32.ofInt x).toInt8.toInt32 = Int32.ofInt (x.bmod 256) := by
  rw [← Int32.toInt_inj, Int8.toInt_toInt32, Int32.toInt8_ofInt, i32_to (i32_bmod8 x), Int8.toInt_ofInt]
theorem i32_s {x : Int} : (Int32.ofInt x).toInt16.toInt32 = Int32.ofInt (x.bmod 65536) := by
  rw [← Int32.toInt_inj, Int16.toInt_toInt32, Int32.toInt16_ofInt, i32_to (i32_bmod16 x), Int16.toInt_ofInt]
def lc (x y : Int) : Int := if y < x then 1 else if x = y then 0 else -1
theorem lc_rng (x y : Int) : i32 (lc x y) := by unfold lc i32; split <;> (try split) <;> omega
theorem lc_ok {x y : Int} (hx : i64 x) (hy : i64 y) : lg_cmp (Int64.ofInt x) (Int64.ofInt y) = Int32.ofInt (lc x y) := by
  unfold lg_cmp lc
  simp only [gt_iff_lt, i64_lt hy hx, i64_eq hx hy]
  split
  · rfl
  · split <;> rfl
/-! RULES: the stack alone -/
def StepS (M : MD) (pc pc2 : Nat) (st st2 : List MV) : Prop := ∀ (p : Program) (l : Launch) (e : Env) (R : Room) (s : State) (m : MethodId) (args : Array Value) (below : List Frame) (meth : Method) (c : Code) (Z : State → Prop) (E : Ev) (H : Heap) (locs : List Loc) (cells slots : Nat) (lv : Array Slot),
  p.tables.exec = Jvm.exec → c.code = M.2.1 → (∀ v ∈ st, okV v) → W p l e R s m args below meth c H locs cells slots Z (F0 m pc2 lv (st2.map (cv E))) → W p l e R s m args below meth c H locs cells slots Z (F0 m pc lv (st.map (cv E)))
theorem V.st {M : MD} {d pc pc2 : Nat} {ls : List (Option MV)} {st st2 : List MV} {h : MH} {sz kc ks : Nat} {Q : QT} (hs : StepS M pc pc2 st st2) (hok : (∀ v ∈ st, okV v) → ∀ v ∈ st2, okV v) (k : V M d pc2 ls st2 h sz kc ks Q) : V M d pc ls st h sz kc ks Q := by
  intro p l e R s m args below meth c Z E F cM sM C H locs cells slots lv hR hF hS hL hst h1 h2
  exact hs p l e R s m args below meth c Z E H locs cells slots lv C.1.1 C.1.2.1 hst (k p l e R s m args below meth c Z E F cM sM C H locs cells slots lv hR hF hS hL (hok hst) h1 h2)
theorem ok1 {v w : MV} {st : List MV} (hw : okV v → okV w) (h : ∀ u ∈ v :: st, okV u) : ∀ u ∈ w :: st, okV u := by
  intro u hu
  rcases List.mem_cons.mp hu with rfl | hu
  · exact hw (h _ List.mem_cons_self)
  · exact h _ (List.mem_cons_of_mem _ hu)
theorem okp {v : MV} {st : List MV} (hw : okV v) (h : ∀ u ∈ st, okV u) : ∀ u ∈ v :: st, okV u := by
  intro u hu
  rcases List.mem_cons.mp hu with rfl | hu
  · exact hw
  · exact h _ hu
theorem okt {v : MV} {st : List MV} (h : ∀ u ∈ v :: st, okV u) : ∀ u ∈ st, okV u := fun u hu => h _ (List.mem_cons_of_mem _ hu)
theorem okh {v : MV} {st : List MV} (h : ∀ u ∈ v :: st, okV u) : okV v := h _ List.mem_cons_self

theorem V.iadd {M : MD} {d pc : Nat} {ls : List (Option MV)} {st : List MV} {h : MH} {sz kc ks : Nat} {Q : QT} {x y : Int} (hd : decode M.2.1 pc = .ok (.iadd, 1)) (hz : i32 (x + y)) (k : V M d (pc + 1) ls (vI (x + y) :: st) h sz kc ks Q) : V M d pc ls (vI y :: vI x :: st) h sz kc ks Q := by
  refine V.st (pc2 := (pc + 1)) (st2 := vI (x + y) :: st) ?_ ?_ k
  · intro p l e R s m args below meth c Z E H locs cells slots lv hx hb hst k
    refine lv_iadd hx hb hd ?_
    rw [← Int32.ofInt_add]; exact k
  · intro hst
    exact okp hz (okt (okt hst))
theorem V.isub {M : MD} {d pc : Nat} {ls : List (Option MV)} {st : List MV} {h : MH} {sz kc ks : Nat} {Q : QT} {x y : Int} (hd : decode M.2.1 pc = .ok (.isub, 1)) (hz : i32 (x - y)) (k : V M d (pc + 1) ls (vI (x - y) :: st) h sz kc ks Q) : V M d pc ls (vI y :: vI x :: st) h sz kc ks Q := by
  refine V.st (pc2 := (pc + 1)) (st2 := vI (x - y) :: st) ?_ ?_ k
  · intro p l e R s m args below meth c Z E H locs cells slots lv hx hb hst k
    refine lv_isub hx hb hd ?_
    rw [← Int32.ofInt_sub]; exact k
  · intro hst
    exact okp hz (okt (okt hst))
theorem V.imul {M : MD} {d pc : Nat} {ls : List (Option MV)} {st : List MV} {h : MH} {sz kc ks : Nat} {Q : QT} {x y : Int} (hd : decode M.2.1 pc = .ok (.imul, 1)) (hz : i32 (x * y)) (k : V M d (pc + 1) ls (vI (x * y) :: st) h sz kc ks Q) : V M d pc ls (vI y :: vI x :: st) h sz kc ks Q := by
  refine V.st (pc2 := (pc + 1)) (st2 := vI (x * y) :: st) ?_ ?_ k
  · intro p l e R s m args below meth c Z E H locs cells slots lv hx hb hst k
    refine lv_imul hx hb hd ?_
    rw [← Int32.ofInt_mul]; exact k
  · intro hst
    exact okp hz (okt (okt hst))
theorem V.ladd {M : MD} {d pc : Nat} {ls : List (Option MV)} {st : List MV} {h : MH} {sz kc ks : Nat} {Q : QT} {x y : Int} (hd : decode M.2.1 pc = .ok (.ladd, 1)) (hz : i64 (x + y)) (k : V M d (pc + 1) ls (vL (x + y) :: st) h sz kc ks Q) : V M d pc ls (vL y :: vL x :: st) h sz kc ks Q := by
  refine V.st (pc2 := (pc + 1)) (st2 := vL (x + y) :: st) ?_ ?_ k
  · intro p l e R s m args below meth c Z E H locs cells slots lv hx hb hst k
    refine lv_ladd hx hb hd ?_
    rw [← Int64.ofInt_add]; exact k
  · intro hst
    exact okp hz (okt (okt hst))
theorem V.lsub {M : MD} {d pc : Nat} {ls : List (Option MV)} {st : List MV} {h : MH} {sz kc ks : Nat} {Q : QT} {x y : Int} (hd : decode M.2.1 pc = .ok (.lsub, 1)) (hz : i64 (x - y)) (k : V M d (pc + 1) ls (vL (x - y) :: st) h sz kc ks Q) : V M d pc ls (vL y :: vL x :: st) h sz kc ks Q := by
  refine V.st (pc2 := (pc + 1)) (st2 := vL (x - y) :: st) ?_ ?_ k
  · intro p l e R s m args below meth c Z E H locs cells slots lv hx hb hst k
    refine lv_lsub hx hb hd ?_
    rw [← Int64.ofInt_sub]; exact k
  · intro hst
    exact okp hz (okt (okt hst))
theorem V.lmul {M : MD} {d pc : Nat} {ls : List (Option MV)} {st : List MV} {h : MH} {sz kc ks : Nat} {Q : QT} {x y : Int} (hd : decode M.2.1 pc = .ok (.lmul, 1)) (hz : i64 (x * y)) (k : V M d (pc + 1) ls (vL (x * y) :: st) h sz kc ks Q) : V M d pc ls (vL y :: vL x :: st) h sz kc ks Q := by
  refine V.st (pc2 := (pc + 1)) (st2 := vL (x * y) :: st) ?_ ?_ k
  · intro p l e R s m args below meth c Z E H locs cells slots lv hx hb hst k
    refine lv_lmul hx hb hd ?_
    rw [← Int64.ofInt_mul]; exact k
  · intro hst
    exact okp hz (okt (okt hst))
theorem V.ineg {M : MD} {d pc : Nat} {ls : List (Option MV)} {st : List MV} {h : MH} {sz kc ks : Nat} {Q : QT} {x : Int} (hd : decode M.2.1 pc = .ok (.ineg, 1)) (hz : i32 (-x)) (k : V M d (pc + 1) ls (vI (-x) :: st) h sz kc ks Q) : V M d pc ls (vI x :: st) h sz kc ks Q := by
  refine V.st (pc2 := (pc + 1)) (st2 := vI (-x) :: st) ?_ ?_ k
  · intro p l e R s m args below meth c Z E H locs cells slots lv hx hb hst k
    refine lv_ineg hx hb hd ?_
    rw [← Int32.ofInt_neg]; exact k
  · intro hst
    exact okp hz (okt hst)
theorem V.idiv {M : MD} {d pc : Nat} {ls : List (Option MV)} {st : List MV} {h : MH} {sz kc ks : Nat} {Q : QT} {x y : Int} (hd : decode M.2.1 pc = .ok (.idiv, 1)) (h0 : 0 ≤ x) (h1 : 0 < y) (k : V M d (pc + 1) ls (vI (x / y) :: st) h sz kc ks Q) : V M d pc ls (vI y :: vI x :: st) h sz kc ks Q := by
  refine V.st (pc2 := (pc + 1)) (st2 := vI (x / y) :: st) ?_ ?_ k
  · intro p l e R s m args below meth c Z E H locs cells slots lv hx hb hst k
    have hy : i32 y := okh hst
    have hxx : i32 x := okh (okt hst)
    refine lv_idiv hx hb hd ?_ ?_
    · intro q
      have q2 : Int32.ofInt y = Int32.ofInt 0 := q
      rw [i32_eq hy i32_0] at q2; omega
    · rw [i32_div hxx hy h0 h1]; exact k
  · intro hst
    have hy : i32 y := okh hst
    have hxx : i32 x := okh (okt hst)
    refine okp (v := vI (x / y)) ?_ (okt (okt hst))
    have a1 := Int.ediv_nonneg h0 (Int.le_of_lt h1)
    have a2 := Int.ediv_le_self y h0
    have a3 := Int.emod_nonneg x (by omega : y ≠ 0)
    have a4 := Int.emod_lt_of_pos x h1
    show i32 _
    unfold i32 at *; omega
theorem V.irem {M : MD} {d pc : Nat} {ls : List (Option MV)} {st : List MV} {h : MH} {sz kc ks : Nat} {Q : QT} {x y : Int} (hd : decode M.2.1 pc = .ok (.irem, 1)) (h0 : 0 ≤ x) (h1 : 0 < y) (k : V M d (pc + 1) ls (vI (x % y) :: st) h sz kc ks Q) : V M d pc ls (vI y :: vI x :: st) h sz kc ks Q := by
  refine V.st (pc2 := (pc + 1)) (st2 := vI (x % y) :: st) ?_ ?_ k
  · intro p l e R s m args below meth c Z E H locs cells slots lv hx hb hst k
    have hy : i32 y := okh hst
    have hxx : i32 x := okh (okt hst)
    refine lv_irem hx hb hd ?_ ?_
    · intro q
      have q2 : Int32.ofInt y = Int32.ofInt 0 := q
      rw [i32_eq hy i32_0] at q2; omega
    · rw [i32_rem hxx hy h0 h1]; exact k
  · intro hst
    have hy : i32 y := okh hst
    have hxx : i32 x := okh (okt hst)
    refine okp (v := vI (x % y)) ?_ (okt (okt hst))
    have a1 := Int.ediv_nonneg h0 (Int.le_of_lt h1)
    have a2 := Int.ediv_le_self y h0
    have a3 := Int.emod_nonneg x (by omega : y ≠ 0)
    have a4 := Int.emod_lt_of_pos x h1
    show i32 _
    unfold i32 at *; omega
theorem V.iand {M : MD} {d pc : Nat} {ls : List (Option MV)} {st : List MV} {h : MH} {sz kc ks : Nat} {Q : QT} {x y : Int} (z : Int) (hd : decode M.2.1 pc = .ok (.iand, 1)) (hz : i32 x → i32 y → Int32.ofInt x &&& Int32.ofInt y = Int32.ofInt z ∧ i32 z) (k : V M d (pc + 1) ls (vI z :: st) h sz kc ks Q) : V M d pc ls (vI y :: vI x :: st) h sz kc ks Q := by
  refine V.st (pc2 := (pc + 1)) (st2 := vI z :: st) ?_ ?_ k
  · intro p l e R s m args below meth c Z E H locs cells slots lv hx hb hst k
    refine lv_iand hx hb hd ?_
    rw [(hz (okh (okt hst)) (okh hst)).1]; exact k
  · intro hst
    exact okp (hz (okh (okt hst)) (okh hst)).2 (okt (okt hst))
theorem V.ior {M : MD} {d pc : Nat} {ls : List (Option MV)} {st : List MV} {h : MH} {sz kc ks : Nat} {Q : QT} {x y : Int} (z : Int) (hd : decode M.2.1 pc = .ok (.ior, 1)) (hz : i32 x → i32 y → Int32.ofInt x ||| Int32.ofInt y = Int32.ofInt z ∧ i32 z) (k : V M d (pc + 1) ls (vI z :: st) h sz kc ks Q) : V M d pc ls (vI y :: vI x :: st) h sz kc ks Q := by
  refine V.st (pc2 := (pc + 1)) (st2 := vI z :: st) ?_ ?_ k
  · intro p l e R s m args below meth c Z E H locs cells slots lv hx hb hst k
    refine lv_ior hx hb hd ?_
    rw [(hz (okh (okt hst)) (okh hst)).1]; exact k
  · intro hst
    exact okp (hz (okh (okt hst)) (okh hst)).2 (okt (okt hst))
theorem V.land {M : MD} {d pc : Nat} {ls : List (Option MV)} {st : List MV} {h : MH} {sz kc ks : Nat} {Q : QT} {x y : Int} (z : Int) (hd : decode M.2.1 pc = .ok (.land, 1)) (hz : i64 x → i64 y → Int64.ofInt x &&& Int64.ofInt y = Int64.ofInt z ∧ i64 z) (k : V M d (pc + 1) ls (vL z :: st) h sz kc ks Q) : V M d pc ls (vL y :: vL x :: st) h sz kc ks Q := by
  refine V.st (pc2 := (pc + 1)) (st2 := vL z :: st) ?_ ?_ k
  · intro p l e R s m args below meth c Z E H locs cells slots lv hx hb hst k
    refine lv_land hx hb hd ?_
    rw [(hz (okh (okt hst)) (okh hst)).1]; exact k
  · intro hst
    exact okp (hz (okh (okt hst)) (okh hst)).2 (okt (okt hst))
theorem V.lor {M : MD} {d pc : Nat} {ls : List (Option MV)} {st : List MV} {h : MH} {sz kc ks : Nat} {Q : QT} {x y : Int} (z : Int) (hd : decode M.2.1 pc = .ok (.lor, 1)) (hz : i64 x → i64 y → Int64.ofInt x ||| Int64.ofInt y = Int64.ofInt z ∧ i64 z) (k : V M d (pc + 1) ls (vL z :: st) h sz kc ks Q) : V M d pc ls (vL y :: vL x :: st) h sz kc ks Q := by
  refine V.st (pc2 := (pc + 1)) (st2 := vL z :: st) ?_ ?_ k
  · intro p l e R s m args below meth c Z E H locs cells slots lv hx hb hst k
    refine lv_lor hx hb hd ?_
    rw [(hz (okh (okt hst)) (okh hst)).1]; exact k
  · intro hst
    exact okp (hz (okh (okt hst)) (okh hst)).2 (okt (okt hst))
theorem V.ishl {M : MD} {d pc : Nat} {ls : List (Option MV)} {st : List MV} {h : MH} {sz kc ks : Nat} {Q : QT} {x y : Int} (z : Int) (hd : decode M.2.1 pc = .ok (.ishl, 1)) (hz : i32 x → i32 y → Int32.ofInt x <<< (Int32.ofInt y &&& 31) = Int32.ofInt z ∧ i32 z) (k : V M d (pc + 1) ls (vI z :: st) h sz kc ks Q) : V M d pc ls (vI y :: vI x :: st) h sz kc ks Q := by
  refine V.st (pc2 := (pc + 1)) (st2 := vI z :: st) ?_ ?_ k
  · intro p l e R s m args below meth c Z E H locs cells slots lv hx hb hst k
    refine lv_ishl hx hb hd ?_
    rw [(hz (okh (okt hst)) (okh hst)).1]; exact k
  · intro hst
    exact okp (hz (okh (okt hst)) (okh hst)).2 (okt (okt hst))
theorem V.ishr {M : MD} {d pc : Nat} {ls : List (Option MV)} {st : List MV} {h : MH} {sz kc ks : Nat} {Q : QT} {x y : Int} (z : Int) (hd : decode M.2.1 pc = .ok (.ishr, 1)) (hz : i32 x → i32 y → Int32.ofInt x >>> (Int32.ofInt y &&& 31) = Int32.ofInt z ∧ i32 z) (k : V M d (pc + 1) ls (vI z :: st) h sz kc ks Q) : V M d pc ls (vI y :: vI x :: st) h sz kc ks Q := by
  refine V.st (pc2 := (pc + 1)) (st2 := vI z :: st) ?_ ?_ k
  · intro p l e R s m args below meth c Z E H locs cells slots lv hx hb hst k
    refine lv_ishr hx hb hd ?_
    rw [(hz (okh (okt hst)) (okh hst)).1]; exact k
  · intro hst
    exact okp (hz (okh (okt hst)) (okh hst)).2 (okt (okt hst))
theorem V.lshl {M : MD} {d pc : Nat} {ls : List (Option MV)} {st : List MV} {h : MH} {sz kc ks : Nat} {Q : QT} {x y : Int} (z : Int) (hd : decode M.2.1 pc = .ok (.lshl, 1)) (hz : i64 x → i32 y → Int64.ofInt x <<< (Int64.ofInt y &&& 63) = Int64.ofInt z ∧ i64 z) (k : V M d (pc + 1) ls (vL z :: st) h sz kc ks Q) : V M d pc ls (vI y :: vL x :: st) h sz kc ks Q := by
  refine V.st (pc2 := (pc + 1)) (st2 := vL z :: st) ?_ ?_ k
  · intro p l e R s m args below meth c Z E H locs cells slots lv hx hb hst k
    refine lv_lshl hx hb hd ?_ k
    rw [i32_wide (okh hst)]; exact (hz (okh (okt hst)) (okh hst)).1
  · intro hst
    exact okp (hz (okh (okt hst)) (okh hst)).2 (okt (okt hst))
theorem V.lshr {M : MD} {d pc : Nat} {ls : List (Option MV)} {st : List MV} {h : MH} {sz kc ks : Nat} {Q : QT} {x y : Int} (z : Int) (hd : decode M.2.1 pc = .ok (.lshr, 1)) (hz : i64 x → i32 y → Int64.ofInt x >>> (Int64.ofInt y &&& 63) = Int64.ofInt z ∧ i64 z) (k : V M d (pc + 1) ls (vL z :: st) h sz kc ks Q) : V M d pc ls (vI y :: vL x :: st) h sz kc ks Q := by
  refine V.st (pc2 := (pc + 1)) (st2 := vL z :: st) ?_ ?_ k
  · intro p l e R s m args below meth c Z E H locs cells slots lv hx hb hst k
    refine lv_lshr hx hb hd ?_ k
    rw [i32_wide (okh hst)]; exact (hz (okh (okt hst)) (okh hst)).1
  · intro hst
    exact okp (hz (okh (okt hst)) (okh hst)).2 (okt (okt hst))
theorem V.lushr {M : MD} {d pc : Nat} {ls : List (Option MV)} {st : List MV} {h : MH} {sz kc ks : Nat} {Q : QT} {x y : Int} (z : Int) (hd : decode M.2.1 pc = .ok (.lushr, 1)) (hz : i64 x → i32 y → ((Int64.ofInt x).toUInt64 >>> ((Int64.ofInt y).toUInt64 &&& Int64.toUInt64 63)).toInt64 = Int64.ofInt z ∧ i64 z) (k : V M d (pc + 1) ls (vL z :: st) h sz kc ks Q) : V M d pc ls (vI y :: vL x :: st) h sz kc ks Q := by
  refine V.st (pc2 := (pc + 1)) (st2 := vL z :: st) ?_ ?_ k
  · intro p l e R s m args below meth c Z E H locs cells slots lv hx hb hst k
    refine lv_lushr hx hb hd ?_ k
    rw [i32_wide (okh hst)]; exact (hz (okh (okt hst)) (okh hst)).1
  · intro hst
    exact okp (hz (okh (okt hst)) (okh hst)).2 (okt (okt hst))
theorem V.i2l {M : MD} {d pc : Nat} {ls : List (Option MV)} {st : List MV} {h : MH} {sz kc ks : Nat} {Q : QT} {x : Int} (hd : decode M.2.1 pc = .ok (.i2l, 1)) (k : V M d (pc + 1) ls (vL x :: st) h sz kc ks Q) : V M d pc ls (vI x :: st) h sz kc ks Q := by
  refine V.st (pc2 := (pc + 1)) (st2 := vL x :: st) ?_ ?_ k
  · intro p l e R s m args below meth c Z E H locs cells slots lv hx hb hst k
    exact lv_i2l hx hb hd (i32_wide (okh hst)) k
  · intro hst
    exact okp (v := vL x) (i32_i64 (okh hst)) (okt hst)
theorem V.l2i {M : MD} {d pc : Nat} {ls : List (Option MV)} {st : List MV} {h : MH} {sz kc ks : Nat} {Q : QT} {x : Int} (hd : decode M.2.1 pc = .ok (.l2i, 1)) (hz : i32 x) (k : V M d (pc + 1) ls (vI x :: st) h sz kc ks Q) : V M d pc ls (vL x :: st) h sz kc ks Q := by
  refine V.st (pc2 := (pc + 1)) (st2 := vI x :: st) ?_ ?_ k
  · intro p l e R s m args below meth c Z E H locs cells slots lv hx hb hst k
    exact lv_l2i hx hb hd i64_nar k
  · intro hst
    exact okp (v := vI x) hz (okt hst)
theorem V.i2b {M : MD} {d pc : Nat} {ls : List (Option MV)} {st : List MV} {h : MH} {sz kc ks : Nat} {Q : QT} {x : Int} (hd : decode M.2.1 pc = .ok (.i2b, 1)) (k : V M d (pc + 1) ls (vI (x.bmod 256) :: st) h sz kc ks Q) : V M d pc ls (vI x :: st) h sz kc ks Q := by
  refine V.st (pc2 := (pc + 1)) (st2 := vI (x.bmod 256) :: st) ?_ ?_ k
  · intro p l e R s m args below meth c Z E H locs cells slots lv hx hb hst k
    exact lv_i2b hx hb hd i32_b k
  · intro hst
    exact okp (v := vI _) (i32_bmod8 x) (okt hst)
theorem V.i2s {M : MD} {d pc : Nat} {ls : List (Option MV)} {st : List MV} {h : MH} {sz kc ks : Nat} {Q : QT} {x : Int} (hd : decode M.2.1 pc = .ok (.i2s, 1)) (k : V M d (pc + 1) ls (vI (x.bmod 65536) :: st) h sz kc ks Q) : V M d pc ls (vI x :: st) h sz kc ks Q := by
  refine V.st (pc2 := (pc + 1)) (st2 := vI (x.bmod 65536) :: st) ?_ ?_ k
  · intro p l e R s m args below meth c Z E H locs cells slots lv hx hb hst k
    exact lv_i2s hx hb hd i32_s k
  · intro hst
    exact okp (v := vI _) (i32_bmod16 x) (okt hst)
theorem V.lcmp {M : MD} {d pc : Nat} {ls : List (Option MV)} {st : List MV} {h : MH} {sz kc ks : Nat} {Q : QT} {x y : Int} (hd : decode M.2.1 pc = .ok (.lcmp, 1)) (k : V M d (pc + 1) ls (vI (lc x y) :: st) h sz kc ks Q) : V M d pc ls (vL y :: vL x :: st) h sz kc ks Q := by
  refine V.st (pc2 := (pc + 1)) (st2 := vI (lc x y) :: st) ?_ ?_ k
  · intro p l e R s m args below meth c Z E H locs cells slots lv hx hb hst k
    refine W.lcmp hx hb hd ?_
    rw [lc_ok (okh (okt hst)) (okh hst)]; exact k
  · intro hst
    exact okp (v := vI _) (lc_rng x y) (okt (okt hst))
theorem V.iconst {M : MD} {d pc : Nat} {ls : List (Option MV)} {st : List MV} {h : MH} {sz kc ks : Nat} {Q : QT} {n : Int} (hd : decode M.2.1 pc = .ok (.iconst n, 1)) (hz : i32 n) (k : V M d (pc + 1) ls (vI n :: st) h sz kc ks Q) : V M d pc ls (st) h sz kc ks Q := by
  refine V.st (pc2 := (pc + 1)) (st2 := vI n :: st) ?_ ?_ k
  · intro p l e R s m args below meth c Z E H locs cells slots lv hx hb hst k
    exact lv_iconst hx hb hd rfl k
  · intro hst
    exact okp (v := vI n) hz hst
theorem V.bipush {M : MD} {d pc : Nat} {ls : List (Option MV)} {st : List MV} {h : MH} {sz kc ks : Nat} {Q : QT} {n : Int} (hd : decode M.2.1 pc = .ok (.bipush n, 2)) (hz : -128 ≤ n ∧ n < 128) (k : V M d (pc + 2) ls (vI n :: st) h sz kc ks Q) : V M d pc ls (st) h sz kc ks Q := by
  refine V.st (pc2 := (pc + 2)) (st2 := vI n :: st) ?_ ?_ k
  · intro p l e R s m args below meth c Z E H locs cells slots lv hx hb hst k
    exact lv_bipush hx hb hd (Int8.toInt32_ofInt (by show (-128 : Int) ≤ n; exact hz.1) (by show n ≤ (127 : Int); omega)) k
  · intro hst
    exact okp (v := vI n) (by unfold okV i32; omega) hst
theorem V.sipush {M : MD} {d pc : Nat} {ls : List (Option MV)} {st : List MV} {h : MH} {sz kc ks : Nat} {Q : QT} {n : Int} (hd : decode M.2.1 pc = .ok (.sipush n, 3)) (hz : -32768 ≤ n ∧ n < 32768) (k : V M d (pc + 3) ls (vI n :: st) h sz kc ks Q) : V M d pc ls (st) h sz kc ks Q := by
  refine V.st (pc2 := (pc + 3)) (st2 := vI n :: st) ?_ ?_ k
  · intro p l e R s m args below meth c Z E H locs cells slots lv hx hb hst k
    exact lv_sipush hx hb hd (Int16.toInt32_ofInt (by show (-32768 : Int) ≤ n; exact hz.1) (by show n ≤ (32767 : Int); omega)) k
  · intro hst
    exact okp (v := vI n) (by unfold okV i32; omega) hst
theorem V.lconst0 {M : MD} {d pc : Nat} {ls : List (Option MV)} {st : List MV} {h : MH} {sz kc ks : Nat} {Q : QT} (hd : decode M.2.1 pc = .ok (.lconst 0, 1)) (k : V M d (pc + 1) ls (vL 0 :: st) h sz kc ks Q) : V M d pc ls (st) h sz kc ks Q := by
  refine V.st (pc2 := (pc + 1)) (st2 := vL 0 :: st) ?_ ?_ k
  · intro p l e R s m args below meth c Z E H locs cells slots lv hx hb hst k
    exact lv_lconst hx hb hd rfl k
  · intro hst
    exact okp (v := vL 0) (by unfold okV i64; omega) hst
theorem V.lconst1 {M : MD} {d pc : Nat} {ls : List (Option MV)} {st : List MV} {h : MH} {sz kc ks : Nat} {Q : QT} (hd : decode M.2.1 pc = .ok (.lconst 1, 1)) (k : V M d (pc + 1) ls (vL 1 :: st) h sz kc ks Q) : V M d pc ls (st) h sz kc ks Q := by
  refine V.st (pc2 := (pc + 1)) (st2 := vL 1 :: st) ?_ ?_ k
  · intro p l e R s m args below meth c Z E H locs cells slots lv hx hb hst k
    exact lv_lconst hx hb hd rfl k
  · intro hst
    exact okp (v := vL 1) (by unfold okV i64; omega) hst
theorem V.anull {M : MD} {d pc : Nat} {ls : List (Option MV)} {st : List MV} {h : MH} {sz kc ks : Nat} {Q : QT} (hd : decode M.2.1 pc = .ok (.aconst_null, 1)) (k : V M d (pc + 1) ls (vN :: st) h sz kc ks Q) : V M d pc ls (st) h sz kc ks Q := by
  refine V.st (pc2 := (pc + 1)) (st2 := vN :: st) ?_ ?_ k
  · intro p l e R s m args below meth c Z E H locs cells slots lv hx hb hst k
    exact lv_null hx hb hd k
  · intro hst
    exact okp (v := vN) trivial hst
theorem V.dup {M : MD} {d pc : Nat} {ls : List (Option MV)} {st : List MV} {h : MH} {sz kc ks : Nat} {Q : QT} {v : MV} (hd : decode M.2.1 pc = .ok (.dup, 1)) (hc : ∀ E, (cv E v).category = 1) (k : V M d (pc + 1) ls (v :: v :: st) h sz kc ks Q) : V M d pc ls (v :: st) h sz kc ks Q := by
  refine V.st (pc2 := (pc + 1)) (st2 := v :: v :: st) ?_ ?_ k
  · intro p l e R s m args below meth c Z E H locs cells slots lv hx hb hst k
    exact lv_dup hx hb hd (hc E) k
  · intro hst
    exact okp (okh hst) hst
theorem V.dup2 {M : MD} {d pc : Nat} {ls : List (Option MV)} {st : List MV} {h : MH} {sz kc ks : Nat} {Q : QT} {v w : MV} (hd : decode M.2.1 pc = .ok (.dup2, 1)) (hc : ∀ E, (cv E v).category = 1) (hc2 : ∀ E, (cv E w).category = 1) (k : V M d (pc + 1) ls (v :: w :: v :: w :: st) h sz kc ks Q) : V M d pc ls (v :: w :: st) h sz kc ks Q := by
  refine V.st (pc2 := (pc + 1)) (st2 := v :: w :: v :: w :: st) ?_ ?_ k
  · intro p l e R s m args below meth c Z E H locs cells slots lv hx hb hst k
    exact lv_dup2_11 hx hb hd (hc E) (hc2 E) k
  · intro hst
    exact okp (okh hst) (okp (okh (okt hst)) hst)
theorem V.pop {M : MD} {d pc : Nat} {ls : List (Option MV)} {st : List MV} {h : MH} {sz kc ks : Nat} {Q : QT} {v : MV} (hd : decode M.2.1 pc = .ok (.pop, 1)) (hc : ∀ E, (cv E v).category = 1) (k : V M d (pc + 1) ls (st) h sz kc ks Q) : V M d pc ls (v :: st) h sz kc ks Q := by
  refine V.st (pc2 := (pc + 1)) (st2 := st) ?_ ?_ k
  · intro p l e R s m args below meth c Z E H locs cells slots lv hx hb hst k
    exact lv_pop hx hb hd (hc E) k
  · intro hst
    exact okt hst
theorem V.goto {M : MD} {d pc : Nat} {ls : List (Option MV)} {st : List MV} {h : MH} {sz kc ks : Nat} {Q : QT} {off : Int} {tgt : Nat} (hd : decode M.2.1 pc = .ok (.goto off, 3)) (ht : (pc : Int) + off = (tgt : Int)) (k : V M d tgt ls (st) h sz kc ks Q) : V M d pc ls (st) h sz kc ks Q := by
  refine V.st (pc2 := tgt) (st2 := st) ?_ ?_ k
  · intro p l e R s m args below meth c Z E H locs cells slots lv hx hb hst k
    exact lv_goto hx hb hd ht k
  · intro hst
    exact hst
/-! RULES: branches -/
theorem V.icmp_eq {M : MD} {d pc : Nat} {ls : List (Option MV)} {st : List MV} {h : MH} {sz kc ks : Nat} {Q : QT} {x y : Int} {off : Int} {tgt : Nat} (hd : decode M.2.1 pc = .ok (.if_icmp .eq off, 3)) (ht : (pc : Int) + off = (tgt : Int)) (kt : x = y → V M d tgt ls st h sz kc ks Q) (kf : x ≠ y → V M d (pc + 3) ls st h sz kc ks Q) : V M d pc ls (vI y :: vI x :: st) h sz kc ks Q := by
  intro p l e R s m args below meth c Z E F cM sM C H locs cells slots lv hR hF hS hL hst h1 h2
  obtain ⟨⟨hx, hb, hml, hown, hnm⟩, hSF, hFF, hrm, hret⟩ := id C
  have hyy : i32 y := okh hst
  have hxx : i32 x := okh (okt hst)
  refine lv_icmp_eq hx hb hd ht (fun cc => ?_) (fun cc => ?_)
  · exact kt (by simp only [i32_eq hxx hyy, ne_eq] at cc ⊢; omega) p l e R s m args below meth c Z E F cM sM C H locs cells slots lv hR hF hS hL (okt (okt hst)) h1 h2
  · exact kf (by simp only [i32_eq hxx hyy, ne_eq] at cc ⊢; omega) p l e R s m args below meth c Z E F cM sM C H locs cells slots lv hR hF hS hL (okt (okt hst)) h1 h2
theorem V.if_eq {M : MD} {d pc : Nat} {ls : List (Option MV)} {st : List MV} {h : MH} {sz kc ks : Nat} {Q : QT} {x : Int} {off : Int} {tgt : Nat} (hd : decode M.2.1 pc = .ok (.ifCond .eq off, 3)) (ht : (pc : Int) + off = (tgt : Int)) (kt : x = 0 → V M d tgt ls st h sz kc ks Q) (kf : x ≠ 0 → V M d (pc + 3) ls st h sz kc ks Q) : V M d pc ls (vI x :: st) h sz kc ks Q := by
  intro p l e R s m args below meth c Z E F cM sM C H locs cells slots lv hR hF hS hL hst h1 h2
  obtain ⟨⟨hx, hb, hml, hown, hnm⟩, hSF, hFF, hrm, hret⟩ := id C
  have hxx : i32 x := okh hst
  refine lv_if_eq hx hb hd ht (fun cc => ?_) (fun cc => ?_)
  · rw [show (0 : Int32) = Int32.ofInt 0 from rfl] at cc
    exact kt (by simp only [i32_eq hxx i32_0, ne_eq] at cc ⊢; omega) p l e R s m args below meth c Z E F cM sM C H locs cells slots lv hR hF hS hL (okt hst) h1 h2
  · rw [show (0 : Int32) = Int32.ofInt 0 from rfl] at cc
    exact kf (by simp only [i32_eq hxx i32_0, ne_eq] at cc ⊢; omega) p l e R s m args below meth c Z E F cM sM C H locs cells slots lv hR hF hS hL (okt hst) h1 h2
theorem V.icmp_ne {M : MD} {d pc : Nat} {ls : List (Option MV)} {st : List MV} {h : MH} {sz kc ks : Nat} {Q : QT} {x y : Int} {off : Int} {tgt : Nat} (hd : decode M.2.1 pc = .ok (.if_icmp .ne off, 3)) (ht : (pc : Int) + off = (tgt : Int)) (kt : x ≠ y → V M d tgt ls st h sz kc ks Q) (kf : x = y → V M d (pc + 3) ls st h sz kc ks Q) : V M d pc ls (vI y :: vI x :: st) h sz kc ks Q := by
  intro p l e R s m args below meth c Z E F cM sM C H locs cells slots lv hR hF hS hL hst h1 h2
  obtain ⟨⟨hx, hb, hml, hown, hnm⟩, hSF, hFF, hrm, hret⟩ := id C
  have hyy : i32 y := okh hst
  have hxx : i32 x := okh (okt hst)
  refine lv_icmp_ne hx hb hd ht (fun cc => ?_) (fun cc => ?_)
  · exact kt (by simp only [i32_eq hxx hyy, ne_eq] at cc ⊢; omega) p l e R s m args below meth c Z E F cM sM C H locs cells slots lv hR hF hS hL (okt (okt hst)) h1 h2
  · exact kf (by simp only [i32_eq hxx hyy, ne_eq] at cc ⊢; omega) p l e R s m args below meth c Z E F cM sM C H locs cells slots lv hR hF hS hL (okt (okt hst)) h1 h2
theorem V.if_ne {M : MD} {d pc : Nat} {ls : List (Option MV)} {st : List MV} {h : MH} {sz kc ks : Nat} {Q : QT} {x : Int} {off : Int} {tgt : Nat} (hd : decode M.2.1 pc = .ok (.ifCond .ne off, 3)) (ht : (pc : Int) + off = (tgt : Int)) (kt : x ≠ 0 → V M d tgt ls st h sz kc ks Q) (kf : x = 0 → V M d (pc + 3) ls st h sz kc ks Q) : V M d pc ls (vI x :: st) h sz kc ks Q := by
  intro p l e R s m args below meth c Z E F cM sM C H locs cells slots lv hR hF hS hL hst h1 h2
  obtain ⟨⟨hx, hb, hml, hown, hnm⟩, hSF, hFF, hrm, hret⟩ := id C
  have hxx : i32 x := okh hst
  refine lv_if_ne hx hb hd ht (fun cc => ?_) (fun cc => ?_)
  · rw [show (0 : Int32) = Int32.ofInt 0 from rfl] at cc
    exact kt (by simp only [i32_eq hxx i32_0, ne_eq] at cc ⊢; omega) p l e R s m args below meth c Z E F cM sM C H locs cells slots lv hR hF hS hL (okt hst) h1 h2
  · rw [show (0 : Int32) = Int32.ofInt 0 from rfl] at cc
    exact kf (by simp only [i32_eq hxx i32_0, ne_eq] at cc ⊢; omega) p l e R s m args below meth c Z E F cM sM C H locs cells slots lv hR hF hS hL (okt hst) h1 h2
theorem V.icmp_lt {M : MD} {d pc : Nat} {ls : List (Option MV)} {st : List MV} {h : MH} {sz kc ks : Nat} {Q : QT} {x y : Int} {off : Int} {tgt : Nat} (hd : decode M.2.1 pc = .ok (.if_icmp .lt off, 3)) (ht : (pc : Int) + off = (tgt : Int)) (kt : x < y → V M d tgt ls st h sz kc ks Q) (kf : y ≤ x → V M d (pc + 3) ls st h sz kc ks Q) : V M d pc ls (vI y :: vI x :: st) h sz kc ks Q := by
  intro p l e R s m args below meth c Z E F cM sM C H locs cells slots lv hR hF hS hL hst h1 h2
  obtain ⟨⟨hx, hb, hml, hown, hnm⟩, hSF, hFF, hrm, hret⟩ := id C
  have hyy : i32 y := okh hst
  have hxx : i32 x := okh (okt hst)
  refine lv_icmp_lt hx hb hd ht (fun cc => ?_) (fun cc => ?_)
  · exact kt (by simp only [i32_lt hxx hyy, ne_eq] at cc ⊢; omega) p l e R s m args below meth c Z E F cM sM C H locs cells slots lv hR hF hS hL (okt (okt hst)) h1 h2
  · exact kf (by simp only [i32_lt hxx hyy, ne_eq] at cc ⊢; omega) p l e R s m args below meth c Z E F cM sM C H locs cells slots lv hR hF hS hL (okt (okt hst)) h1 h2
theorem V.if_lt {M : MD} {d pc : Nat} {ls : List (Option MV)} {st : List MV} {h : MH} {sz kc ks : Nat} {Q : QT} {x : Int} {off : Int} {tgt : Nat} (hd : decode M.2.1 pc = .ok (.ifCond .lt off, 3)) (ht : (pc : Int) + off = (tgt : Int)) (kt : x < 0 → V M d tgt ls st h sz kc ks Q) (kf : 0 ≤ x → V M d (pc + 3) ls st h sz kc ks Q) : V M d pc ls (vI x :: st) h sz kc ks Q := by
  intro p l e R s m args below meth c Z E F cM sM C H locs cells slots lv hR hF hS hL hst h1 h2
  obtain ⟨⟨hx, hb, hml, hown, hnm⟩, hSF, hFF, hrm, hret⟩ := id C
  have hxx : i32 x := okh hst
  refine lv_if_lt hx hb hd ht (fun cc => ?_) (fun cc => ?_)
  · rw [show (0 : Int32) = Int32.ofInt 0 from rfl] at cc
    exact kt (by simp only [i32_lt hxx i32_0, ne_eq] at cc ⊢; omega) p l e R s m args below meth c Z E F cM sM C H locs cells slots lv hR hF hS hL (okt hst) h1 h2
  · rw [show (0 : Int32) = Int32.ofInt 0 from rfl] at cc
    exact kf (by simp only [i32_lt hxx i32_0, ne_eq] at cc ⊢; omega) p l e R s m args below meth c Z E F cM sM C H locs cells slots lv hR hF hS hL (okt hst) h1 h2
theorem V.icmp_ge {M : MD} {d pc : Nat} {ls : List (Option MV)} {st : List MV} {h : MH} {sz kc ks : Nat} {Q : QT} {x y : Int} {off : Int} {tgt : Nat} (hd : decode M.2.1 pc = .ok (.if_icmp .ge off, 3)) (ht : (pc : Int) + off = (tgt : Int)) (kt : y ≤ x → V M d tgt ls st h sz kc ks Q) (kf : x < y → V M d (pc + 3) ls st h sz kc ks Q) : V M d pc ls (vI y :: vI x :: st) h sz kc ks Q := by
  intro p l e R s m args below meth c Z E F cM sM C H locs cells slots lv hR hF hS hL hst h1 h2
  obtain ⟨⟨hx, hb, hml, hown, hnm⟩, hSF, hFF, hrm, hret⟩ := id C
  have hyy : i32 y := okh hst
  have hxx : i32 x := okh (okt hst)
  refine lv_icmp_ge hx hb hd ht (fun cc => ?_) (fun cc => ?_)
  · exact kt (by simp only [i32_le hyy hxx, ne_eq] at cc ⊢; omega) p l e R s m args below meth c Z E F cM sM C H locs cells slots lv hR hF hS hL (okt (okt hst)) h1 h2
  · exact kf (by simp only [i32_le hyy hxx, ne_eq] at cc ⊢; omega) p l e R s m args below meth c Z E F cM sM C H locs cells slots lv hR hF hS hL (okt (okt hst)) h1 h2
theorem V.if_ge {M : MD} {d pc : Nat} {ls : List (Option MV)} {st : List MV} {h : MH} {sz kc ks : Nat} {Q : QT} {x : Int} {off : Int} {tgt : Nat} (hd : decode M.2.1 pc = .ok (.ifCond .ge off, 3)) (ht : (pc : Int) + off = (tgt : Int)) (kt : 0 ≤ x → V M d tgt ls st h sz kc ks Q) (kf : x < 0 → V M d (pc + 3) ls st h sz kc ks Q) : V M d pc ls (vI x :: st) h sz kc ks Q := by
  intro p l e R s m args below meth c Z E F cM sM C H locs cells slots lv hR hF hS hL hst h1 h2
  obtain ⟨⟨hx, hb, hml, hown, hnm⟩, hSF, hFF, hrm, hret⟩ := id C
  have hxx : i32 x := okh hst
  refine lv_if_ge hx hb hd ht (fun cc => ?_) (fun cc => ?_)
  · rw [show (0 : Int32) = Int32.ofInt 0 from rfl] at cc
    exact kt (by simp only [i32_le i32_0 hxx, ne_eq] at cc ⊢; omega) p l e R s m args below meth c Z E F cM sM C H locs cells slots lv hR hF hS hL (okt hst) h1 h2
  · rw [show (0 : Int32) = Int32.ofInt 0 from rfl] at cc
    exact kf (by simp only [i32_le i32_0 hxx, ne_eq] at cc ⊢; omega) p l e R s m args below meth c Z E F cM sM C H locs cells slots lv hR hF hS hL (okt hst) h1 h2
theorem V.icmp_gt {M : MD} {d pc : Nat} {ls : List (Option MV)} {st : List MV} {h : MH} {sz kc ks : Nat} {Q : QT} {x y : Int} {off : Int} {tgt : Nat} (hd : decode M.2.1 pc = .ok (.if_icmp .gt off, 3)) (ht : (pc : Int) + off = (tgt : Int)) (kt : y < x → V M d tgt ls st h sz kc ks Q) (kf : x ≤ y → V M d (pc + 3) ls st h sz kc ks Q) : V M d pc ls (vI y :: vI x :: st) h sz kc ks Q := by
  intro p l e R s m args below meth c Z E F cM sM C H locs cells slots lv hR hF hS hL hst h1 h2
  obtain ⟨⟨hx, hb, hml, hown, hnm⟩, hSF, hFF, hrm, hret⟩ := id C
  have hyy : i32 y := okh hst
  have hxx : i32 x := okh (okt hst)
  refine lv_icmp_gt hx hb hd ht (fun cc => ?_) (fun cc => ?_)
  · exact kt (by simp only [i32_lt hyy hxx, ne_eq] at cc ⊢; omega) p l e R s m args below meth c Z E F cM sM C H locs cells slots lv hR hF hS hL (okt (okt hst)) h1 h2
  · exact kf (by simp only [i32_lt hyy hxx, ne_eq] at cc ⊢; omega) p l e R s m args below meth c Z E F cM sM C H locs cells slots lv hR hF hS hL (okt (okt hst)) h1 h2
theorem V.if_gt {M : MD} {d pc : Nat} {ls : List (Option MV)} {st : List MV} {h : MH} {sz kc ks : Nat} {Q : QT} {x : Int} {off : Int} {tgt : Nat} (hd : decode M.2.1 pc = .ok (.ifCond .gt off, 3)) (ht : (pc : Int) + off = (tgt : Int)) (kt : 0 < x → V M d tgt ls st h sz kc ks Q) (kf : x ≤ 0 → V M d (pc + 3) ls st h sz kc ks Q) : V M d pc ls (vI x :: st) h sz kc ks Q := by
  intro p l e R s m args below meth c Z E F cM sM C H locs cells slots lv hR hF hS hL hst h1 h2
  obtain ⟨⟨hx, hb, hml, hown, hnm⟩, hSF, hFF, hrm, hret⟩ := id C
  have hxx : i32 x := okh hst
  refine lv_if_gt hx hb hd ht (fun cc => ?_) (fun cc => ?_)
  · rw [show (0 : Int32) = Int32.ofInt 0 from rfl] at cc
    exact kt (by simp only [i32_lt i32_0 hxx, ne_eq] at cc ⊢; omega) p l e R s m args below meth c Z E F cM sM C H locs cells slots lv hR hF hS hL (okt hst) h1 h2
  · rw [show (0 : Int32) = Int32.ofInt 0 from rfl] at cc
    exact kf (by simp only [i32_lt i32_0 hxx, ne_eq] at cc ⊢; omega) p l e R s m args below meth c Z E F cM sM C H locs cells slots lv hR hF hS hL (okt hst) h1 h2
theorem V.icmp_le {M : MD} {d pc : Nat} {ls : List (Option MV)} {st : List MV} {h : MH} {sz kc ks : Nat} {Q : QT} {x y : Int} {off : Int} {tgt : Nat} (hd : decode M.2.1 pc = .ok (.if_icmp .le off, 3)) (ht : (pc : Int) + off = (tgt : Int)) (kt : x ≤ y → V M d tgt ls st h sz kc ks Q) (kf : y < x → V M d (pc + 3) ls st h sz kc ks Q) : V M d pc ls (vI y :: vI x :: st) h sz kc ks Q := by
  intro p l e R s m args below meth c Z E F cM sM C H locs cells slots lv hR hF hS hL hst h1 h2
  obtain ⟨⟨hx, hb, hml, hown, hnm⟩, hSF, hFF, hrm, hret⟩ := id C
  have hyy : i32 y := okh hst
  have hxx : i32 x := okh (okt hst)
  refine lv_icmp_le hx hb hd ht (fun cc => ?_) (fun cc => ?_)
  · exact kt (by simp only [i32_le hxx hyy, ne_eq] at cc ⊢; omega) p l e R s m args below meth c Z E F cM sM C H locs cells slots lv hR hF hS hL (okt (okt hst)) h1 h2
  · exact kf (by simp only [i32_le hxx hyy, ne_eq] at cc ⊢; omega) p l e R s m args below meth c Z E F cM sM C H locs cells slots lv hR hF hS hL (okt (okt hst)) h1 h2
theorem V.if_le {M : MD} {d pc : Nat} {ls : List (Option MV)} {st : List MV} {h : MH} {sz kc ks : Nat} {Q : QT} {x : Int} {off : Int} {tgt : Nat} (hd : decode M.2.1 pc = .ok (.ifCond .le off, 3)) (ht : (pc : Int) + off = (tgt : Int)) (kt : x ≤ 0 → V M d tgt ls st h sz kc ks Q) (kf : 0 < x → V M d (pc + 3) ls st h sz kc ks Q) : V M d pc ls (vI x :: st) h sz kc ks Q := by
  intro p l e R s m args below meth c Z E F cM sM C H locs cells slots lv hR hF hS hL hst h1 h2
  obtain ⟨⟨hx, hb, hml, hown, hnm⟩, hSF, hFF, hrm, hret⟩ := id C
  have hxx : i32 x := okh hst
  refine lv_if_le hx hb hd ht (fun cc => ?_) (fun cc => ?_)
  · rw [show (0 : Int32) = Int32.ofInt 0 from rfl] at cc
    exact kt (by simp only [i32_le hxx i32_0, ne_eq] at cc ⊢; omega) p l e R s m args below meth c Z E F cM sM C H locs cells slots lv hR hF hS hL (okt hst) h1 h2
  · rw [show (0 : Int32) = Int32.ofInt 0 from rfl] at cc
    exact kf (by simp only [i32_le hxx i32_0, ne_eq] at cc ⊢; omega) p l e R s m args below meth c Z E F cM sM C H locs cells slots lv hR hF hS hL (okt hst) h1 h2
theorem V.ifnull {M : MD} {d pc : Nat} {ls : List (Option MV)} {st : List MV} {h : MH} {sz kc ks : Nat} {Q : QT} {o : Option Nat} {off : Int} {tgt : Nat} (hd : decode M.2.1 pc = .ok (.ifnull off, 3)) (ht : (pc : Int) + off = (tgt : Int)) (kt : o = none → V M d tgt ls st h sz kc ks Q) (kf : ∀ a, o = some a → V M d (pc + 3) ls st h sz kc ks Q) : V M d pc ls (vQ o :: st) h sz kc ks Q := by
  intro p l e R s m args below meth c Z E F cM sM C H locs cells slots lv hR hF hS hL hst h1 h2
  obtain ⟨⟨hx, hb, hml, hown, hnm⟩, hSF, hFF, hrm, hret⟩ := id C
  cases o with
  | none => exact lv_ifnullN hx hb hd ht (kt rfl p l e R s m args below meth c Z E F cM sM C H locs cells slots lv hR hF hS hL (okt hst) h1 h2)
  | some a => exact lv_ifnull hx hb hd (kf a rfl p l e R s m args below meth c Z E F cM sM C H locs cells slots lv hR hF hS hL (okt hst) h1 h2)
theorem V.ifnonnull {M : MD} {d pc : Nat} {ls : List (Option MV)} {st : List MV} {h : MH} {sz kc ks : Nat} {Q : QT} {o : Option Nat} {off : Int} {tgt : Nat} (hd : decode M.2.1 pc = .ok (.ifnonnull off, 3)) (ht : (pc : Int) + off = (tgt : Int)) (kt : ∀ a, o = some a → V M d tgt ls st h sz kc ks Q) (kf : o = none → V M d (pc + 3) ls st h sz kc ks Q) : V M d pc ls (vQ o :: st) h sz kc ks Q := by
  intro p l e R s m args below meth c Z E F cM sM C H locs cells slots lv hR hF hS hL hst h1 h2
  obtain ⟨⟨hx, hb, hml, hown, hnm⟩, hSF, hFF, hrm, hret⟩ := id C
  cases o with
  | none => exact lv_ifnonnullN hx hb hd (kf rfl p l e R s m args below meth c Z E F cM sM C H locs cells slots lv hR hF hS hL (okt hst) h1 h2)
  | some a => exact lv_ifnonnull hx hb hd ht (kt a rfl p l e R s m args below meth c Z E F cM sM C H locs cells slots lv hR hF hS hL (okt hst) h1 h2)
theorem V.tswIn {M : MD} {d pc : Nat} {ls : List (Option MV)} {st : List MV} {h : MH} {sz kc ks : Nat} {Q : QT} {x : Int} {dflt lo hi : Int} {offs : Array Int} {len : Nat} {off : Int} {tgt : Nat} (hd : decode M.2.1 pc = .ok (.tableswitch dflt lo hi offs, len)) (hx1 : lo ≤ x) (hx2 : x ≤ hi) (ho : offs[(x - lo).toNat]? = some off) (ht : (pc : Int) + off = (tgt : Int)) (k : V M d tgt ls st h sz kc ks Q) : V M d pc ls (vI x :: st) h sz kc ks Q := by
  intro p l e R s m args below meth c Z E F cM sM C H locs cells slots lv hR hF hS hL hst h1 h2
  obtain ⟨⟨hx, hb, hml, hown, hnm⟩, hSF, hFF, hrm, hret⟩ := id C
  have hxx : i32 x := okh hst
  exact lv_tableIn hx hb hd (by rw [i32_to hxx]; omega) (by rw [i32_to hxx]; omega) (by rw [i32_to hxx]; exact ho) ht (k p l e R s m args below meth c Z E F cM sM C H locs cells slots lv hR hF hS hL (okt hst) h1 h2)
theorem V.tswOut {M : MD} {d pc : Nat} {ls : List (Option MV)} {st : List MV} {h : MH} {sz kc ks : Nat} {Q : QT} {x : Int} {dflt lo hi : Int} {offs : Array Int} {len : Nat} {tgt : Nat} (hd : decode M.2.1 pc = .ok (.tableswitch dflt lo hi offs, len)) (hx1 : x < lo ∨ hi < x) (ht : (pc : Int) + dflt = (tgt : Int)) (k : V M d tgt ls st h sz kc ks Q) : V M d pc ls (vI x :: st) h sz kc ks Q := by
  intro p l e R s m args below meth c Z E F cM sM C H locs cells slots lv hR hF hS hL hst h1 h2
  obtain ⟨⟨hx, hb, hml, hown, hnm⟩, hSF, hFF, hrm, hret⟩ := id C
  have hxx : i32 x := okh hst
  exact lv_tableOut hx hb hd (by rw [i32_to hxx]; exact hx1) ht (k p l e R s m args below meth c Z E F cM sM C H locs cells slots lv hR hF hS hL (okt hst) h1 h2)
theorem V.lsw {M : MD} {d pc : Nat} {ls : List (Option MV)} {st : List MV} {h : MH} {sz kc ks : Nat} {Q : QT} {x : Int} {dflt : Int} {ps : Array (Int × Int)} {len : Nat} {off : Int} {tgt : Nat} (hd : decode M.2.1 pc = .ok (.lookupswitch dflt ps, len)) (hp : (ps.toList.zip (ps.toList.drop 1)).all (fun (a, next) => a.1 < next.1) = true) (ho : Op.lookupswitch.offset ps.toList dflt x = off) (ht : (pc : Int) + off = (tgt : Int)) (k : V M d tgt ls st h sz kc ks Q) : V M d pc ls (vI x :: st) h sz kc ks Q := by
  intro p l e R s m args below meth c Z E F cM sM C H locs cells slots lv hR hF hS hL hst h1 h2
  obtain ⟨⟨hx, hb, hml, hown, hnm⟩, hSF, hFF, hrm, hret⟩ := id C
  have hxx : i32 x := okh hst
  exact lv_lookup hx hb hd hp (by rw [i32_to hxx]; exact ho) ht (k p l e R s m args below meth c Z E F cM sM C H locs cells slots lv hR hF hS hL (okt hst) h1 h2)
/-- the range of a number on the stack, in a local, is known -/
theorem V.rng {M : MD} {d pc : Nat} {ls : List (Option MV)} {st : List MV} {h : MH} {sz kc ks : Nat} {Q : QT} {x : Int} (k : i32 x → V M d pc ls (vI x :: st) h sz kc ks Q) : V M d pc ls (vI x :: st) h sz kc ks Q := by
  intro p l e R s m args below meth c Z E F cM sM C H locs cells slots lv hR hF hS hL hst h1 h2
  obtain ⟨⟨hx, hb, hml, hown, hnm⟩, hSF, hFF, hrm, hret⟩ := id C
  exact k (okh hst) p l e R s m args below meth c Z E F cM sM C H locs cells slots lv hR hF hS hL hst h1 h2
theorem V.lrng {M : MD} {d pc : Nat} {ls : List (Option MV)} {st : List MV} {h : MH} {sz kc ks : Nat} {Q : QT} {x : Int} (i : Nat) (hi : lk ls i = some (vI x)) (k : i32 x → V M d pc ls st h sz kc ks Q) : V M d pc ls st h sz kc ks Q := by
  intro p l e R s m args below meth c Z E F cM sM C H locs cells slots lv hR hF hS hL hst h1 h2
  obtain ⟨⟨hx, hb, hml, hown, hnm⟩, hSF, hFF, hrm, hret⟩ := id C
  exact k (hL.2.2 i _ hi).2 p l e R s m args below meth c Z E F cM sM C H locs cells slots lv hR hF hS hL hst h1 h2
/-- a cell of the world: what it holds is in range -/
theorem V.hok {M : MD} {d pc : Nat} {ls : List (Option MV)} {st : List MV} {h : MH} {sz kc ks : Nat} {Q : QT} {a : Nat} {c : MC} (ha : h a = some c) (k : okC c → V M d pc ls st h sz kc ks Q) : V M d pc ls st h sz kc ks Q := by
  intro p l e R s m args below meth c Z E F cM sM C H locs cells slots lv hR hF hS hL hst h1 h2
  exact k (hR.2 _ _ ha).1 p l e R s m args below meth c Z E F cM sM C H locs cells slots lv hR hF hS hL hst h1 h2
theorem V.hlt {M : MD} {d pc : Nat} {ls : List (Option MV)} {st : List MV} {h : MH} {sz kc ks : Nat} {Q : QT} {a : Nat} {c : MC} (ha : h a = some c) (k : a < sz → V M d pc ls st h sz kc ks Q) : V M d pc ls st h sz kc ks Q := by
  intro p l e R s m args below meth c Z E F cM sM C H locs cells slots lv hR hF hS hL hst h1 h2
  exact k (hR.lt ha) p l e R s m args below meth c Z E F cM sM C H locs cells slots lv hR hF hS hL hst h1 h2
theorem V.less {M : MD} {d pc : Nat} {ls : List (Option MV)} {st : List MV} {h : MH} {sz kc ks : Nat} {Q : QT} {kc2 ks2 : Nat} (g1 : kc2 ≤ kc) (g2 : ks2 ≤ ks) (k : V M d pc ls st h sz kc2 ks2 Q) : V M d pc ls st h sz kc ks Q := by
  intro p l e R s m args below meth c Z E F cM sM C H locs cells slots lv hR hF hS hL hst h1 h2
  obtain ⟨⟨hx, hb, hml, hown, hnm⟩, hSF, hFF, hrm, hret⟩ := id C
  exact k p l e R s m args below meth c Z E F cM sM C H locs cells slots lv hR hF hS hL hst (by omega) (by omega)
/-! RULES: locals -/
theorem V.iload_n {M : MD} {d pc : Nat} {ls : List (Option MV)} {st : List MV} {h : MH} {sz kc ks : Nat} {Q : QT} {n : Fin 4} {x : Int} (i : Nat) (hd : decode M.2.1 pc = .ok (.iload_n n, 1)) (hn : (n : Nat) = i) (hi : lk ls i = some (vI x)) (k : V M d (pc + 1) ls (vI x :: st) h sz kc ks Q) : V M d pc ls st h sz kc ks Q := by
  intro p l e R s m args below meth c Z E F cM sM C H locs cells slots lv hR hF hS hL hst h1 h2
  obtain ⟨⟨hx, hb, hml, hown, hnm⟩, hSF, hFF, hrm, hret⟩ := id C
  have hq := hL.2.2 i _ hi
  exact lv_iload_n hx hb hd hn hq.1 (k p l e R s m args below meth c Z E F cM sM C H locs cells slots lv hR hF hS hL (okp hq.2 hst) h1 h2)
theorem V.iload {M : MD} {d pc : Nat} {ls : List (Option MV)} {st : List MV} {h : MH} {sz kc ks : Nat} {Q : QT} {x : Int} {i : Nat} (hd : decode M.2.1 pc = .ok (.iload i, 2)) (hi : lk ls i = some (vI x)) (k : V M d (pc + 2) ls (vI x :: st) h sz kc ks Q) : V M d pc ls st h sz kc ks Q := by
  intro p l e R s m args below meth c Z E F cM sM C H locs cells slots lv hR hF hS hL hst h1 h2
  obtain ⟨⟨hx, hb, hml, hown, hnm⟩, hSF, hFF, hrm, hret⟩ := id C
  have hq := hL.2.2 i _ hi
  exact lv_iload hx hb hd hq.1 (k p l e R s m args below meth c Z E F cM sM C H locs cells slots lv hR hF hS hL (okp hq.2 hst) h1 h2)
theorem V.lload_n {M : MD} {d pc : Nat} {ls : List (Option MV)} {st : List MV} {h : MH} {sz kc ks : Nat} {Q : QT} {n : Fin 4} {x : Int} (i : Nat) (hd : decode M.2.1 pc = .ok (.lload_n n, 1)) (hn : (n : Nat) = i) (hi : lk ls i = some (vL x)) (k : V M d (pc + 1) ls (vL x :: st) h sz kc ks Q) : V M d pc ls st h sz kc ks Q := by
  intro p l e R s m args below meth c Z E F cM sM C H locs cells slots lv hR hF hS hL hst h1 h2
  obtain ⟨⟨hx, hb, hml, hown, hnm⟩, hSF, hFF, hrm, hret⟩ := id C
  have hq := hL.2.2 i _ hi
  exact lv_lload_n hx hb hd hn hq.1 (k p l e R s m args below meth c Z E F cM sM C H locs cells slots lv hR hF hS hL (okp hq.2 hst) h1 h2)
theorem V.lload {M : MD} {d pc : Nat} {ls : List (Option MV)} {st : List MV} {h : MH} {sz kc ks : Nat} {Q : QT} {x : Int} {i : Nat} (hd : decode M.2.1 pc = .ok (.lload i, 2)) (hi : lk ls i = some (vL x)) (k : V M d (pc + 2) ls (vL x :: st) h sz kc ks Q) : V M d pc ls st h sz kc ks Q := by
  intro p l e R s m args below meth c Z E F cM sM C H locs cells slots lv hR hF hS hL hst h1 h2
  obtain ⟨⟨hx, hb, hml, hown, hnm⟩, hSF, hFF, hrm, hret⟩ := id C
  have hq := hL.2.2 i _ hi
  exact lv_lload hx hb hd hq.1 (k p l e R s m args below meth c Z E F cM sM C H locs cells slots lv hR hF hS hL (okp hq.2 hst) h1 h2)
theorem V.aload_n {M : MD} {d pc : Nat} {ls : List (Option MV)} {st : List MV} {h : MH} {sz kc ks : Nat} {Q : QT} {n : Fin 4} {w : Option Nat ⊕ Nat} (i : Nat) (hd : decode M.2.1 pc = .ok (.aload_n n, 1)) (hn : (n : Nat) = i) (hi : lk ls i = some (.inr (.inr w))) (k : V M d (pc + 1) ls (.inr (.inr w) :: st) h sz kc ks Q) : V M d pc ls st h sz kc ks Q := by
  intro p l e R s m args below meth c Z E F cM sM C H locs cells slots lv hR hF hS hL hst h1 h2
  obtain ⟨⟨hx, hb, hml, hown, hnm⟩, hSF, hFF, hrm, hret⟩ := id C
  have hq := hL.2.2 i _ hi
  have kk := k p l e R s m args below meth c Z E F cM sM C H locs cells slots lv hR hF hS hL (okp hq.2 hst) h1 h2
  rcases w with (- | a) | a
  · exact lv_aload_nN hx hb hd hn hq.1 kk
  · exact lv_aload_n hx hb hd hn hq.1 kk
  · exact lv_aload_n hx hb hd hn hq.1 kk
theorem V.aload {M : MD} {d pc : Nat} {ls : List (Option MV)} {st : List MV} {h : MH} {sz kc ks : Nat} {Q : QT} {w : Option Nat ⊕ Nat} {i : Nat} (hd : decode M.2.1 pc = .ok (.aload i, 2)) (hi : lk ls i = some (.inr (.inr w))) (k : V M d (pc + 2) ls (.inr (.inr w) :: st) h sz kc ks Q) : V M d pc ls st h sz kc ks Q := by
  intro p l e R s m args below meth c Z E F cM sM C H locs cells slots lv hR hF hS hL hst h1 h2
  obtain ⟨⟨hx, hb, hml, hown, hnm⟩, hSF, hFF, hrm, hret⟩ := id C
  have hq := hL.2.2 i _ hi
  have kk := k p l e R s m args below meth c Z E F cM sM C H locs cells slots lv hR hF hS hL (okp hq.2 hst) h1 h2
  rcases w with (- | a) | a
  · exact lv_aloadN hx hb hd hq.1 kk
  · exact lv_aload hx hb hd hq.1 kk
  · exact lv_aload hx hb hd hq.1 kk
/-- stores: the list with place i set; the place ahead of it holds no long -/
def noL (ls : List (Option MV)) (i : Nat) : Bool := match i with
  | 0 => true
  | j + 1 => match lk ls j with
    | some (.inr (.inl _)) => false
    | _ => true
def put : List (Option MV) → Nat → Option MV → List (Option MV)
  | [], 0, v => [v]
  | [], n + 1, v => none :: put [] n v
  | _ :: l, 0, v => v :: l
  | o :: l, n + 1, v => o :: put l n v
theorem lk_nil : ∀ (j : Nat), lk [] j = none
  | 0 => rfl
  | _ + 1 => rfl
theorem lk_put : ∀ (ls : List (Option MV)) (i j : Nat) (v : Option MV), lk (put ls i v) j = if j = i then v else lk ls j
  | [], 0, 0, v => rfl
  | [], 0, j + 1, v => by simp [put, lk, lk_nil]
  | [], n + 1, 0, v => by simp [put, lk]
  | [], n + 1, j + 1, v => by simp only [put, lk]; rw [lk_put [] n j v]; simp [lk_nil]
  | o :: l, 0, 0, v => rfl
  | o :: l, 0, j + 1, v => by simp [put, lk]
  | o :: l, n + 1, 0, v => by simp [put, lk]
  | o :: l, n + 1, j + 1, v => by simp only [put, lk]; rw [lk_put l n j v]; simp
def lpairs (E : Ev) (ls : List (Option MV)) : List (Nat × Value) := (List.range ls.length).filterMap (fun i => (lk ls i).map (fun v => (i, cv E v)))
theorem lk_lt : ∀ {ls : List (Option MV)} {i : Nat} {v : MV}, lk ls i = some v → i < ls.length
  | [], i, v, h => by rw [lk_nil] at h; cases h
  | o :: l, 0, v, h => Nat.succ_pos _
  | o :: l, n + 1, v, h => Nat.succ_lt_succ (lk_lt (ls := l) h)
theorem lpairs_mem {E : Ev} {ls : List (Option MV)} {i : Nat} {v : MV} (h : lk ls i = some v) : (i, cv E v) ∈ lpairs E ls :=
  List.mem_filterMap.mpr ⟨i, List.mem_range.mpr (lk_lt h), by rw [h]; rfl⟩
theorem lpairs_has {E : Ev} {nL : Nat} {ls : List (Option MV)} {lv : Array Slot} (h : LL E nL ls lv) : lv_has lv nL (lpairs E ls) := by
  refine ⟨h.1, h.2.1, fun q hq => ?_⟩
  obtain ⟨i, -, hi⟩ := List.mem_filterMap.mp hq
  cases hv : lk ls i with
  | none => rw [hv] at hi; cases hi
  | some v => rw [hv] at hi; cases hi; exact (h.2.2 i v hv).1
theorem noL_cat {E : Ev} {ls : List (Option MV)} {i j : Nat} {v : MV} (hn : noL ls i = true) (hj : lk ls j = some v) (hi : j + 1 = i) : ¬ (cv E v).category = 2 := by
  subst hi
  simp only [noL, hj] at hn
  rcases v with z | z | o | k
  · simp [cv, Value.category]
  · simp at hn
  · cases o <;> simp [cv, Value.category]
  · simp [cv, Value.category]
theorem LL_put1 {E : Ev} {nL i : Nat} {ls : List (Option MV)} {lv lv2 : Array Slot} {v : MV} (h : LL E nL ls lv) (hn : noL ls i = true) (hv : okV v) (h2 : lv_has lv2 nL ((i, cv E v) :: (lpairs E ls).filter (fun q => !(q.1 == i) && !(q.1 + 1 == i && q.2.category == 2)))) : LL E nL (put ls i (some v)) lv2 := by
  refine ⟨h2.1, h2.2.1, fun j w hw => ?_⟩
  rw [lk_put] at hw
  by_cases hj : j = i
  · subst hj; rw [if_pos rfl] at hw; cases hw
    exact ⟨h2.2.2 _ List.mem_cons_self, hv⟩
  · rw [if_neg hj] at hw
    refine ⟨h2.2.2 (j, cv E w) (List.mem_cons_of_mem _ (List.mem_filter.mpr ⟨lpairs_mem hw, ?_⟩)), (h.2.2 j w hw).2⟩
    by_cases hji : j + 1 = i
    · have := noL_cat (E := E) hn hw hji
      simp [hj, this]
    · simp [hj, hji]
theorem LL_put2 {E : Ev} {nL i : Nat} {ls : List (Option MV)} {lv lv2 : Array Slot} {v : MV} (h : LL E nL ls lv) (hn : noL ls i = true) (hv : okV v) (h2 : lv_has lv2 nL ((i, cv E v) :: (lpairs E ls).filter (fun q => !(q.1 == i) && (!(q.1 == i + 1) && !(q.1 + 1 == i && q.2.category == 2))))) : LL E nL (put (put ls i (some v)) (i + 1) none) lv2 := by
  refine ⟨h2.1, h2.2.1, fun j w hw => ?_⟩
  rw [lk_put] at hw
  by_cases hj1 : j = i + 1
  · rw [if_pos hj1] at hw; cases hw
  rw [if_neg hj1, lk_put] at hw
  by_cases hj : j = i
  · subst hj; rw [if_pos rfl] at hw; cases hw
    exact ⟨h2.2.2 _ List.mem_cons_self, hv⟩
  · rw [if_neg hj] at hw
    refine ⟨h2.2.2 (j, cv E w) (List.mem_cons_of_mem _ (List.mem_filter.mpr ⟨lpairs_mem hw, ?_⟩)), (h.2.2 j w hw).2⟩
    by_cases hji : j + 1 = i
    · have := noL_cat (E := E) hn hw hji
      simp [hj, hj1, this]
    · simp [hj, hj1, hji]
theorem LL_sub {E : Ev} {nL : Nat} {ls ls2 : List (Option MV)} {lv : Array Slot} (h : LL E nL ls lv) (hs : ∀ i v, lk ls2 i = some v → lk ls i = some v) : LL E nL ls2 lv := ⟨h.1, h.2.1, fun i v hv => h.2.2 i v (hs i v hv)⟩
theorem V.locs {M : MD} {d pc : Nat} {ls : List (Option MV)} {st : List MV} {h : MH} {sz kc ks : Nat} {Q : QT} {ls2 : List (Option MV)} (hs : ∀ i v, lk ls2 i = some v → lk ls i = some v) (k : V M d pc ls2 st h sz kc ks Q) : V M d pc ls st h sz kc ks Q := by
  intro p l e R s m args below meth c Z E F cM sM C H locs cells slots lv hR hF hS hL hst h1 h2
  obtain ⟨⟨hx, hb, hml, hown, hnm⟩, hSF, hFF, hrm, hret⟩ := id C
  exact k p l e R s m args below meth c Z E F cM sM C H locs cells slots lv hR hF hS (LL_sub hL hs) hst h1 h2
theorem V.istore_n {M : MD} {d pc : Nat} {ls : List (Option MV)} {st : List MV} {h : MH} {sz kc ks : Nat} {Q : QT} {n : Fin 4} {x : Int} (i : Nat) (hd : decode M.2.1 pc = .ok (.istore_n n, 1)) (hn : (n : Nat) = i) (hL0 : i < M.2.2.1) (hl : noL ls i = true) (k : V M d (pc + 1) (put ls i (some (vI x))) st h sz kc ks Q) : V M d pc ls (vI x :: st) h sz kc ks Q := by
  intro p l e R s m args below meth c Z E F cM sM C H locs cells slots lv hR hF hS hL hst h1 h2
  obtain ⟨⟨hx, hb, hml, hown, hnm⟩, hSF, hFF, hrm, hret⟩ := id C
  refine lv_istore_n hx hb hd hn (lpairs_has hL) hL0 rfl (fun lv2 hl2 => ?_)
  exact k p l e R s m args below meth c Z E F cM sM C H locs cells slots lv2 hR hF hS (LL_put1 hL hl (okh hst) hl2) (okt hst) h1 h2
theorem V.istore {M : MD} {d pc : Nat} {ls : List (Option MV)} {st : List MV} {h : MH} {sz kc ks : Nat} {Q : QT} {x : Int} {i : Nat} (hd : decode M.2.1 pc = .ok (.istore i, 2)) (hL0 : i < M.2.2.1) (hl : noL ls i = true) (k : V M d (pc + 2) (put ls i (some (vI x))) st h sz kc ks Q) : V M d pc ls (vI x :: st) h sz kc ks Q := by
  intro p l e R s m args below meth c Z E F cM sM C H locs cells slots lv hR hF hS hL hst h1 h2
  obtain ⟨⟨hx, hb, hml, hown, hnm⟩, hSF, hFF, hrm, hret⟩ := id C
  refine lv_istore hx hb hd (lpairs_has hL) hL0 rfl (fun lv2 hl2 => ?_)
  exact k p l e R s m args below meth c Z E F cM sM C H locs cells slots lv2 hR hF hS (LL_put1 hL hl (okh hst) hl2) (okt hst) h1 h2
theorem V.lstore_n {M : MD} {d pc : Nat} {ls : List (Option MV)} {st : List MV} {h : MH} {sz kc ks : Nat} {Q : QT} {n : Fin 4} {x : Int} (i : Nat) (hd : decode M.2.1 pc = .ok (.lstore_n n, 1)) (hn : (n : Nat) = i) (hL0 : i + 1 < M.2.2.1) (hl : noL ls i = true) (k : V M d (pc + 1) (put (put ls i (some (vL x))) (i + 1) none) st h sz kc ks Q) : V M d pc ls (vL x :: st) h sz kc ks Q := by
  intro p l e R s m args below meth c Z E F cM sM C H locs cells slots lv hR hF hS hL hst h1 h2
  obtain ⟨⟨hx, hb, hml, hown, hnm⟩, hSF, hFF, hrm, hret⟩ := id C
  refine lv_lstore_n hx hb hd hn (lpairs_has hL) hL0 rfl (fun lv2 hl2 => ?_)
  exact k p l e R s m args below meth c Z E F cM sM C H locs cells slots lv2 hR hF hS (LL_put2 hL hl (okh hst) hl2) (okt hst) h1 h2
theorem V.lstore {M : MD} {d pc : Nat} {ls : List (Option MV)} {st : List MV} {h : MH} {sz kc ks : Nat} {Q : QT} {x : Int} {i : Nat} (hd : decode M.2.1 pc = .ok (.lstore i, 2)) (hL0 : i + 1 < M.2.2.1) (hl : noL ls i = true) (k : V M d (pc + 2) (put (put ls i (some (vL x))) (i + 1) none) st h sz kc ks Q) : V M d pc ls (vL x :: st) h sz kc ks Q := by
  intro p l e R s m args below meth c Z E F cM sM C H locs cells slots lv hR hF hS hL hst h1 h2
  obtain ⟨⟨hx, hb, hml, hown, hnm⟩, hSF, hFF, hrm, hret⟩ := id C
  refine lv_lstore hx hb hd (lpairs_has hL) hL0 rfl (fun lv2 hl2 => ?_)
  exact k p l e R s m args below meth c Z E F cM sM C H locs cells slots lv2 hR hF hS (LL_put2 hL hl (okh hst) hl2) (okt hst) h1 h2
theorem V.astore_n {M : MD} {d pc : Nat} {ls : List (Option MV)} {st : List MV} {h : MH} {sz kc ks : Nat} {Q : QT} {n : Fin 4} {w : Option Nat ⊕ Nat} (i : Nat) (hd : decode M.2.1 pc = .ok (.astore_n n, 1)) (hn : (n : Nat) = i) (hL0 : i < M.2.2.1) (hl : noL ls i = true) (k : V M d (pc + 1) (put ls i (some (.inr (.inr w)))) st h sz kc ks Q) : V M d pc ls (.inr (.inr w) :: st) h sz kc ks Q := by
  intro p l e R s m args below meth c Z E F cM sM C H locs cells slots lv hR hF hS hL hst h1 h2
  obtain ⟨⟨hx, hb, hml, hown, hnm⟩, hSF, hFF, hrm, hret⟩ := id C
  rcases w with (- | a) | a
  · exact lv_astore_nN hx hb hd hn (lpairs_has hL) hL0 rfl (fun lv2 hl2 => k p l e R s m args below meth c Z E F cM sM C H locs cells slots lv2 hR hF hS (LL_put1 hL hl (okh hst) hl2) (okt hst) h1 h2)
  · exact lv_astore_n hx hb hd hn (lpairs_has hL) hL0 rfl (fun lv2 hl2 => k p l e R s m args below meth c Z E F cM sM C H locs cells slots lv2 hR hF hS (LL_put1 hL hl (okh hst) hl2) (okt hst) h1 h2)
  · exact lv_astore_n hx hb hd hn (lpairs_has hL) hL0 rfl (fun lv2 hl2 => k p l e R s m args below meth c Z E F cM sM C H locs cells slots lv2 hR hF hS (LL_put1 hL hl (okh hst) hl2) (okt hst) h1 h2)
theorem V.astore {M : MD} {d pc : Nat} {ls : List (Option MV)} {st : List MV} {h : MH} {sz kc ks : Nat} {Q : QT} {w : Option Nat ⊕ Nat} {i : Nat} (hd : decode M.2.1 pc = .ok (.astore i, 2)) (hL0 : i < M.2.2.1) (hl : noL ls i = true) (k : V M d (pc + 2) (put ls i (some (.inr (.inr w)))) st h sz kc ks Q) : V M d pc ls (.inr (.inr w) :: st) h sz kc ks Q := by
  intro p l e R s m args below meth c Z E F cM sM C H locs cells slots lv hR hF hS hL hst h1 h2
  obtain ⟨⟨hx, hb, hml, hown, hnm⟩, hSF, hFF, hrm, hret⟩ := id C
  rcases w with (- | a) | a
  · exact lv_astoreN hx hb hd (lpairs_has hL) hL0 rfl (fun lv2 hl2 => k p l e R s m args below meth c Z E F cM sM C H locs cells slots lv2 hR hF hS (LL_put1 hL hl (okh hst) hl2) (okt hst) h1 h2)
  · exact lv_astore hx hb hd (lpairs_has hL) hL0 rfl (fun lv2 hl2 => k p l e R s m args below meth c Z E F cM sM C H locs cells slots lv2 hR hF hS (LL_put1 hL hl (okh hst) hl2) (okt hst) h1 h2)
  · exact lv_astore hx hb hd (lpairs_has hL) hL0 rfl (fun lv2 hl2 => k p l e R s m args below meth c Z E F cM sM C H locs cells slots lv2 hR hF hS (LL_put1 hL hl (okh hst) hl2) (okt hst) h1 h2)
theorem V.iinc {M : MD} {d pc : Nat} {ls : List (Option MV)} {st : List MV} {h : MH} {sz kc ks : Nat} {Q : QT} {x n : Int} {i : Nat} (hd : decode M.2.1 pc = .ok (.iinc i n, 3)) (hi : lk ls i = some (vI x)) (hz : i32 (x + n)) (hL0 : i < M.2.2.1) (hl : noL ls i = true) (k : V M d (pc + 3) (put ls i (some (vI (x + n)))) st h sz kc ks Q) : V M d pc ls st h sz kc ks Q := by
  intro p l e R s m args below meth c Z E F cM sM C H locs cells slots lv hR hF hS hL hst h1 h2
  obtain ⟨⟨hx, hb, hml, hown, hnm⟩, hSF, hFF, hrm, hret⟩ := id C
  obtain ⟨kk, hk⟩ := List.getElem?_of_mem (lpairs_mem (E := E) hi)
  refine lv_iinc hx hb hd (lpairs_has hL) hk (v := Int32.ofInt (x + n)) (by rw [Int32.ofInt_add]) hL0 rfl (fun lv2 hl2 => ?_)
  exact k p l e R s m args below meth c Z E F cM sM C H locs cells slots lv2 hR hF hS (LL_put1 (v := vI (x + n)) hL hl hz hl2) hst h1 h2
/-! RULES: the end -/
theorem V.ret {M : MD} {d pc : Nat} {ls : List (Option MV)} {st : List MV} {h : MH} {sz kc ks : Nat} {Q : QT} {r : Option MV} (hd : decode M.2.1 pc = .ok (retI r, 1)) (hr : okRet M.2.2.2 r) (hs : st = r.toList) (hq : Q r h sz) : V M d pc ls st h sz kc ks Q := by
  intro p l e R s m args below meth c Z E F cM sM C H locs cells slots lv hR hF hS hL hst h1 h2
  obtain ⟨⟨hx, hb, hml, hown, hnm⟩, hSF, hFF, hrm, hret⟩ := id C
  refine W.widen (k := cM) (n := sM) (by omega) (by omega) ?_
  subst hs
  exact hret H locs lv pc r h sz hR hF hS (fun v hv => hst v (by rw [hv]; exact List.mem_cons_self)) hr hq hd
