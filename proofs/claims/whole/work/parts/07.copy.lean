/-! RULES: copies of arrays -/
theorem cat4 (E : Ev) (st : List MV) : ((st.map (cv E)).map fun v => v.category).sum ≤ 2 * st.length := by
  induction st with
  | nil => exact Nat.le_refl _
  | cons v t ih =>
    rw [List.map_cons, List.map_cons, List.sum_cons, List.length_cons]
    have := lv_cat (cv E v)
    omega
/-- a stretch of f, of n places from sp on, laid over g from dp on -/
def cpf (f g : Nat → Int) (sp dp n : Nat) : Nat → Int := fun k => if dp ≤ k ∧ k < dp + n then f (sp + (k - dp)) else g k
section HR3
variable {M : MD} {d pc : Nat} {ls : List (Option MV)} {st : List MV} {h : MH} {sz kc ks : Nat} {Q : QT}
theorem V.acopy {index a0 t0 n0 a t n1 : Nat} {f g : Nat → Int} {sp dp n : Int} (hw1 : Cond.methodLink M.1.cls index arraycopyName ∈ lw_tbl) (hd1 : 2 ≤ d) (hst9 : st.length ≤ 4) (hd : decode M.2.1 pc = .ok (.invokestatic index, 3)) (ha0 : h a0 = some (kA t0 n0 f)) (ha : h a = some (kA t n1 g)) (c1 : 0 ≤ sp) (c2 : 0 ≤ dp) (c3 : 0 ≤ n) (c4 : sp + n ≤ n0) (c5 : dp + n ≤ n1)
    (kk : V M d (pc + 3) ls st (hset h a (kA t n1 (cpf f g sp.toNat dp.toNat n.toNat))) sz kc ks Q) : V M d pc ls (vI n :: vI dp :: vR a :: vI sp :: vR a0 :: st) h sz kc ks Q := by
  intro p l e R s m args below meth c Z E F cM sM C1 H locs cells slots lv hR hF hS hL hst h1 h2
  obtain ⟨⟨hx, hb, hml, hown, hnm⟩, hSF, hFF, hrm, hret⟩ := id C1
  have hn : i32 n := okh hst
  have hdp : i32 dp := okh (okt hst)
  have hsp : i32 sp := okh (okt (okt (okt hst)))
  have nz : ∀ {z : Int}, i32 z → 0 ≤ z → ¬ Int32.ofInt z < 0 := fun {z} hz h0 => by rw [show (0 : Int32) = Int32.ofInt 0 from rfl, i32_lt hz i32_0]; omega
  have hc4 := cat4 E st
  have hnf : nativeFrameWords "java/lang/System" "arraycopy" 5 ≤ 40 := by decide +kernel
  obtain ⟨hok0, hat0⟩ := hR.2 a0 _ ha0
  obtain ⟨hok, hat⟩ := hR.2 a _ ha
  have hat0 : H[eb E + a0]? = some (arrV (E.2.1 0) n0 (fun j => .int (Int32.ofInt (f j)))) := hat0
  have hat : H[eb E + a]? = some (arrV (E.2.1 0) n1 (fun j => .int (Int32.ofInt (g j)))) := hat
  intro T hT X
  obtain ⟨-, k0, hk0, cm0, hkk0⟩ := (hSF.1.2 0 _ rfl).1 n0 (fun j => .int (Int32.ofInt (f j)))
  obtain ⟨-, k1, hk1, cm1, hkk1⟩ := (hSF.1.2 0 _ rfl).1 n1 (fun j => .int (Int32.ofInt (g j)))
  obtain ⟨vm', X', step⟩ := X.arraycopy hx hown (hSF.w hw1 rfl args) (hSF.w (w := .native arraycopyName) (by decide +kernel) rfl args) (hSF.w (w := .static arraycopyName) (by decide +kernel) rfl args) (hSF.w (w := .initialized "java/lang/System") (by decide +kernel) rfl args)
    (src := eb E + a0) (dst := eb E + a) (cs := arrV (E.2.1 0) n0 (fun j => .int (Int32.ofInt (f j)))) (cd := arrV (E.2.1 0) n1 (fun j => .int (Int32.ofInt (g j)))) (srcPos := Int32.ofInt sp) (destPos := Int32.ofInt dp) (n := Int32.ofInt n) (by rw [hT]; exact hat0) (by rw [hT]; exact hat)
    (fun _ q => by cases q) (fun _ q => by cases q) (fun q => by cases q) (fun q => by cases q) hk0 hk1 hkk0 hkk1 (by simp [refKind]) (nz hsp c1) (nz hdp c2) (nz hn c3)
    (by rw [i32_to hsp, i32_to hn, arrV_size]; omega)
    (by rw [i32_to hdp, i32_to hn, arrV_size]; omega)
    (fun vm₁ _ i hi => by
      rw [i32_cl hn] at hi
      have e9 : (arrV (E.2.1 0) n0 (fun j => Value.int (Int32.ofInt (f j)))).slots.getD ((Int32.ofInt sp).toNatClampNeg + i) .null = .int (Int32.ofInt (f (sp.toNat + i))) := by
        rw [i32_cl hsp, Array.getD_eq_getD_getElem?, arrV_read _ _ (by omega)]
        rfl
      refine ⟨?_, ?_⟩
      · rw [e9]; rfl
      · rw [e9]; exact trivial)
    (g := F0 m pc lv ((vI n :: vI dp :: vR a :: vI sp :: vR a0 :: st).map (cv E))) rfl (by rw [hml]; exact hL.1) (rest := st.map (cv E)) rfl (by rw [hb]; exact hd) (by omega) (by show 2 * 0 + _ + (nativeFrameWords "java/lang/System" "arraycopy" 5 + 11) ≤ _; omega)
  have e1 : copied (arrV (E.2.1 0) n0 (fun j => .int (Int32.ofInt (f j)))) (arrV (E.2.1 0) n1 (fun j => .int (Int32.ofInt (g j)))) (Int32.ofInt sp) (Int32.ofInt dp) (Int32.ofInt n) = arrV (E.2.1 0) n1 (fun j => .int (Int32.ofInt (cpf f g sp.toNat dp.toNat n.toNat j))) := by
    have q := va_copied (fun z => Value.int (Int32.ofInt z)) (E.2.1 0) (E.2.1 0) (n0 := n0) (n1 := n1) (sp := sp.toNat) (dp := dp.toNat) (n := n.toNat) f g (by omega)
    unfold copied
    rw [i32_cl hsp, i32_cl hdp, i32_cl hn]
    exact q
  rw [e1] at X' step
  generalize hCe : arrV (E.2.1 0) n1 (fun j => Value.int (Int32.ofInt (cpf f g sp.toNat dp.toNat n.toNat j))) = CC at X' step
  have hl : eb E + a < H.size := (Array.getElem?_eq_some_iff.mp hat).1
  have hheap : ((T.setVm vm').setCell (eb E + a) CC).heap = H.setIfInBounds (eb E + a) CC := by rw [← hT]; rfl
  have oq : ∀ q : Nat, q ≠ eb E + a → (H.setIfInBounds (eb E + a) CC)[q]? = H[q]? := fun q hq => by simp [Array.getElem?_setIfInBounds, Ne.symm hq]
  have hz : (H.setIfInBounds (eb E + a) CC).size = H.size := by simp
  have hR2 : RW E (hset h a (kA t n1 (cpf f g sp.toNat dp.toNat n.toNat))) sz (H.setIfInBounds (eb E + a) CC) := by
    refine hR.set hz oq ⟨hok.1, fun j hj => ⟨?_, fun q => by cases q⟩⟩ ?_
    · unfold cpf; split
      · exact (hok0.2 _ (by omega)).1
      · exact (hok.2 j hj).1
    · show (H.setIfInBounds (eb E + a) CC)[eb E + a]? = some (arrV (E.2.1 0) n1 (fun j => .int (Int32.ofInt (cpf f g sp.toNat dp.toNat n.toNat j))))
      rw [hCe]
      simp [Array.getElem?_setIfInBounds, hl]
  obtain ⟨t9, a1, b1⟩ := kk p l e R s m args below meth c Z E F cM sM C1 _ _ cells slots lv hR2 (hset_F hF (hF a _ ha)) ⟨by rw [hz]; exact hS.1, fun q q1 q2 => by
      rw [oq q (fun e9 => q2 (by rw [e9]; exact hF a _ ha))]
      exact hS.2.1 q q1 q2, fun q hq => by
      rcases List.mem_append.mp hq with q1 | q1
      · exact hS.2.2 q q1
      · obtain ⟨z, -, hz⟩ := List.mem_map.mp q1
        rw [← hz]
        exact hF a _ ha⟩ hL (okt (okt (okt (okt (okt hst))))) h1 h2 _ hheap X'
  exact ⟨t9, step t9 a1, b1⟩
theorem V.aclone {index a t0 n : Nat} {f : Nat → Int} (t : Nat) {kc2 ks2 : Nat} (hw1 : Cond.methodLink M.1.cls index ⟨"[I", "clone", "()Ljava/lang/Object;"⟩ ∈ lw_tbl) (hd1 : 1 ≤ d) (hst9 : st.length ≤ 4) (hd : decode M.2.1 pc = .ok (.invokevirtual index, 3)) (ha : h a = some (kA t0 n f)) (g1 : kc2 + 1 ≤ kc) (g2 : ks2 + n ≤ ks)
    (kk : V M d (pc + 3) ls (vR sz :: st) (hset h sz (kA t n f)) (sz + 1) kc2 ks2 Q) : V M d pc ls (vR a :: st) h sz kc ks Q := by
  intro p l e R s m args below meth c Z E F cM sM C1 H locs cells slots lv hR hF hS hL hst h1 h2
  obtain ⟨⟨hx, hb, hml, hown, hnm⟩, hSF, hFF, hrm, hret⟩ := id C1
  have := cat4 E st
  obtain ⟨hok, hat⟩ := hR.2 a _ ha
  have hat : H[eb E + a]? = some (arrV (E.2.1 0) n (fun j => .int (Int32.ofInt (f j)))) := hat
  have hnmA : s.vm.findClass "[I" = some (E.2.1 0) := (hSF.1.2 0 _ rfl).2
  obtain ⟨c0, t1, f1, f2, f3⟩ := Cond.castable_spec (va_Nw.use (A := args) rfl (hSF.2.2.1 ("[I", "java/lang/Cloneable") (by decide +kernel)))
  cases hnmA.symm.trans f1
  have hsz : H.size = eb E + sz := hR.1
  intro T hT X
  obtain ⟨-, kA', hkA', comp, hkind⟩ := State.isArrayOf_alike X.warmed.alike ((hSF.1.2 0 _ rfl).1 0 (fun _ => .null))
  obtain ⟨-, kS, hkS, compS, hkindS⟩ := (hSF.1.2 0 _ rfl).1 0 (fun _ => .null)
  obtain ⟨vm', X', stp⟩ := X.cloneArray hx hown (hSF.w hw1 rfl args) (hSF.w (w := .sameMethod "[I" "java/lang/Object" "clone" "()Ljava/lang/Object;") (by decide +kernel) rfl args) (hSF.w (w := .native ⟨"java/lang/Object", "clone", "()Ljava/lang/Object;"⟩) (by decide +kernel) rfl args) (hSF.w (w := .instanceMethod ⟨"java/lang/Object", "clone", "()Ljava/lang/Object;"⟩) (by decide +kernel) rfl args) (hSF.w (w := .selects "[I" ⟨"[I", "clone", "()Ljava/lang/Object;"⟩ ⟨"java/lang/Object", "clone", "()Ljava/lang/Object;"⟩) (by decide +kernel) rfl args)
    (a := eb E + a) (cell := arrV (E.2.1 0) n (fun j => .int (Int32.ofInt (f j)))) (by rw [hT]; exact hat) (fun k q => by cases q) (fun q => by cases q) hnmA f2 f3
    (fun i v hv => by
      have hk' : T.vm.classes[E.2.1 0]? = some kA' := hkA'
      have hlt : i < n := by
        have := (Array.getElem?_eq_some_iff.mp hv).1
        rw [arrV_size] at this; exact this
      rw [arrV_read _ _ hlt] at hv
      cases hv
      simp [State.fitsSlot, State.slotType?, arrV, hk', hkind, fits])
    (g := F0 m pc lv ((vR a :: st).map (cv E))) rfl (by rw [hml]; exact hL.1) (rest := st.map (cv E)) rfl (by rw [hb]; exact hd) (by omega) (by show 2 * 0 + _ + 14 ≤ _; omega) (by omega) (by rw [arrV_size]; omega) (hloader := Vm.clonesLoader_of_array hkS hkindS)
  have hce : ({ cls := (arrV (E.2.1 0) n (fun j => Value.int (Int32.ofInt (f j)))).cls, slots := (arrV (E.2.1 0) n (fun j => Value.int (Int32.ofInt (f j)))).slots } : Cell) = arrV (E.2.1 0) n (fun j => Value.int (Int32.ofInt (f j))) := rfl
  rw [hce, arrV_size] at X'
  rw [hce, hT] at stp
  generalize hCe : arrV (E.2.1 0) n (fun j => Value.int (Int32.ofInt (f j))) = CC at X' stp
  generalize hH1 : H.push CC = H1
  have z1 : H1.size = H.size + 1 := by rw [← hH1, Array.size_push]
  have e1 : H1[H.size]? = some CC := by rw [← hH1, Array.getElem?_push_size]
  have o1 : ∀ q : Nat, q < H.size → H1[q]? = H[q]? := fun q hq => by rw [← hH1, Array.getElem?_push, if_neg (Nat.ne_of_lt hq)]
  have hR2 : RW E (hset h sz (kA t n f)) (sz + 1) H1 := by
    refine hR.push z1 o1 ⟨hok.1, fun j hj => hok.2 j hj⟩ ?_
    rw [← hsz]
    show H1[H.size]? = some (arrV (E.2.1 0) n (fun j => .int (Int32.ofInt (f j))))
    rw [hCe]; exact e1
  obtain ⟨t9, a1, b1⟩ := kk p l e R s m args below meth c Z E F cM sM C1 H1 locs (cells + 1) (slots + n) lv hR2 (hset_F hF (by rw [← hsz]; exact hFF.1 _ hS.1)) (hS.push1 z1 o1) hL (okp (v := vR sz) trivial (okt hst)) (by omega) (by omega) ((T.setVm vm').pushCell CC) (by rw [← hH1, ← hT]; rfl) X'
  refine ⟨t9, stp t9 ?_, b1⟩
  rw [hsz]
  exact a1
end HR3
