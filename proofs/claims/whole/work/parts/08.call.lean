/-! RULES: calls -/
/-- a method that may be called, with n parameters -/
def MOK (M2 : MD) (n : Nat) : Prop := Cond.code M2.1 M2.2.1 M2.2.2.1 M2.2.2.2 ∈ lw_tbl ∧ Cond.initialized M2.1.cls ∈ lw_tbl ∧ (M2.1.cls ≠ "java/lang/invoke/MethodHandle" ∧ M2.1.cls ≠ "java/lang/invoke/VarHandle") ∧ (parseMethodDescriptor M2.1.desc).map (fun q => q.parameters.length) = some n ∧ M2.2.2.1 ≤ 21
theorem MOK.len {M2 : MD} {n : Nat} (h : MOK M2 n) : ∀ sig, parseMethodDescriptor M2.1.desc = some sig → n = sig.parameters.length := fun sig q => by
  have h2 := h.2.2.2.1
  rw [q] at h2
  exact (Option.some.inj h2).symm
def hov (h2 h hc : MH) (sz : Nat) : MH := fun a => match h2 a with
  | some c => some c
  | none => if hc a = none ∧ a < sz then h a else none
theorem hov_self (h2 h : MH) (sz : Nat) : hov h2 h h sz = h2 := by
  funext a
  unfold hov
  cases e : h2 a with
  | some c => rfl
  | none =>
    simp only
    by_cases q : h a = none
    · rw [q]; split <;> rfl
    · rw [if_neg (fun z => q z.1)]
theorem cPre_blind (E : Ev) (as : List MV) (h : MH) (sz : Nat) : FrameBlind (cPre E as h sz) := by
  intro a U g mk q
  obtain ⟨q1, q2, q3, q4⟩ := q
  exact ⟨q1, q2, q3.warm (U := U.calling g mk a) (State.WarmedH.refl U) q3.base (fun _ _ _ => rfl), q4⟩
section CALL
variable {M : MD} {d pc : Nat} {ls : List (Option MV)} {st : List MV} {h : MH} {sz kc ks : Nat} {Q : QT}
/-- what a call gives, in any state of the caller's walk -/
def RunC (M : MD) (d pc : Nat) (st0 st : List MV) (h : MH) (sz : Nat) (hc : MH) (mc ms : Nat) (Qc : QT) : Prop :=
  ∀ (p : Program) (l : Launch) (e : Env) (R : Room) (s : State) (m : MethodId) (args : Array Value) (below : List Frame) (meth : Method) (c : Code) (E : Ev) (F : Nat → Prop) (H : Heap) (locs : List Loc) (cells slots : Nat) (lv : Array Slot),
    (p.tables.exec = Jvm.exec ∧ c.code = M.2.1 ∧ c.maxLocals = M.2.2.1 ∧ s.vm.findClass M.1.cls = some m.cls) → SF E s → ((∀ q, s.heap.size ≤ q → F q) ∧ (∀ q, F q → eb E ≤ q)) → (d ≤ R.frames ∧ 40 * d ≤ R.locals) → RW E h sz H → RW E hc sz H → va_S F s.heap H locs → lv.size = M.2.2.1 → (∀ v ∈ st0, okV v) → cells + mc ≤ R.cells → slots + ms ≤ R.slots →
    ∃ a, va_Run p l e R s m args below meth c H locs cells slots mc ms (F0 m pc lv (st0.map (cv E))) (st.map (cv E)) (cPost E hc sz Qc a) (FR E hc sz)
theorem V.call {st0 : List MV} {hc : MH} {mc ms kc2 ks2 : Nat} {Qc : QT} (hrun : RunC M d pc st0 st h sz hc mc ms Qc) (hsub : ∀ a c, hc a = some c → h a = some c) (hst0 : (∀ v ∈ st0, okV v) → ∀ v ∈ st, okV v) (g1 : kc2 + mc ≤ kc) (g2 : ks2 + ms ≤ ks)
    (kk : ∀ (r : Option MV) (h2 : MH) (sz2 : Nat), Qc r h2 sz2 → V M d (pc + 3) ls (r.toList ++ st) (hov h2 h hc sz) sz2 kc2 ks2 Q) : V M d pc ls st0 h sz kc ks Q := by
  intro p l e R s m args below meth c Z E F cM sM C1 H locs cells slots lv hR hF hS hL hst h1 h2
  obtain ⟨⟨hx, hb, hml, hown, hnm⟩, hSF, hFF, hrm, hret⟩ := id C1
  have hRc : RW E hc sz H := ⟨hR.1, fun a c ha => hR.2 a c (hsub a c ha)⟩
  obtain ⟨a9, hr⟩ := hrun p l e R s m args below meth c E F H locs cells slots lv ⟨hx, hb, hml, hown⟩ hSF hFF ⟨hrm.1, hrm.2.1⟩ hR hRc hS hL.1 hst (by omega) (by omega)
  intro T hT X
  obtain ⟨v, st₀, t, T', L, h0, X', hLf, e1, e2, ⟨r, h3, sz3, hv, hokr, hq, hR3, hF3, hz3, hk3⟩, stp⟩ := hr T hT X
  have hve : v = r.map (cv E) := Outcome.returned.inj hv
  subst hve
  rw [h0] at hz3 hk3
  have hFRF : ∀ q, FR E hc sz q → F q := by
    intro q hq
    rcases hq with ⟨a, c, ha, rfl⟩ | hq
    · exact hF a c (hsub a c ha)
    · exact hFF.1 q (Nat.le_trans hS.1 (by rw [hR.1]; exact hq))
  have hkeep : ∀ a, hc a = none → a < sz → t.heap[eb E + a]? = H[eb E + a]? := by
    intro a n1 n2
    refine hk3 (eb E + a) (by rw [hR.1]; omega) ?_
    rintro (⟨b, c, hb1, hb2⟩ | q)
    · have : b = a := by omega
      subst this
      rw [n1] at hb1; cases hb1
    · omega
  have hR9 : RW E (hov h3 h hc sz) sz3 T'.heap := by
    rw [e1]
    refine ⟨hR3.1, fun a c ha => ?_⟩
    unfold hov at ha
    cases q3 : h3 a with
    | some c3 => rw [q3] at ha; cases ha; exact hR3.2 a c q3
    | none =>
      rw [q3] at ha
      simp only at ha
      split at ha
      · rename_i qq
        have := hR.2 a c ha
        exact ⟨this.1, this.2.kept (hkeep a qq.1 qq.2)⟩
      · cases ha
  have hF9 : ∀ a c, hov h3 h hc sz a = some c → F (eb E + a) := by
    intro a c ha
    unfold hov at ha
    cases q3 : h3 a with
    | some c3 => exact hFRF _ (hF3 a c3 q3)
    | none =>
      rw [q3] at ha
      simp only at ha
      split at ha
      · exact hF a c ha
      · cases ha
  have hS9 : va_S F s.heap T'.heap (locs ++ L) := by
    rw [e1]
    refine ⟨Nat.le_trans hS.1 hz3, fun q q1 q2 => ?_, fun q hq => ?_⟩
    · rw [hk3 q (Nat.lt_of_lt_of_le q1 hS.1) (fun z => q2 (hFRF q z))]
      exact hS.2.1 q q1 q2
    · rcases List.mem_append.mp hq with q1 | q1
      · exact hS.2.2 q q1
      · exact hFRF _ (hLf q q1)
  have hok9 : ∀ v ∈ r.toList ++ st, okV v := by
    intro w hw
    rcases List.mem_append.mp hw with q | q
    · exact hokr w (by cases r with
        | none => cases q
        | some r' => rw [List.mem_singleton.mp q])
    · exact hst0 hst w q
  obtain ⟨t2, a1, b1⟩ := kk r h3 sz3 hq p l e R s m args below meth c Z E F cM sM C1 T'.heap (locs ++ L) (cells + mc) (slots + ms) lv hR9 hF9 hS9 hL hok9 (by omega) (by omega) T' rfl X'
  refine ⟨t2, stp t2 ?_, b1⟩
  have e9 : (r.toList ++ st).map (cv E) = (r.map (cv E)).toList ++ st.map (cv E) := by cases r <;> rfl
  rw [e9] at a1
  exact a1
theorem pre_of {E : Ev} {F : Nat → Prop} {s U : State} {H : Heap} {locs : List Loc} {as : List MV} {hc : MH} (hSF : SF E s) (hFF : (∀ q, s.heap.size ≤ q → F q) ∧ (∀ q, F q → eb E ≤ q)) (hR : RW E hc sz H) (hS : va_S F s.heap H locs) (hok : ∀ v ∈ as, okV v) (hU : U.heap = H) (hW : s.WarmedH U.vm) : cPre E as hc sz (as.map (cv E)).toArray U := by
  refine ⟨rfl, hok, hSF.warm hW (by rw [hU, hR.1]; omega) (fun q q1 q2 => by rw [hU]; exact hS.2.1 q q1 (fun z => q2 (hFF.2 q z))), by rw [hU]; exact hR⟩
theorem code_good {E : Ev} {s : State} {M2 : MD} {n : Nat} (hSF : SF E s) (h : MOK M2 n) : ∀ w ∈ [Cond.code M2.1 M2.2.1 M2.2.2.1 M2.2.2.2], ∀ (a' : Array Value) (U : State), s.WarmedH U.vm → w.before a' U = true := by
  intro w hw a' U hW
  rw [List.mem_singleton.mp hw]
  exact word_at hW (Or.inl rfl) (hSF.w h.1 rfl #[])
theorem lroom {m : MethodId} {pc : Nat} {lv : Array Slot} {E : Ev} {st0 : List MV} (st : List MV) (h : st.length ≤ 4) : 2 * (F0 m pc lv (st0.map (cv E))).monitorRoom + ((st.map (cv E)).map fun v => v.category).sum ≤ 8 := by
  have := cat4 E st
  exact lv_room (by omega)
/-- a static method -/
theorem run_S {M2 : MD} {d2 mc ms n index : Nat} {as : List MV} {hc : MH} {Qc : QT} (hC : Ct M2 d2 mc ms as hc sz Qc) (ho : MOK M2 n) (hw1 : Cond.methodLink M.1.cls index M2.1 ∈ lw_tbl) (hw2 : Cond.static M2.1 ∈ lw_tbl) (hn : as.length = n) (hdd : d2 + 1 ≤ d) (h4 : st.length ≤ 4) (hd : decode M.2.1 pc = .ok (.invokestatic index, 3)) : RunC M d pc (as.reverse ++ st) st h sz hc mc ms Qc := by
  intro p l e R s m args below meth c E F H locs cells slots lv hB hSF hFF hrm hR hRc hS hlv hok hc1 hc2
  obtain ⟨hx, hb, hml, hown⟩ := hB
  have hoka : ∀ v ∈ as, okV v := fun v hv => hok v (List.mem_append_left _ (List.mem_reverse.mpr hv))
  have ho5 := ho.2.2.2.2
  refine ⟨(as.map (cv E)).toArray, va_runS (Ts := gT) (As := as.map (cv E)) (rest := st.map (cv E)) (n := n) (bytes := M2.2.1) (maxL := M2.2.2.1) (ret := M2.2.2.2) ⟨hx, hb, hml, hown, hSF.hts args⟩ (hC l E) ⟨⟨rfl, rfl, ?_, ?_, code_good hSF ho, List.mem_singleton.mpr rfl, hSF.w ho.1 rfl args, hSF.w ho.2.1 rfl args, ho.2.2.1, ho.len, hSF.w hw1 rfl args⟩, hSF.w hw2 rfl args⟩ ⟨cPre_blind E as hc sz, fun U hU hW => pre_of hSF hFF hRc hS hoka hU hW⟩ rfl (by rw [List.length_map]; exact hn) hlv (by show (as.reverse ++ st).map (cv E) = _; rw [List.map_append, List.map_reverse]) (lroom st h4) hd ⟨hc1, hc2⟩⟩
  · show d2 + 1 ≤ R.frames; omega
  · show 8 + (M2.2.2.1 + 11) + 40 * d2 ≤ R.locals; omega
/-- a method of the class itself, by its name's class -/
theorem run_V {M2 : MD} {d2 mc ms n index b ci N : Nat} {T : u_T} {ty : Nat → FieldType} {fs : List MV} {as : List MV} {hc : MH} {Qc : QT} (hC : Ct M2 d2 mc ms (vR b :: as) hc sz Qc) (ho : MOK M2 n) (hcl : Cls ci M2.1.cls T N ty) (hbo : h b = some (kO ci fs)) (hw1 : Cond.methodLink M.1.cls index M2.1 ∈ lw_tbl) (hw2 : Cond.instanceMethod M2.1 ∈ lw_tbl) (hw3 : Cond.selects M2.1.cls M2.1 M2.1 ∈ lw_tbl) (hn : as.length = n) (hdd : d2 + 1 ≤ d) (h4 : st.length ≤ 4) (hd : decode M.2.1 pc = .ok (.invokevirtual index, 3)) : RunC M d pc (as.reverse ++ vR b :: st) st h sz hc mc ms Qc := by
  intro p l e R s m args below meth c E F H locs cells slots lv hB hSF hFF hrm hR hRc hS hlv hok hc1 hc2
  obtain ⟨hx, hb, hml, hown⟩ := hB
  have hoka : ∀ v ∈ vR b :: as, okV v := fun v hv => by
    rcases List.mem_cons.mp hv with rfl | hv
    · trivial
    · exact hok v (List.mem_append_left _ (List.mem_reverse.mpr hv))
  have ho5 := ho.2.2.2.2
  refine ⟨((vR b :: as).map (cv E)).toArray, va_runV (Ts := gT) (C := M2.1.cls) (b := eb E + b) (As := as.map (cv E)) (rest := st.map (cv E)) (n := n) (bytes := M2.2.1) (maxL := M2.2.2.1) (ret := M2.2.2.2) ⟨hx, hb, hml, hown, hSF.hts args⟩ (hC l E) ⟨⟨rfl, rfl, ?_, ?_, code_good hSF ho, List.mem_singleton.mpr rfl, hSF.w ho.1 rfl args, hSF.w ho.2.1 rfl args, ho.2.2.1, ho.len, hSF.w hw1 rfl args⟩, hSF.w hw2 rfl args, hSF.w hw3 rfl args⟩ ⟨cPre_blind E (vR b :: as) hc sz, recv hSF hR hcl hbo, fun U hU hW => pre_of hSF hFF hRc hS hoka hU hW⟩ rfl (by rw [List.length_map]; exact hn) hlv (by show (as.reverse ++ vR b :: st).map (cv E) = _; rw [List.map_append, List.map_reverse]; rfl) (lroom st h4) hd ⟨hc1, hc2⟩⟩
  · show d2 + 1 ≤ R.frames; omega
  · show 8 + (M2.2.2.1 + 11) + 40 * d2 ≤ R.locals; omega
/-- a constructor -/
theorem run_I {M2 : MD} {d2 mc ms n index b : Nat} {as : List MV} {hc : MH} {Qc : QT} (hC : Ct M2 d2 mc ms (vR b :: as) hc sz Qc) (ho : MOK M2 n) (hr : M2.2.2.2 = none) (hi : M2.1.name = "<init>") (hw1 : Cond.methodLink M.1.cls index M2.1 ∈ lw_tbl) (hw2 : Cond.instanceMethod M2.1 ∈ lw_tbl) (hn : as.length = n) (hdd : d2 + 1 ≤ d) (h4 : st.length ≤ 4) (hd : decode M.2.1 pc = .ok (.invokespecial index, 3)) : RunC M d pc (as.reverse ++ vR b :: st) st h sz hc mc ms Qc := by
  intro p l e R s m args below meth c E F H locs cells slots lv hB hSF hFF hrm hR hRc hS hlv hok hc1 hc2
  obtain ⟨hx, hb, hml, hown⟩ := hB
  have hoka : ∀ v ∈ vR b :: as, okV v := fun v hv => by
    rcases List.mem_cons.mp hv with rfl | hv
    · trivial
    · exact hok v (List.mem_append_left _ (List.mem_reverse.mpr hv))
  have ho5 := ho.2.2.2.2
  have hcode := ho.1
  have hgood := code_good hSF ho
  have hM := hC l E
  rw [hr] at hcode hM hgood
  refine ⟨((vR b :: as).map (cv E)).toArray, va_runI (Ts := gT) (b := eb E + b) (As := as.map (cv E)) (rest := st.map (cv E)) (n := n) (bytes := M2.2.1) (maxL := M2.2.2.1) ⟨hx, hb, hml, hown, hSF.hts args⟩ hM ⟨⟨rfl, rfl, ?_, ?_, hgood, List.mem_singleton.mpr rfl, hSF.w hcode rfl args, hSF.w ho.2.1 rfl args, ho.2.2.1, ho.len, hSF.w hw1 rfl args⟩, hi, hSF.w hw2 rfl args⟩ ⟨cPre_blind E (vR b :: as) hc sz, fun U hU hW => pre_of hSF hFF hRc hS hoka hU hW⟩ rfl (by rw [List.length_map]; exact hn) hlv (by show (as.reverse ++ vR b :: st).map (cv E) = _; rw [List.map_append, List.map_reverse]; rfl) (lroom st h4) hd ⟨hc1, hc2⟩⟩
  · show d2 + 1 ≤ R.frames; omega
  · show 8 + (M2.2.2.1 + 11) + 40 * d2 ≤ R.locals; omega
/-- a nest mate's constructor -/
theorem run_IN {M2 : MD} {d2 mc ms b : Nat} {hc : MH} {Qc : QT} (hC : Ct M2 d2 mc ms [vR b] hc sz Qc) (ho : MOK M2 0) (hr : M2.2.2.2 = none) (hm : M2.1 = ⟨"RiverRoad$Trace", "<init>", "()V"⟩) (how : M.1.cls = "RiverRoad") (hdd : d2 + 1 ≤ d) (h4 : st.length ≤ 4) (hd : decode M.2.1 pc = .ok (.invokespecial 23, 3)) : RunC M d pc (vR b :: st) st h sz hc mc ms Qc := by
  intro p l e R s m args below meth c E F H locs cells slots lv hB hSF hFF hrm hR hRc hS hlv hok hc1 hc2
  obtain ⟨hx, hb, hml, hown⟩ := hB
  have hoka : ∀ v ∈ [vR b], okV v := fun v hv => by rw [List.mem_singleton.mp hv]; trivial
  have ho5 := ho.2.2.2.2
  have hcode := ho.1
  have hgood := code_good hSF ho
  have hM := hC l E
  rw [hr] at hcode hM hgood
  rw [how] at hown
  have hnw : (Cond.methodLinkNest "RiverRoad" 23 M2.1 "RiverRoad").before args s = true := by rw [hm]; exact va_Nw.use rfl hSF.2.2.2.2.1
  refine ⟨([vR b].map (cv E)).toArray, va_runIN (own := "RiverRoad") (host := "RiverRoad") (Ts := gT) (b := eb E + b) (As := []) (rest := st.map (cv E)) (n := 0) (bytes := M2.2.1) (maxL := M2.2.2.1) ⟨hx, hb, hml, hown, hSF.hts args⟩ hM ⟨⟨⟨rfl, rfl, ?_, ?_, hgood, List.mem_singleton.mpr rfl⟩, hSF.w hcode rfl args, hSF.w ho.2.1 rfl args, ho.2.2.1, ho.len, hnw⟩, by rw [hm], hSF.w (w := .instanceMethod M2.1) (by rw [hm]; decide +kernel) rfl args⟩ ⟨cPre_blind E [vR b] hc sz, fun U hU hW => pre_of hSF hFF hRc hS hoka hU hW⟩ rfl rfl hlv rfl (lroom st h4) hd ⟨hc1, hc2⟩⟩
  · show d2 + 1 ≤ R.frames; omega
  · show 8 + (M2.2.2.1 + 11) + 40 * d2 ≤ R.locals; omega
/-- a method that is named of one class (x), declared by 'owner', and taken of the receiver's (C) -/
theorem run_U {M2 : MD} {d2 mc ms n index b ci N : Nat} {C owner : String} {T : u_T} {ty : Nat → FieldType} {fs : List MV} {as : List MV} {hc : MH} {Qc : QT} (x : MethodName) (hC : Ct M2 d2 mc ms (vR b :: as) hc sz Qc) (ho : MOK M2 n) (hcl : Cls ci C T N ty) (hbo : h b = some (kO ci fs)) (hxn : (owner ≠ "java/lang/invoke/MethodHandle" ∧ owner ≠ "java/lang/invoke/VarHandle") ∧ (parseMethodDescriptor x.desc).map (fun q => q.parameters.length) = some n) (hw1 : Cond.methodLink M.1.cls index x ∈ lw_tbl) (hw4 : Cond.sameMethod x.cls owner x.name x.desc ∈ lw_tbl) (hw5 : (⟨owner, x.name, x.desc⟩ : MethodName) ∈ deL) (hw2 : Cond.instanceMethod M2.1 ∈ lw_tbl) (hw3 : Cond.selects C x M2.1 ∈ lw_tbl) (hn : as.length = n) (hdd : d2 + 1 ≤ d) (h4 : st.length ≤ 4) (hd : decode M.2.1 pc = .ok (.invokevirtual index, 3)) : RunC M d pc (as.reverse ++ vR b :: st) st h sz hc mc ms Qc := by
  intro p l e R s m args below meth c E F H locs cells slots lv hB hSF hFF hrm hR hRc hS hlv hok hc1 hc2
  obtain ⟨hx, hb, hml, hown⟩ := hB
  have hoka : ∀ v ∈ vR b :: as, okV v := fun v hv => by
    rcases List.mem_cons.mp hv with rfl | hv
    · trivial
    · exact hok v (List.mem_append_left _ (List.mem_reverse.mpr hv))
  have ho5 := ho.2.2.2.2
  have hlen : ∀ sig, parseMethodDescriptor x.desc = some sig → n = sig.parameters.length := fun sig q => by
    have h2 := hxn.2
    rw [q] at h2
    exact (Option.some.inj h2).symm
  refine ⟨((vR b :: as).map (cv E)).toArray, va_runU (Ts := gT) (C := C) (owner := owner) (x := x) (b := eb E + b) (As := as.map (cv E)) (rest := st.map (cv E)) (n := n) (bytes := M2.2.1) (maxL := M2.2.2.1) (ret := M2.2.2.2) ⟨hx, hb, hml, hown, hSF.hts args⟩ (hC l E) ⟨⟨rfl, rfl, ?_, ?_, code_good hSF ho, List.mem_singleton.mpr rfl⟩, hSF.w ho.1 rfl args, hSF.w ho.2.1 rfl args, hxn.1, hlen, hSF.w hw1 rfl args, hSF.w hw4 rfl args, va_Decl.abs (hSF.2.2.2.1 _ hw5), hSF.w hw3 rfl args, hSF.w hw2 rfl args⟩ ⟨cPre_blind E (vR b :: as) hc sz, recv hSF hR hcl hbo, fun U hU hW => pre_of hSF hFF hRc hS hoka hU hW⟩ rfl (by rw [List.length_map]; exact hn) hlv (by show (as.reverse ++ vR b :: st).map (cv E) = _; rw [List.map_append, List.map_reverse]; rfl) (lroom st h4) hd ⟨hc1, hc2⟩⟩
  · show d2 + 1 ≤ R.frames; omega
  · show 8 + (M2.2.2.1 + 11) + 40 * d2 ≤ R.locals; omega
end CALL
