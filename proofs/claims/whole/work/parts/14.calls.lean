/-! CALLS by their number of arguments, printed by wip/whole/gen/calls.py; Det: an answer and a world -/
def Det (r : Option MV) (h : MH) (sz : Nat) : QT := fun r2 h2 s2 => r2 = r ∧ h2 = h ∧ s2 = sz
section CN
variable {M : MD} {d pc : Nat} {ls : List (Option MV)} {st : List MV} {h : MH} {sz kc ks : Nat} {Q : QT}
theorem V.cS0 {M2 : MD} {d2 mc ms kc2 ks2 index : Nat} {Qc : QT} (hL : LinkS M.1.cls index M2 0) (hC : Ct M2 d2 mc ms [] h sz Qc) (hd : decode M.2.1 pc = .ok (.invokestatic index, 3)) (hdd : d2 + 1 ≤ d) (h4 : st.length ≤ 4) (g1 : kc2 + mc ≤ kc) (g2 : ks2 + ms ≤ ks) (kk : ∀ (r : Option MV) (h2 : MH) (sz2 : Nat), Qc r h2 sz2 → V M d (pc + 3) ls (r.toList ++ st) h2 sz2 kc2 ks2 Q) : V M d pc ls (st) h sz kc ks Q := by
  refine V.call (st0 := st) (hc := h) (run_S (as := []) hC hL.1 hL.2.1 hL.2.2 rfl hdd h4 hd) (fun _ _ z => z) (fun hst => hst) g1 g2 (fun r h2 sz2 hq => ?_)
  rw [hov_self]
  exact kk r h2 sz2 hq
theorem V.cV0 {b : Nat} {M2 : MD} {d2 mc ms kc2 ks2 index ci N : Nat} {T : u_T} {ty : Nat → FieldType} {fs : List MV} {Qc : QT} (hL : LinkV M.1.cls index M2 0 ci N T ty) (hb : h b = some (kO ci fs)) (hC : Ct M2 d2 mc ms [vR b] h sz Qc) (hd : decode M.2.1 pc = .ok (.invokevirtual index, 3)) (hdd : d2 + 1 ≤ d) (h4 : st.length ≤ 4) (g1 : kc2 + mc ≤ kc) (g2 : ks2 + ms ≤ ks) (kk : ∀ (r : Option MV) (h2 : MH) (sz2 : Nat), Qc r h2 sz2 → V M d (pc + 3) ls (r.toList ++ st) h2 sz2 kc2 ks2 Q) : V M d pc ls (vR b :: st) h sz kc ks Q := by
  refine V.call (st0 := vR b :: st) (hc := h) (run_V (as := []) hC hL.1 hL.2.1 hb hL.2.2.1 hL.2.2.2.1 hL.2.2.2.2 rfl hdd h4 hd) (fun _ _ z => z) (fun hst => okt hst) g1 g2 (fun r h2 sz2 hq => ?_)
  rw [hov_self]
  exact kk r h2 sz2 hq
theorem V.cI0 {b : Nat} {M2 : MD} {d2 mc ms kc2 ks2 index : Nat} {Qc : QT} (hL : LinkI M.1.cls index M2 0) (hC : Ct M2 d2 mc ms [vR b] h sz Qc) (hd : decode M.2.1 pc = .ok (.invokespecial index, 3)) (hdd : d2 + 1 ≤ d) (h4 : st.length ≤ 4) (g1 : kc2 + mc ≤ kc) (g2 : ks2 + ms ≤ ks) (kk : ∀ (r : Option MV) (h2 : MH) (sz2 : Nat), Qc r h2 sz2 → V M d (pc + 3) ls (r.toList ++ st) h2 sz2 kc2 ks2 Q) : V M d pc ls (vR b :: st) h sz kc ks Q := by
  refine V.call (st0 := vR b :: st) (hc := h) (run_I (as := []) hC hL.1 hL.2.1 hL.2.2.1 hL.2.2.2.1 hL.2.2.2.2 rfl hdd h4 hd) (fun _ _ z => z) (fun hst => okt hst) g1 g2 (fun r h2 sz2 hq => ?_)
  rw [hov_self]
  exact kk r h2 sz2 hq
theorem V.cU0 {b : Nat} {M2 : MD} {x : MethodName} {owner C : String} {d2 mc ms kc2 ks2 index ci N : Nat} {T : u_T} {ty : Nat → FieldType} {fs : List MV} {Qc : QT} (hL : LinkU M.1.cls index x owner C M2 0 ci N T ty) (hb : h b = some (kO ci fs)) (hC : Ct M2 d2 mc ms [vR b] h sz Qc) (hd : decode M.2.1 pc = .ok (.invokevirtual index, 3)) (hdd : d2 + 1 ≤ d) (h4 : st.length ≤ 4) (g1 : kc2 + mc ≤ kc) (g2 : ks2 + ms ≤ ks) (kk : ∀ (r : Option MV) (h2 : MH) (sz2 : Nat), Qc r h2 sz2 → V M d (pc + 3) ls (r.toList ++ st) h2 sz2 kc2 ks2 Q) : V M d pc ls (vR b :: st) h sz kc ks Q := by
  refine V.call (st0 := vR b :: st) (hc := h) (run_U (as := []) x hC hL.1 hL.2.1 hb hL.2.2.1 hL.2.2.2.1 hL.2.2.2.2.1 hL.2.2.2.2.2.1 hL.2.2.2.2.2.2.1 hL.2.2.2.2.2.2.2 rfl hdd h4 hd) (fun _ _ z => z) (fun hst => okt hst) g1 g2 (fun r h2 sz2 hq => ?_)
  rw [hov_self]
  exact kk r h2 sz2 hq
theorem V.cP0 {b : Nat} {M2 : MD} {x : MethodName} {owner C : String} {d2 mc ms kc2 ks2 index ci N : Nat} {T : u_T} {ty : Nat → FieldType} {fs : List MV} {Qc : QT} (hL : LinkSU M.1.cls index x owner M2 0) (hcl : Cls ci C T N ty) (hb : h b = some (kO ci fs)) (hC : Ct M2 d2 mc ms [vR b] h sz Qc) (hd : decode M.2.1 pc = .ok (.invokespecial index, 3)) (hdd : d2 + 1 ≤ d) (h4 : st.length ≤ 4) (g1 : kc2 + mc ≤ kc) (g2 : ks2 + ms ≤ ks) (kk : ∀ (r : Option MV) (h2 : MH) (sz2 : Nat), Qc r h2 sz2 → V M d (pc + 3) ls (r.toList ++ st) h2 sz2 kc2 ks2 Q) : V M d pc ls (vR b :: st) h sz kc ks Q := by
  refine V.call (st0 := vR b :: st) (hc := h) (run_SU (as := []) x hC hL.1 hcl hb hL.2.1 hL.2.2.1 hL.2.2.2.1 hL.2.2.2.2.1 hL.2.2.2.2.2.1 hL.2.2.2.2.2.2.1 hL.2.2.2.2.2.2.2 rfl hdd h4 hd) (fun _ _ z => z) (fun hst => okt hst) g1 g2 (fun r h2 sz2 hq => ?_)
  rw [hov_self]
  exact kk r h2 sz2 hq
theorem V.cS1 {x1 : MV} {M2 : MD} {d2 mc ms kc2 ks2 index : Nat} {Qc : QT} (hL : LinkS M.1.cls index M2 1) (hC : Ct M2 d2 mc ms [x1] h sz Qc) (hd : decode M.2.1 pc = .ok (.invokestatic index, 3)) (hdd : d2 + 1 ≤ d) (h4 : st.length ≤ 4) (g1 : kc2 + mc ≤ kc) (g2 : ks2 + ms ≤ ks) (kk : ∀ (r : Option MV) (h2 : MH) (sz2 : Nat), Qc r h2 sz2 → V M d (pc + 3) ls (r.toList ++ st) h2 sz2 kc2 ks2 Q) : V M d pc ls (x1 :: st) h sz kc ks Q := by
  refine V.call (st0 := x1 :: st) (hc := h) (run_S (as := [x1]) hC hL.1 hL.2.1 hL.2.2 rfl hdd h4 hd) (fun _ _ z => z) (fun hst => okt hst) g1 g2 (fun r h2 sz2 hq => ?_)
  rw [hov_self]
  exact kk r h2 sz2 hq
theorem V.cV1 {x1 : MV} {b : Nat} {M2 : MD} {d2 mc ms kc2 ks2 index ci N : Nat} {T : u_T} {ty : Nat → FieldType} {fs : List MV} {Qc : QT} (hL : LinkV M.1.cls index M2 1 ci N T ty) (hb : h b = some (kO ci fs)) (hC : Ct M2 d2 mc ms [vR b, x1] h sz Qc) (hd : decode M.2.1 pc = .ok (.invokevirtual index, 3)) (hdd : d2 + 1 ≤ d) (h4 : st.length ≤ 4) (g1 : kc2 + mc ≤ kc) (g2 : ks2 + ms ≤ ks) (kk : ∀ (r : Option MV) (h2 : MH) (sz2 : Nat), Qc r h2 sz2 → V M d (pc + 3) ls (r.toList ++ st) h2 sz2 kc2 ks2 Q) : V M d pc ls (x1 :: vR b :: st) h sz kc ks Q := by
  refine V.call (st0 := x1 :: vR b :: st) (hc := h) (run_V (as := [x1]) hC hL.1 hL.2.1 hb hL.2.2.1 hL.2.2.2.1 hL.2.2.2.2 rfl hdd h4 hd) (fun _ _ z => z) (fun hst => okt (okt hst)) g1 g2 (fun r h2 sz2 hq => ?_)
  rw [hov_self]
  exact kk r h2 sz2 hq
theorem V.cI1 {x1 : MV} {b : Nat} {M2 : MD} {d2 mc ms kc2 ks2 index : Nat} {Qc : QT} (hL : LinkI M.1.cls index M2 1) (hC : Ct M2 d2 mc ms [vR b, x1] h sz Qc) (hd : decode M.2.1 pc = .ok (.invokespecial index, 3)) (hdd : d2 + 1 ≤ d) (h4 : st.length ≤ 4) (g1 : kc2 + mc ≤ kc) (g2 : ks2 + ms ≤ ks) (kk : ∀ (r : Option MV) (h2 : MH) (sz2 : Nat), Qc r h2 sz2 → V M d (pc + 3) ls (r.toList ++ st) h2 sz2 kc2 ks2 Q) : V M d pc ls (x1 :: vR b :: st) h sz kc ks Q := by
  refine V.call (st0 := x1 :: vR b :: st) (hc := h) (run_I (as := [x1]) hC hL.1 hL.2.1 hL.2.2.1 hL.2.2.2.1 hL.2.2.2.2 rfl hdd h4 hd) (fun _ _ z => z) (fun hst => okt (okt hst)) g1 g2 (fun r h2 sz2 hq => ?_)
  rw [hov_self]
  exact kk r h2 sz2 hq
theorem V.cU1 {x1 : MV} {b : Nat} {M2 : MD} {x : MethodName} {owner C : String} {d2 mc ms kc2 ks2 index ci N : Nat} {T : u_T} {ty : Nat → FieldType} {fs : List MV} {Qc : QT} (hL : LinkU M.1.cls index x owner C M2 1 ci N T ty) (hb : h b = some (kO ci fs)) (hC : Ct M2 d2 mc ms [vR b, x1] h sz Qc) (hd : decode M.2.1 pc = .ok (.invokevirtual index, 3)) (hdd : d2 + 1 ≤ d) (h4 : st.length ≤ 4) (g1 : kc2 + mc ≤ kc) (g2 : ks2 + ms ≤ ks) (kk : ∀ (r : Option MV) (h2 : MH) (sz2 : Nat), Qc r h2 sz2 → V M d (pc + 3) ls (r.toList ++ st) h2 sz2 kc2 ks2 Q) : V M d pc ls (x1 :: vR b :: st) h sz kc ks Q := by
  refine V.call (st0 := x1 :: vR b :: st) (hc := h) (run_U (as := [x1]) x hC hL.1 hL.2.1 hb hL.2.2.1 hL.2.2.2.1 hL.2.2.2.2.1 hL.2.2.2.2.2.1 hL.2.2.2.2.2.2.1 hL.2.2.2.2.2.2.2 rfl hdd h4 hd) (fun _ _ z => z) (fun hst => okt (okt hst)) g1 g2 (fun r h2 sz2 hq => ?_)
  rw [hov_self]
  exact kk r h2 sz2 hq
theorem V.cP1 {x1 : MV} {b : Nat} {M2 : MD} {x : MethodName} {owner C : String} {d2 mc ms kc2 ks2 index ci N : Nat} {T : u_T} {ty : Nat → FieldType} {fs : List MV} {Qc : QT} (hL : LinkSU M.1.cls index x owner M2 1) (hcl : Cls ci C T N ty) (hb : h b = some (kO ci fs)) (hC : Ct M2 d2 mc ms [vR b, x1] h sz Qc) (hd : decode M.2.1 pc = .ok (.invokespecial index, 3)) (hdd : d2 + 1 ≤ d) (h4 : st.length ≤ 4) (g1 : kc2 + mc ≤ kc) (g2 : ks2 + ms ≤ ks) (kk : ∀ (r : Option MV) (h2 : MH) (sz2 : Nat), Qc r h2 sz2 → V M d (pc + 3) ls (r.toList ++ st) h2 sz2 kc2 ks2 Q) : V M d pc ls (x1 :: vR b :: st) h sz kc ks Q := by
  refine V.call (st0 := x1 :: vR b :: st) (hc := h) (run_SU (as := [x1]) x hC hL.1 hcl hb hL.2.1 hL.2.2.1 hL.2.2.2.1 hL.2.2.2.2.1 hL.2.2.2.2.2.1 hL.2.2.2.2.2.2.1 hL.2.2.2.2.2.2.2 rfl hdd h4 hd) (fun _ _ z => z) (fun hst => okt (okt hst)) g1 g2 (fun r h2 sz2 hq => ?_)
  rw [hov_self]
  exact kk r h2 sz2 hq
theorem V.cS2 {x1 x2 : MV} {M2 : MD} {d2 mc ms kc2 ks2 index : Nat} {Qc : QT} (hL : LinkS M.1.cls index M2 2) (hC : Ct M2 d2 mc ms [x1, x2] h sz Qc) (hd : decode M.2.1 pc = .ok (.invokestatic index, 3)) (hdd : d2 + 1 ≤ d) (h4 : st.length ≤ 4) (g1 : kc2 + mc ≤ kc) (g2 : ks2 + ms ≤ ks) (kk : ∀ (r : Option MV) (h2 : MH) (sz2 : Nat), Qc r h2 sz2 → V M d (pc + 3) ls (r.toList ++ st) h2 sz2 kc2 ks2 Q) : V M d pc ls (x2 :: x1 :: st) h sz kc ks Q := by
  refine V.call (st0 := x2 :: x1 :: st) (hc := h) (run_S (as := [x1, x2]) hC hL.1 hL.2.1 hL.2.2 rfl hdd h4 hd) (fun _ _ z => z) (fun hst => okt (okt hst)) g1 g2 (fun r h2 sz2 hq => ?_)
  rw [hov_self]
  exact kk r h2 sz2 hq
theorem V.cV2 {x1 x2 : MV} {b : Nat} {M2 : MD} {d2 mc ms kc2 ks2 index ci N : Nat} {T : u_T} {ty : Nat → FieldType} {fs : List MV} {Qc : QT} (hL : LinkV M.1.cls index M2 2 ci N T ty) (hb : h b = some (kO ci fs)) (hC : Ct M2 d2 mc ms [vR b, x1, x2] h sz Qc) (hd : decode M.2.1 pc = .ok (.invokevirtual index, 3)) (hdd : d2 + 1 ≤ d) (h4 : st.length ≤ 4) (g1 : kc2 + mc ≤ kc) (g2 : ks2 + ms ≤ ks) (kk : ∀ (r : Option MV) (h2 : MH) (sz2 : Nat), Qc r h2 sz2 → V M d (pc + 3) ls (r.toList ++ st) h2 sz2 kc2 ks2 Q) : V M d pc ls (x2 :: x1 :: vR b :: st) h sz kc ks Q := by
  refine V.call (st0 := x2 :: x1 :: vR b :: st) (hc := h) (run_V (as := [x1, x2]) hC hL.1 hL.2.1 hb hL.2.2.1 hL.2.2.2.1 hL.2.2.2.2 rfl hdd h4 hd) (fun _ _ z => z) (fun hst => okt (okt (okt hst))) g1 g2 (fun r h2 sz2 hq => ?_)
  rw [hov_self]
  exact kk r h2 sz2 hq
theorem V.cI2 {x1 x2 : MV} {b : Nat} {M2 : MD} {d2 mc ms kc2 ks2 index : Nat} {Qc : QT} (hL : LinkI M.1.cls index M2 2) (hC : Ct M2 d2 mc ms [vR b, x1, x2] h sz Qc) (hd : decode M.2.1 pc = .ok (.invokespecial index, 3)) (hdd : d2 + 1 ≤ d) (h4 : st.length ≤ 4) (g1 : kc2 + mc ≤ kc) (g2 : ks2 + ms ≤ ks) (kk : ∀ (r : Option MV) (h2 : MH) (sz2 : Nat), Qc r h2 sz2 → V M d (pc + 3) ls (r.toList ++ st) h2 sz2 kc2 ks2 Q) : V M d pc ls (x2 :: x1 :: vR b :: st) h sz kc ks Q := by
  refine V.call (st0 := x2 :: x1 :: vR b :: st) (hc := h) (run_I (as := [x1, x2]) hC hL.1 hL.2.1 hL.2.2.1 hL.2.2.2.1 hL.2.2.2.2 rfl hdd h4 hd) (fun _ _ z => z) (fun hst => okt (okt (okt hst))) g1 g2 (fun r h2 sz2 hq => ?_)
  rw [hov_self]
  exact kk r h2 sz2 hq
theorem V.cU2 {x1 x2 : MV} {b : Nat} {M2 : MD} {x : MethodName} {owner C : String} {d2 mc ms kc2 ks2 index ci N : Nat} {T : u_T} {ty : Nat → FieldType} {fs : List MV} {Qc : QT} (hL : LinkU M.1.cls index x owner C M2 2 ci N T ty) (hb : h b = some (kO ci fs)) (hC : Ct M2 d2 mc ms [vR b, x1, x2] h sz Qc) (hd : decode M.2.1 pc = .ok (.invokevirtual index, 3)) (hdd : d2 + 1 ≤ d) (h4 : st.length ≤ 4) (g1 : kc2 + mc ≤ kc) (g2 : ks2 + ms ≤ ks) (kk : ∀ (r : Option MV) (h2 : MH) (sz2 : Nat), Qc r h2 sz2 → V M d (pc + 3) ls (r.toList ++ st) h2 sz2 kc2 ks2 Q) : V M d pc ls (x2 :: x1 :: vR b :: st) h sz kc ks Q := by
  refine V.call (st0 := x2 :: x1 :: vR b :: st) (hc := h) (run_U (as := [x1, x2]) x hC hL.1 hL.2.1 hb hL.2.2.1 hL.2.2.2.1 hL.2.2.2.2.1 hL.2.2.2.2.2.1 hL.2.2.2.2.2.2.1 hL.2.2.2.2.2.2.2 rfl hdd h4 hd) (fun _ _ z => z) (fun hst => okt (okt (okt hst))) g1 g2 (fun r h2 sz2 hq => ?_)
  rw [hov_self]
  exact kk r h2 sz2 hq
theorem V.cP2 {x1 x2 : MV} {b : Nat} {M2 : MD} {x : MethodName} {owner C : String} {d2 mc ms kc2 ks2 index ci N : Nat} {T : u_T} {ty : Nat → FieldType} {fs : List MV} {Qc : QT} (hL : LinkSU M.1.cls index x owner M2 2) (hcl : Cls ci C T N ty) (hb : h b = some (kO ci fs)) (hC : Ct M2 d2 mc ms [vR b, x1, x2] h sz Qc) (hd : decode M.2.1 pc = .ok (.invokespecial index, 3)) (hdd : d2 + 1 ≤ d) (h4 : st.length ≤ 4) (g1 : kc2 + mc ≤ kc) (g2 : ks2 + ms ≤ ks) (kk : ∀ (r : Option MV) (h2 : MH) (sz2 : Nat), Qc r h2 sz2 → V M d (pc + 3) ls (r.toList ++ st) h2 sz2 kc2 ks2 Q) : V M d pc ls (x2 :: x1 :: vR b :: st) h sz kc ks Q := by
  refine V.call (st0 := x2 :: x1 :: vR b :: st) (hc := h) (run_SU (as := [x1, x2]) x hC hL.1 hcl hb hL.2.1 hL.2.2.1 hL.2.2.2.1 hL.2.2.2.2.1 hL.2.2.2.2.2.1 hL.2.2.2.2.2.2.1 hL.2.2.2.2.2.2.2 rfl hdd h4 hd) (fun _ _ z => z) (fun hst => okt (okt (okt hst))) g1 g2 (fun r h2 sz2 hq => ?_)
  rw [hov_self]
  exact kk r h2 sz2 hq
theorem V.cS3 {x1 x2 x3 : MV} {M2 : MD} {d2 mc ms kc2 ks2 index : Nat} {Qc : QT} (hL : LinkS M.1.cls index M2 3) (hC : Ct M2 d2 mc ms [x1, x2, x3] h sz Qc) (hd : decode M.2.1 pc = .ok (.invokestatic index, 3)) (hdd : d2 + 1 ≤ d) (h4 : st.length ≤ 4) (g1 : kc2 + mc ≤ kc) (g2 : ks2 + ms ≤ ks) (kk : ∀ (r : Option MV) (h2 : MH) (sz2 : Nat), Qc r h2 sz2 → V M d (pc + 3) ls (r.toList ++ st) h2 sz2 kc2 ks2 Q) : V M d pc ls (x3 :: x2 :: x1 :: st) h sz kc ks Q := by
  refine V.call (st0 := x3 :: x2 :: x1 :: st) (hc := h) (run_S (as := [x1, x2, x3]) hC hL.1 hL.2.1 hL.2.2 rfl hdd h4 hd) (fun _ _ z => z) (fun hst => okt (okt (okt hst))) g1 g2 (fun r h2 sz2 hq => ?_)
  rw [hov_self]
  exact kk r h2 sz2 hq
theorem V.cV3 {x1 x2 x3 : MV} {b : Nat} {M2 : MD} {d2 mc ms kc2 ks2 index ci N : Nat} {T : u_T} {ty : Nat → FieldType} {fs : List MV} {Qc : QT} (hL : LinkV M.1.cls index M2 3 ci N T ty) (hb : h b = some (kO ci fs)) (hC : Ct M2 d2 mc ms [vR b, x1, x2, x3] h sz Qc) (hd : decode M.2.1 pc = .ok (.invokevirtual index, 3)) (hdd : d2 + 1 ≤ d) (h4 : st.length ≤ 4) (g1 : kc2 + mc ≤ kc) (g2 : ks2 + ms ≤ ks) (kk : ∀ (r : Option MV) (h2 : MH) (sz2 : Nat), Qc r h2 sz2 → V M d (pc + 3) ls (r.toList ++ st) h2 sz2 kc2 ks2 Q) : V M d pc ls (x3 :: x2 :: x1 :: vR b :: st) h sz kc ks Q := by
  refine V.call (st0 := x3 :: x2 :: x1 :: vR b :: st) (hc := h) (run_V (as := [x1, x2, x3]) hC hL.1 hL.2.1 hb hL.2.2.1 hL.2.2.2.1 hL.2.2.2.2 rfl hdd h4 hd) (fun _ _ z => z) (fun hst => okt (okt (okt (okt hst)))) g1 g2 (fun r h2 sz2 hq => ?_)
  rw [hov_self]
  exact kk r h2 sz2 hq
theorem V.cI3 {x1 x2 x3 : MV} {b : Nat} {M2 : MD} {d2 mc ms kc2 ks2 index : Nat} {Qc : QT} (hL : LinkI M.1.cls index M2 3) (hC : Ct M2 d2 mc ms [vR b, x1, x2, x3] h sz Qc) (hd : decode M.2.1 pc = .ok (.invokespecial index, 3)) (hdd : d2 + 1 ≤ d) (h4 : st.length ≤ 4) (g1 : kc2 + mc ≤ kc) (g2 : ks2 + ms ≤ ks) (kk : ∀ (r : Option MV) (h2 : MH) (sz2 : Nat), Qc r h2 sz2 → V M d (pc + 3) ls (r.toList ++ st) h2 sz2 kc2 ks2 Q) : V M d pc ls (x3 :: x2 :: x1 :: vR b :: st) h sz kc ks Q := by
  refine V.call (st0 := x3 :: x2 :: x1 :: vR b :: st) (hc := h) (run_I (as := [x1, x2, x3]) hC hL.1 hL.2.1 hL.2.2.1 hL.2.2.2.1 hL.2.2.2.2 rfl hdd h4 hd) (fun _ _ z => z) (fun hst => okt (okt (okt (okt hst)))) g1 g2 (fun r h2 sz2 hq => ?_)
  rw [hov_self]
  exact kk r h2 sz2 hq
theorem V.cS4 {x1 x2 x3 x4 : MV} {M2 : MD} {d2 mc ms kc2 ks2 index : Nat} {Qc : QT} (hL : LinkS M.1.cls index M2 4) (hC : Ct M2 d2 mc ms [x1, x2, x3, x4] h sz Qc) (hd : decode M.2.1 pc = .ok (.invokestatic index, 3)) (hdd : d2 + 1 ≤ d) (h4 : st.length ≤ 4) (g1 : kc2 + mc ≤ kc) (g2 : ks2 + ms ≤ ks) (kk : ∀ (r : Option MV) (h2 : MH) (sz2 : Nat), Qc r h2 sz2 → V M d (pc + 3) ls (r.toList ++ st) h2 sz2 kc2 ks2 Q) : V M d pc ls (x4 :: x3 :: x2 :: x1 :: st) h sz kc ks Q := by
  refine V.call (st0 := x4 :: x3 :: x2 :: x1 :: st) (hc := h) (run_S (as := [x1, x2, x3, x4]) hC hL.1 hL.2.1 hL.2.2 rfl hdd h4 hd) (fun _ _ z => z) (fun hst => okt (okt (okt (okt hst)))) g1 g2 (fun r h2 sz2 hq => ?_)
  rw [hov_self]
  exact kk r h2 sz2 hq
theorem V.cV4 {x1 x2 x3 x4 : MV} {b : Nat} {M2 : MD} {d2 mc ms kc2 ks2 index ci N : Nat} {T : u_T} {ty : Nat → FieldType} {fs : List MV} {Qc : QT} (hL : LinkV M.1.cls index M2 4 ci N T ty) (hb : h b = some (kO ci fs)) (hC : Ct M2 d2 mc ms [vR b, x1, x2, x3, x4] h sz Qc) (hd : decode M.2.1 pc = .ok (.invokevirtual index, 3)) (hdd : d2 + 1 ≤ d) (h4 : st.length ≤ 4) (g1 : kc2 + mc ≤ kc) (g2 : ks2 + ms ≤ ks) (kk : ∀ (r : Option MV) (h2 : MH) (sz2 : Nat), Qc r h2 sz2 → V M d (pc + 3) ls (r.toList ++ st) h2 sz2 kc2 ks2 Q) : V M d pc ls (x4 :: x3 :: x2 :: x1 :: vR b :: st) h sz kc ks Q := by
  refine V.call (st0 := x4 :: x3 :: x2 :: x1 :: vR b :: st) (hc := h) (run_V (as := [x1, x2, x3, x4]) hC hL.1 hL.2.1 hb hL.2.2.1 hL.2.2.2.1 hL.2.2.2.2 rfl hdd h4 hd) (fun _ _ z => z) (fun hst => okt (okt (okt (okt (okt hst))))) g1 g2 (fun r h2 sz2 hq => ?_)
  rw [hov_self]
  exact kk r h2 sz2 hq
theorem V.cI4 {x1 x2 x3 x4 : MV} {b : Nat} {M2 : MD} {d2 mc ms kc2 ks2 index : Nat} {Qc : QT} (hL : LinkI M.1.cls index M2 4) (hC : Ct M2 d2 mc ms [vR b, x1, x2, x3, x4] h sz Qc) (hd : decode M.2.1 pc = .ok (.invokespecial index, 3)) (hdd : d2 + 1 ≤ d) (h4 : st.length ≤ 4) (g1 : kc2 + mc ≤ kc) (g2 : ks2 + ms ≤ ks) (kk : ∀ (r : Option MV) (h2 : MH) (sz2 : Nat), Qc r h2 sz2 → V M d (pc + 3) ls (r.toList ++ st) h2 sz2 kc2 ks2 Q) : V M d pc ls (x4 :: x3 :: x2 :: x1 :: vR b :: st) h sz kc ks Q := by
  refine V.call (st0 := x4 :: x3 :: x2 :: x1 :: vR b :: st) (hc := h) (run_I (as := [x1, x2, x3, x4]) hC hL.1 hL.2.1 hL.2.2.1 hL.2.2.2.1 hL.2.2.2.2 rfl hdd h4 hd) (fun _ _ z => z) (fun hst => okt (okt (okt (okt (okt hst))))) g1 g2 (fun r h2 sz2 hq => ?_)
  rw [hov_self]
  exact kk r h2 sz2 hq
theorem V.cS5 {x1 x2 x3 x4 x5 : MV} {M2 : MD} {d2 mc ms kc2 ks2 index : Nat} {Qc : QT} (hL : LinkS M.1.cls index M2 5) (hC : Ct M2 d2 mc ms [x1, x2, x3, x4, x5] h sz Qc) (hd : decode M.2.1 pc = .ok (.invokestatic index, 3)) (hdd : d2 + 1 ≤ d) (h4 : st.length ≤ 4) (g1 : kc2 + mc ≤ kc) (g2 : ks2 + ms ≤ ks) (kk : ∀ (r : Option MV) (h2 : MH) (sz2 : Nat), Qc r h2 sz2 → V M d (pc + 3) ls (r.toList ++ st) h2 sz2 kc2 ks2 Q) : V M d pc ls (x5 :: x4 :: x3 :: x2 :: x1 :: st) h sz kc ks Q := by
  refine V.call (st0 := x5 :: x4 :: x3 :: x2 :: x1 :: st) (hc := h) (run_S (as := [x1, x2, x3, x4, x5]) hC hL.1 hL.2.1 hL.2.2 rfl hdd h4 hd) (fun _ _ z => z) (fun hst => okt (okt (okt (okt (okt hst))))) g1 g2 (fun r h2 sz2 hq => ?_)
  rw [hov_self]
  exact kk r h2 sz2 hq
theorem V.cV5 {x1 x2 x3 x4 x5 : MV} {b : Nat} {M2 : MD} {d2 mc ms kc2 ks2 index ci N : Nat} {T : u_T} {ty : Nat → FieldType} {fs : List MV} {Qc : QT} (hL : LinkV M.1.cls index M2 5 ci N T ty) (hb : h b = some (kO ci fs)) (hC : Ct M2 d2 mc ms [vR b, x1, x2, x3, x4, x5] h sz Qc) (hd : decode M.2.1 pc = .ok (.invokevirtual index, 3)) (hdd : d2 + 1 ≤ d) (h4 : st.length ≤ 4) (g1 : kc2 + mc ≤ kc) (g2 : ks2 + ms ≤ ks) (kk : ∀ (r : Option MV) (h2 : MH) (sz2 : Nat), Qc r h2 sz2 → V M d (pc + 3) ls (r.toList ++ st) h2 sz2 kc2 ks2 Q) : V M d pc ls (x5 :: x4 :: x3 :: x2 :: x1 :: vR b :: st) h sz kc ks Q := by
  refine V.call (st0 := x5 :: x4 :: x3 :: x2 :: x1 :: vR b :: st) (hc := h) (run_V (as := [x1, x2, x3, x4, x5]) hC hL.1 hL.2.1 hb hL.2.2.1 hL.2.2.2.1 hL.2.2.2.2 rfl hdd h4 hd) (fun _ _ z => z) (fun hst => okt (okt (okt (okt (okt (okt hst)))))) g1 g2 (fun r h2 sz2 hq => ?_)
  rw [hov_self]
  exact kk r h2 sz2 hq
theorem V.cI5 {x1 x2 x3 x4 x5 : MV} {b : Nat} {M2 : MD} {d2 mc ms kc2 ks2 index : Nat} {Qc : QT} (hL : LinkI M.1.cls index M2 5) (hC : Ct M2 d2 mc ms [vR b, x1, x2, x3, x4, x5] h sz Qc) (hd : decode M.2.1 pc = .ok (.invokespecial index, 3)) (hdd : d2 + 1 ≤ d) (h4 : st.length ≤ 4) (g1 : kc2 + mc ≤ kc) (g2 : ks2 + ms ≤ ks) (kk : ∀ (r : Option MV) (h2 : MH) (sz2 : Nat), Qc r h2 sz2 → V M d (pc + 3) ls (r.toList ++ st) h2 sz2 kc2 ks2 Q) : V M d pc ls (x5 :: x4 :: x3 :: x2 :: x1 :: vR b :: st) h sz kc ks Q := by
  refine V.call (st0 := x5 :: x4 :: x3 :: x2 :: x1 :: vR b :: st) (hc := h) (run_I (as := [x1, x2, x3, x4, x5]) hC hL.1 hL.2.1 hL.2.2.1 hL.2.2.2.1 hL.2.2.2.2 rfl hdd h4 hd) (fun _ _ z => z) (fun hst => okt (okt (okt (okt (okt (okt hst)))))) g1 g2 (fun r h2 sz2 hq => ?_)
  rw [hov_self]
  exact kk r h2 sz2 hq
theorem V.cS6 {x1 x2 x3 x4 x5 x6 : MV} {M2 : MD} {d2 mc ms kc2 ks2 index : Nat} {Qc : QT} (hL : LinkS M.1.cls index M2 6) (hC : Ct M2 d2 mc ms [x1, x2, x3, x4, x5, x6] h sz Qc) (hd : decode M.2.1 pc = .ok (.invokestatic index, 3)) (hdd : d2 + 1 ≤ d) (h4 : st.length ≤ 4) (g1 : kc2 + mc ≤ kc) (g2 : ks2 + ms ≤ ks) (kk : ∀ (r : Option MV) (h2 : MH) (sz2 : Nat), Qc r h2 sz2 → V M d (pc + 3) ls (r.toList ++ st) h2 sz2 kc2 ks2 Q) : V M d pc ls (x6 :: x5 :: x4 :: x3 :: x2 :: x1 :: st) h sz kc ks Q := by
  refine V.call (st0 := x6 :: x5 :: x4 :: x3 :: x2 :: x1 :: st) (hc := h) (run_S (as := [x1, x2, x3, x4, x5, x6]) hC hL.1 hL.2.1 hL.2.2 rfl hdd h4 hd) (fun _ _ z => z) (fun hst => okt (okt (okt (okt (okt (okt hst)))))) g1 g2 (fun r h2 sz2 hq => ?_)
  rw [hov_self]
  exact kk r h2 sz2 hq
theorem V.cV6 {x1 x2 x3 x4 x5 x6 : MV} {b : Nat} {M2 : MD} {d2 mc ms kc2 ks2 index ci N : Nat} {T : u_T} {ty : Nat → FieldType} {fs : List MV} {Qc : QT} (hL : LinkV M.1.cls index M2 6 ci N T ty) (hb : h b = some (kO ci fs)) (hC : Ct M2 d2 mc ms [vR b, x1, x2, x3, x4, x5, x6] h sz Qc) (hd : decode M.2.1 pc = .ok (.invokevirtual index, 3)) (hdd : d2 + 1 ≤ d) (h4 : st.length ≤ 4) (g1 : kc2 + mc ≤ kc) (g2 : ks2 + ms ≤ ks) (kk : ∀ (r : Option MV) (h2 : MH) (sz2 : Nat), Qc r h2 sz2 → V M d (pc + 3) ls (r.toList ++ st) h2 sz2 kc2 ks2 Q) : V M d pc ls (x6 :: x5 :: x4 :: x3 :: x2 :: x1 :: vR b :: st) h sz kc ks Q := by
  refine V.call (st0 := x6 :: x5 :: x4 :: x3 :: x2 :: x1 :: vR b :: st) (hc := h) (run_V (as := [x1, x2, x3, x4, x5, x6]) hC hL.1 hL.2.1 hb hL.2.2.1 hL.2.2.2.1 hL.2.2.2.2 rfl hdd h4 hd) (fun _ _ z => z) (fun hst => okt (okt (okt (okt (okt (okt (okt hst))))))) g1 g2 (fun r h2 sz2 hq => ?_)
  rw [hov_self]
  exact kk r h2 sz2 hq
theorem V.cI6 {x1 x2 x3 x4 x5 x6 : MV} {b : Nat} {M2 : MD} {d2 mc ms kc2 ks2 index : Nat} {Qc : QT} (hL : LinkI M.1.cls index M2 6) (hC : Ct M2 d2 mc ms [vR b, x1, x2, x3, x4, x5, x6] h sz Qc) (hd : decode M.2.1 pc = .ok (.invokespecial index, 3)) (hdd : d2 + 1 ≤ d) (h4 : st.length ≤ 4) (g1 : kc2 + mc ≤ kc) (g2 : ks2 + ms ≤ ks) (kk : ∀ (r : Option MV) (h2 : MH) (sz2 : Nat), Qc r h2 sz2 → V M d (pc + 3) ls (r.toList ++ st) h2 sz2 kc2 ks2 Q) : V M d pc ls (x6 :: x5 :: x4 :: x3 :: x2 :: x1 :: vR b :: st) h sz kc ks Q := by
  refine V.call (st0 := x6 :: x5 :: x4 :: x3 :: x2 :: x1 :: vR b :: st) (hc := h) (run_I (as := [x1, x2, x3, x4, x5, x6]) hC hL.1 hL.2.1 hL.2.2.1 hL.2.2.2.1 hL.2.2.2.2 rfl hdd h4 hd) (fun _ _ z => z) (fun hst => okt (okt (okt (okt (okt (okt (okt hst))))))) g1 g2 (fun r h2 sz2 hq => ?_)
  rw [hov_self]
  exact kk r h2 sz2 hq
end CN
