/-! RULES: the heap -/
def gT : List Cond := lw_tbl.filter goodWord
theorem SF.w {E : Ev} {s : State} (h : SF E s) {w : Cond} (hw : w ∈ lw_tbl) (hg : goodWord w = true) (args : Array Value) : w.before args s = true := by
  have h1 := h.2.1 w hw hg
  exact word_at (U := s) (State.WarmedH.refl s) (good_of_word hg) h1
theorem SF.hts {E : Ev} {s : State} (h : SF E s) (args : Array Value) : ∀ w ∈ gT, w.before args s = true := fun w hw => h.w (List.mem_filter.mp hw).1 (List.mem_filter.mp hw).2 args
theorem good_lay (C : String) (T : u_T) (k : Nat) : goodWord (u_lay C T k) = true := by unfold u_lay; split <;> rfl
theorem in_gT {C : String} {T : u_T} {N : Nat} (h : ∀ w ∈ u_ws C T N, w ∈ lw_tbl) : ∀ w ∈ u_ws C T N, w ∈ gT := by
  intro w hw
  refine List.mem_filter.mpr ⟨h w hw, ?_⟩
  obtain ⟨k, -, rfl⟩ := List.mem_map.mp hw
  exact good_lay C T k
/-- a class of ours: its table, its types, what a program decides of them -/
def Cls (ci : Nat) (C : String) (T : u_T) (N : Nat) (ty : Nat → FieldType) : Prop := classes[ci]? = some (C, T, N) ∧ (∀ w ∈ u_ws C T N, w ∈ lw_tbl) ∧ (∀ k, k < N → parseFieldDescriptor (T k).2.2.1 = some (ty k)) ∧ (∀ a, a < N → ∀ b, b < N → a ≠ b → (T a).2.1 ≠ (T b).2.1)
theorem cl_RR : Cls 0 "RiverRoad" F_RR 7 t_RR := ⟨rfl, i_RR, t_RR_ok, n_RR⟩
theorem cl_Tr : Cls 1 "RiverRoad$Trace" F_Tr 2 t_Tr := ⟨rfl, i_Tr, t_Tr_ok, n_Tr⟩
theorem cl_Sh : Cls 2 "RiverRoad$Sheet" F_Sh 2 t_Sh := ⟨rfl, i_Sh, t_Sh_ok, n_Sh⟩
theorem cl_Row : Cls 3 "RiverRoad$Row" F_Row 2 t_Row := ⟨rfl, i_Row, t_Row_ok, n_Row⟩
theorem cl_Ar : Cls 4 "RiverRoad$Arches" F_Ar 3 t_Ar := ⟨rfl, i_Ar, t_Ar_ok, n_Ar⟩
theorem cl_Ne : Cls 5 "RiverRoad$Nest" F_Ar 3 t_Ar := ⟨rfl, i_Ne, t_Ar_ok, n_Ar⟩
theorem cl_Pe : Cls 6 "RiverRoad$Peaks" F_Ar 3 t_Ar := ⟨rfl, i_Pe, t_Ar_ok, n_Ar⟩
theorem cl_La : Cls 7 "RiverRoad$Land" F_La 5 t_La := ⟨rfl, i_La, t_La_ok, n_La⟩
theorem cl_Lo : Cls 8 "RiverRoad$Loop" F_La 5 t_La := ⟨rfl, i_Lo, t_La_ok, n_La⟩
theorem cl_St : Cls 9 "RiverRoad$Strip" F_St 5 t_St := ⟨rfl, i_St, t_St_ok, n_St⟩
theorem cl_Fo : Cls 10 "RiverRoad$Fold" F_St 5 t_St := ⟨rfl, i_Fo, t_St_ok, n_St⟩
theorem cl_Mo : Cls 11 "RiverRoadModel" F_Mo 34 t_Mo := ⟨rfl, i_Mo, t_Mo_ok, n_Mo⟩
/-- a field's link: what the instruction names is the field k of T -/
def FL (own : String) (index : Nat) (T : u_T) (k : Nat) : Prop := ∃ ref : String, Cond.fieldLink own index ref (T k).2.1 (T k).2.2.1 ∈ lw_tbl ∧ ((T k).1 = ref ∨ Cond.sameField ref (T k).1 (T k).2.1 (T k).2.2.1 ∈ lw_tbl)
def hset (h : MH) (a : Nat) (c : MC) : MH := fun b => if b = a then some c else h b
theorem RW.set {E : Ev} {h : MH} {sz a : Nat} {c2 : MC} {H H2 : Heap} (hR : RW E h sz H) (hz : H2.size = H.size) (hq : ∀ q, q ≠ eb E + a → H2[q]? = H[q]?) (hok : okC c2) (hat : va_at E.1 classes (eb E + a, ec E c2) H2) : RW E (hset h a c2) sz H2 := by
  refine ⟨by rw [hz]; exact hR.1, fun b c hb => ?_⟩
  unfold hset at hb
  split at hb
  · rename_i e; cases hb; subst e; exact ⟨hok, hat⟩
  · rename_i e
    have := hR.2 b c hb
    exact ⟨this.1, this.2.kept (hq _ (by show eb E + b ≠ eb E + a; omega))⟩
theorem RW.push {E : Ev} {h : MH} {sz : Nat} {c2 : MC} {H H2 : Heap} (hR : RW E h sz H) (hz : H2.size = H.size + 1) (hq : ∀ q, q < H.size → H2[q]? = H[q]?) (hok : okC c2) (hat : va_at E.1 classes (eb E + sz, ec E c2) H2) : RW E (hset h sz c2) (sz + 1) H2 := by
  refine ⟨by rw [hz, hR.1]; omega, fun b c hb => ?_⟩
  unfold hset at hb
  split at hb
  · rename_i e; cases hb; subst e; exact ⟨hok, hat⟩
  · have := hR.2 b c hb
    exact ⟨this.1, this.2.kept (hq _ this.2.lt)⟩
theorem hset_F {E : Ev} {F : Nat → Prop} {h : MH} {a : Nat} {c2 : MC} (hF : ∀ a c, h a = some c → F (eb E + a)) (ha : F (eb E + a)) : ∀ b c, hset h a c2 b = some c → F (eb E + b) := by
  intro b c hb
  unfold hset at hb
  split at hb
  · rename_i e; subst e; exact ha
  · exact hF b c hb
theorem va_S.push1 {F : Nat → Prop} {H0 H H2 : Heap} {locs : List Loc} (hS : va_S F H0 H locs) (hz : H2.size = H.size + 1) (hq : ∀ q, q < H.size → H2[q]? = H[q]?) : va_S F H0 H2 locs := ⟨Nat.le_trans hS.1 (by omega), fun q g1 g2 => (hq q (Nat.lt_of_lt_of_le g1 hS.1)).trans (hS.2.1 q g1 g2), hS.2.2⟩
section HR
variable {M : MD} {d pc : Nat} {ls : List (Option MV)} {st : List MV} {h : MH} {sz kc ks : Nat} {Q : QT}
theorem V.getf {index ci a N : Nat} {C : String} {T : u_T} {ty : Nat → FieldType} {fs : List MV} {v : MV} (k : Nat) (hC : Cls ci C T N ty) (hf : FL M.1.cls index T k) (hd : decode M.2.1 pc = .ok (.getfield index, 3)) (ha : h a = some (kO ci fs)) (hk : k < N) (hv : fs[k]? = some v)
    (kk : V M d (pc + 3) ls (v :: st) h sz kc ks Q) : V M d pc ls (vR a :: st) h sz kc ks Q := by
  intro p l e R s m args below meth c Z E F cM sM C1 H locs cells slots lv hR hF hS hL hst h1 h2
  obtain ⟨⟨hx, hb, hml, hown, hnm⟩, hSF, hFF, hrm, hret⟩ := id C1
  obtain ⟨hok, hat⟩ := hR.2 a _ ha
  obtain ⟨hcl, hin, hty, hnn⟩ := hC
  obtain ⟨ref, hl1, hl2⟩ := hf
  have hP : va_P E.1 classes [(eb E + a, .inr (ci, fs.map (cv E)))] H := fun j q hq => by
    match j, hq with
    | 0, hq => cases hq; exact hat
    | j + 1, hq => cases hq
  refine va_get (D := E.1) (cl := classes) (tys := ty4 E) (C := C) (T := T) (N := N) (ci := ci) (ref := ref) (v := cv E v) hx hb (hSF.hts args) (in_gT hin) hown hSF.1 hP 0 rfl hcl k hk (hSF.w hl1 rfl args) ?_ (by rw [List.getElem?_map, hv]; rfl) hd ?_
  · intro x hx2
    rcases hl2 with e1 | hl2
    · rw [← e1]; exact hx2
    · exact u_same (hSF.w hl2 rfl args) x hx2
  · exact kk p l e R s m args below meth c Z E F cM sM C1 H locs cells slots lv hR hF hS hL (okp (hok v (List.mem_of_getElem? hv)) (okt hst)) h1 h2
theorem V.putf {index ci a N : Nat} {C : String} {T : u_T} {ty : Nat → FieldType} {fs : List MV} {v : MV} (k : Nat) (hC : Cls ci C T N ty) (hf : FL M.1.cls index T k) (hd : decode M.2.1 pc = .ok (.putfield index, 3)) (ha : h a = some (kO ci fs)) (hk : k < N) (hl : k < fs.length) (hfin : (T k).2.2.2 = false) (hn : ∀ E, narrow (ty k) (cv E v) = cv E v ∧ fits (ty k) (cv E v) = true)
    (kk : V M d (pc + 3) ls st (hset h a (kO ci (fs.set k v))) sz kc ks Q) : V M d pc ls (v :: vR a :: st) h sz kc ks Q := by
  intro p l e R s m args below meth c Z E F cM sM C1 H locs cells slots lv hR hF hS hL hst h1 h2
  obtain ⟨⟨hx, hb, hml, hown, hnm⟩, hSF, hFF, hrm, hret⟩ := id C1
  obtain ⟨hok, hat⟩ := hR.2 a _ ha
  obtain ⟨hcl, hin, hty, hnn⟩ := hC
  obtain ⟨ref, hl1, hl2⟩ := hf
  have hin := in_gT hin
  have hts := hSF.hts args
  have hap := va_apart (own := M.1.cls) hts hin ty hty hnn hSF.1 hcl
  obtain ⟨r, g1, cell, q1, q2, q3, q4⟩ := hat
  have hr : r = (C, T, N) := Option.some.inj (g1.symm.trans hcl)
  subst hr
  obtain ⟨hS1, hfc, kC, hkC, hkind⟩ := hSF.1.1 ci _ hcl
  obtain ⟨cf, kf, fi, f, hi, hsl⟩ := hS1 k hk
  have hlay := hts _ (hin _ (u_in_lay hk))
  unfold u_lay at hlay
  rw [if_neg (by rw [hfin]; decide)] at hlay
  have hst2 := (u_facts hfc hkC (u_lays hts hin hk) hi).1
  have hsame : s.fieldFound? ref (T k).2.1 (T k).2.2.1 = some (cf, kf, fi, f) := by
    rcases hl2 with e1 | hl2
    · rw [← e1]; exact hi
    · exact u_same (hSF.w hl2 rfl args) _ hi
  have h6 := u_store hfc hkC hkind hlay hi (hty k hk) (hn E).1 (hn E).2
  refine W.putK hx hb (f := f) ⟨hown, hSF.w hl1 rfl args, ⟨_, _, _, hsame⟩, hst2⟩ (by rw [q2]; exact h6) q1 q3 (by rw [hsl]; exact k2_hasslot (q4 k hk)) rfl rfl hd fun H' e1 e2 e3 => ?_
  rw [hsl] at e1 ⊢
  have hR2 : RW E (hset h a (kO ci (fs.set k v))) sz H' := by
    refine hR.set e2 e3 ?_ ⟨_, hcl, t_OB.to (V := updV (vp_V (fs.map (cv E))) k (cv E v)) ⟨_, e1, q2, q3, t_set q4 hap hk (cv E v)⟩ (fun j _ => ?_)⟩
    · intro w hw
      rcases List.mem_or_eq_of_mem_set hw with hw | rfl
      · exact hok w hw
      · exact okh hst
    · have e9 := vp_updV_set (fs := fs.map (cv E)) (k := k) (by rw [List.length_map]; exact hl) (cv E v) j
      rw [← List.map_set] at e9
      exact e9
  exact kk p l e R s m args below meth c Z E F cM sM C1 H' _ cells slots lv hR2 (hset_F hF (hF a _ ha)) (hS.put e2 e3 (hF a _ ha)) hL (okt (okt hst)) h1 h2
theorem V.putF {index ci a N : Nat} {C : String} {T : u_T} {ty : Nat → FieldType} {fs : List MV} {v : MV} (k : Nat) (hC : Cls ci C T N ty) (hf : FL M.1.cls index T k) (hd : decode M.2.1 pc = .ok (.putfield index, 3)) (ha : h a = some (kO ci fs)) (hk : k < N) (hl : k < fs.length) (hfin : (T k).2.2.2 = true) (hin2 : M.1.name = "<init>") (hdecl : (T k).1 = M.1.cls) (hn : ∀ E, narrow (ty k) (cv E v) = cv E v ∧ fits (ty k) (cv E v) = true)
    (kk : V M d (pc + 3) ls st (hset h a (kO ci (fs.set k v))) sz kc ks Q) : V M d pc ls (v :: vR a :: st) h sz kc ks Q := by
  intro p l e R s m args below meth c Z E F cM sM C1 H locs cells slots lv hR hF hS hL hst h1 h2
  obtain ⟨⟨hx, hb, hml, hown, hnm⟩, hSF, hFF, hrm, hret⟩ := id C1
  obtain ⟨hok, hat⟩ := hR.2 a _ ha
  obtain ⟨hcl, hin, hty, hnn⟩ := hC
  obtain ⟨ref, hl1, hl2⟩ := hf
  have hin := in_gT hin
  have hts := hSF.hts args
  have hap := va_apart (own := M.1.cls) hts hin ty hty hnn hSF.1 hcl
  obtain ⟨r, g1, cell, q1, q2, q3, q4⟩ := hat
  have hr : r = (C, T, N) := Option.some.inj (g1.symm.trans hcl)
  subst hr
  obtain ⟨hS1, hfc, kC, hkC, hkind⟩ := hSF.1.1 ci _ hcl
  obtain ⟨cf, kf, fi, f, hi, hsl⟩ := hS1 k hk
  have hlay := hts _ (hin _ (u_in_lay hk))
  unfold u_lay at hlay
  rw [if_pos hfin] at hlay
  have hst2 := (u_facts hfc hkC (u_lays hts hin hk) hi).1
  have hsame : s.fieldFound? ref (T k).2.1 (T k).2.2.1 = some (cf, kf, fi, f) := by
    rcases hl2 with e1 | hl2
    · rw [← e1]; exact hi
    · exact u_same (hSF.w hl2 rfl args) _ hi
  have hcf : m.cls = cf := by
    obtain ⟨_, _, c', _, _, _, -, -, hf', -, -, -, hown2, -⟩ := Cond.laysFinal_spec hlay
    have e1 : c' = cf := by have := hi.symm.trans hf'; simp at this; exact this.1.symm
    rw [hdecl] at hown2
    rw [← e1]; exact Option.some.inj (hown.symm.trans hown2)
  have h6 := u_fits hfc hkC hkind (Or.inr hlay) hi (hty k hk) (hn E).1 (hn E).2
  refine W.putFinK hx hb hown (hSF.w hl1 rfl args) hsame hst2 hcf (by rw [hnm]; exact hin2) (by rw [q2]; exact h6) q1 q3 (by rw [hsl]; exact k2_hasslot (q4 k hk)) rfl rfl hd fun H' e1 e2 e3 => ?_
  rw [hsl] at e1 ⊢
  have hR2 : RW E (hset h a (kO ci (fs.set k v))) sz H' := by
    refine hR.set e2 e3 ?_ ⟨_, hcl, t_OB.to (V := updV (vp_V (fs.map (cv E))) k (cv E v)) ⟨_, e1, q2, q3, t_set q4 hap hk (cv E v)⟩ (fun j _ => ?_)⟩
    · intro w hw
      rcases List.mem_or_eq_of_mem_set hw with hw | rfl
      · exact hok w hw
      · exact okh hst
    · have e9 := vp_updV_set (fs := fs.map (cv E)) (k := k) (by rw [List.length_map]; exact hl) (cv E v) j
      rw [← List.map_set] at e9
      exact e9
  exact kk p l e R s m args below meth c Z E F cM sM C1 H' _ cells slots lv hR2 (hset_F hF (hF a _ ha)) (hS.put e2 e3 (hF a _ ha)) hL (okt (okt hst)) h1 h2
theorem V.new {index ci N : Nat} {C : String} {T : u_T} {ty : Nat → FieldType} (fs : List MV) {kc2 ks2 : Nat} (hC : Cls ci C T N ty) (hw1 : Cond.classLink M.1.cls index C ∈ lw_tbl) (hw2 : Cond.instantiable C N ∈ lw_tbl) (hw3 : Cond.initialized C ∈ lw_tbl) (hd : decode M.2.1 pc = .ok (.new index, 3)) (hfs : ∀ E, ∀ j, j < N → defaultValue (ty j) = vp_V (fs.map (cv E)) j) (hok : ∀ v ∈ fs, okV v) (g1 : kc2 + 1 ≤ kc) (g2 : ks2 + N ≤ ks)
    (kk : V M d (pc + 3) ls (vR sz :: st) (hset h sz (kO ci fs)) (sz + 1) kc2 ks2 Q) : V M d pc ls st h sz kc ks Q := by
  intro p l e R s m args below meth c Z E F cM sM C1 H locs cells slots lv hR hF hS hL hst h1 h2
  obtain ⟨⟨hx, hb, hml, hown, hnm⟩, hSF, hFF, hrm, hret⟩ := id C1
  obtain ⟨hcl, hin, hty, hnn⟩ := hC
  have hKn := hSF.1.1 ci _ hcl
  refine W.newcK hx hb hown (hSF.w hw1 rfl args) (hSF.w hw2 rfl args) (hSF.w hw3 rfl args) rfl hd (by omega) (by omega) hKn.2.1 rfl fun H1 kC hkC e1 z1 o1 => ?_
  have hsz : H.size = eb E + sz := hR.1
  have hR2 : RW E (hset h sz (kO ci fs)) (sz + 1) H1 := by
    refine hR.push z1 o1 hok ⟨_, hcl, ?_⟩
    rw [← hsz]
    exact (u_born ty (hSF.hts args) (in_gT hin) hKn hkC e1 hty).to (hfs E)
  have hk := kk p l e R s m args below meth c Z E F cM sM C1 H1 locs (cells + 1) (slots + N) lv hR2 (hset_F hF (by rw [← hsz]; exact hFF.1 _ hS.1)) (hS.push1 z1 o1) hL (okp (v := vR sz) trivial hst) (by omega) (by omega)
  rw [hsz]
  exact hk
theorem V.newi (t : Nat) {n : Int} {kc2 ks2 : Nat} (hd : decode M.2.1 pc = .ok (.newarray .int, 2)) (h0 : 0 ≤ n) (hb0 : n ≤ 100000) (g1 : kc2 + 1 ≤ kc) (g2 : ks2 + n.toNat ≤ ks)
    (kk : V M d (pc + 2) ls (vR sz :: st) (hset h sz (kA t n.toNat (fun _ => 0))) (sz + 1) kc2 ks2 Q) : V M d pc ls (vI n :: st) h sz kc ks Q := by
  intro p l e R s m args below meth c Z E F cM sM C1 H locs cells slots lv hR hF hS hL hst h1 h2
  obtain ⟨⟨hx, hb, hml, hown, hnm⟩, hSF, hFF, hrm, hret⟩ := id C1
  have hn : i32 n := okh hst
  have hcl : (Int32.ofInt n).toNatClampNeg = n.toNat := i32_cl hn
  refine va_newaK (atype := .int) hx hb (hSF.w (w := .arrayClass .int) (by decide +kernel) rfl args) rfl hd rfl (by rw [show (0 : Int32) = Int32.ofInt 0 from rfl, i32_lt hn i32_0]; omega) hcl (by show n.toNat * 4 ≤ _; omega) (by omega) (by omega) rfl fun H1 cA e1 z1 o1 hAr hNm => ?_
  have hsz : H.size = eb E + sz := hR.1
  have hcA : cA = E.2.1 0 := Option.some.inj (hNm.symm.trans (hSF.1.2 0 _ rfl).2)
  subst hcA
  have hR2 : RW E (hset h sz (kA t n.toNat (fun _ => 0))) (sz + 1) H1 := by
    refine hR.push z1 o1 ⟨by omega, fun j hj => ⟨i32_0, fun q => by cases q⟩⟩ ?_
    rw [← hsz]
    exact e1
  have hk := kk p l e R s m args below meth c Z E F cM sM C1 H1 locs (cells + 1) (slots + n.toNat) lv hR2 (hset_F hF (by rw [← hsz]; exact hFF.1 _ hS.1)) (hS.push1 z1 o1) hL (okp (v := vR sz) trivial (okt hst)) (by omega) (by omega)
  rw [hsz]
  exact hk
theorem V.newz {n : Int} {kc2 ks2 : Nat} (hd : decode M.2.1 pc = .ok (.newarray .boolean, 2)) (h0 : 0 ≤ n) (hb0 : n ≤ 100000) (g1 : kc2 + 1 ≤ kc) (g2 : ks2 + n.toNat ≤ ks)
    (kk : V M d (pc + 2) ls (vR sz :: st) (hset h sz (kZ n.toNat (fun _ => 0))) (sz + 1) kc2 ks2 Q) : V M d pc ls (vI n :: st) h sz kc ks Q := by
  intro p l e R s m args below meth c Z E F cM sM C1 H locs cells slots lv hR hF hS hL hst h1 h2
  obtain ⟨⟨hx, hb, hml, hown, hnm⟩, hSF, hFF, hrm, hret⟩ := id C1
  have hn : i32 n := okh hst
  have hcl : (Int32.ofInt n).toNatClampNeg = n.toNat := i32_cl hn
  refine va_newaK (atype := .boolean) hx hb (hSF.w (w := .arrayClass .boolean) (by decide +kernel) rfl args) rfl hd rfl (by rw [show (0 : Int32) = Int32.ofInt 0 from rfl, i32_lt hn i32_0]; omega) hcl (by show n.toNat * 1 ≤ _; omega) (by omega) (by omega) rfl fun H1 cA e1 z1 o1 hAr hNm => ?_
  have hsz : H.size = eb E + sz := hR.1
  have hcA : cA = E.2.1 1 := Option.some.inj (hNm.symm.trans (hSF.1.2 1 _ rfl).2)
  subst hcA
  have hR2 : RW E (hset h sz (kZ n.toNat (fun _ => 0))) (sz + 1) H1 := by
    refine hR.push z1 o1 ⟨by omega, fun j hj => ⟨i32_0, fun q => Or.inl rfl⟩⟩ ?_
    rw [← hsz]
    exact e1
  have hk := kk p l e R s m args below meth c Z E F cM sM C1 H1 locs (cells + 1) (slots + n.toNat) lv hR2 (hset_F hF (by rw [← hsz]; exact hFF.1 _ hS.1)) (hS.push1 z1 o1) hL (okp (v := vR sz) trivial (okt hst)) (by omega) (by omega)
  rw [hsz]
  exact hk
theorem V.newr0 {index : Nat} {n : Int} {kc2 ks2 : Nat} (hw1 : Cond.classLink M.1.cls index "RiverRoad$Sheet" ∈ lw_tbl) (hd : decode M.2.1 pc = .ok (.anewarray index, 3)) (h0 : 0 ≤ n) (hb0 : n ≤ 100000) (g1 : kc2 + 1 ≤ kc) (g2 : ks2 + n.toNat ≤ ks)
    (kk : V M d (pc + 3) ls (vR sz :: st) (hset h sz (kR 0 n.toNat (fun _ => none))) (sz + 1) kc2 ks2 Q) : V M d pc ls (vI n :: st) h sz kc ks Q := by
  intro p l e R s m args below meth c Z E F cM sM C1 H locs cells slots lv hR hF hS hL hst h1 h2
  obtain ⟨⟨hx, hb, hml, hown, hnm⟩, hSF, hFF, hrm, hret⟩ := id C1
  have hn : i32 n := okh hst
  have hcl : (Int32.ofInt n).toNatClampNeg = n.toNat := i32_cl hn
  have hov : va_AO "RiverRoad$Sheet" s := hSF.2.2.2.2.2.2.1
  refine W.anew hx hb hown (hSF.w hw1 rfl args) (va_AO.use hov) rfl hd rfl (by rw [show (0 : Int32) = Int32.ofInt 0 from rfl, i32_lt hn i32_0]; omega) (by rw [hcl]; omega) (by omega) (by rw [hcl]; omega) fun cA kA comp f1 f2 f3 f4 => ?_
  rw [hcl]
  have hsz : H.size = eb E + sz := hR.1
  obtain ⟨kA2, comp2, a1, a2, a3, a4⟩ := (hSF.1.2 2 _ rfl).2
  have hcA : cA = E.2.1 2 := Option.some.inj (f1.symm.trans a4)
  subst hcA
  generalize hH1 : H.push ({ cls := E.2.1 2, slots := Array.replicate n.toNat .null, vm := .none } : Cell) = H1
  have z1 : H1.size = H.size + 1 := by rw [← hH1, Array.size_push]
  have e1 : H1[H.size]? = some (arrV (E.2.1 2) n.toNat (fun _ => .null)) := by rw [← hH1, Array.getElem?_push_size, ← arrV_new]
  have o1 : ∀ q : Nat, q < H.size → H1[q]? = H[q]? := fun q hq => by rw [← hH1, Array.getElem?_push, if_neg (Nat.ne_of_lt hq)]
  have hR2 : RW E (hset h sz (kR 0 n.toNat (fun _ => none))) (sz + 1) H1 := by
    refine hR.push z1 o1 (show n.toNat < 2147483648 by omega) ?_
    rw [← hsz]
    exact e1
  have hk := kk p l e R s m args below meth c Z E F cM sM C1 H1 locs (cells + 1) (slots + n.toNat) lv hR2 (hset_F hF (by rw [← hsz]; exact hFF.1 _ hS.1)) (hS.push1 z1 o1) hL (okp (v := vR sz) trivial (okt hst)) (by omega) (by omega)
  rw [hsz]
  exact hk
theorem V.newr1 {index : Nat} {n : Int} {kc2 ks2 : Nat} (hw1 : Cond.classLink M.1.cls index "RiverRoad$Thing" ∈ lw_tbl) (hd : decode M.2.1 pc = .ok (.anewarray index, 3)) (h0 : 0 ≤ n) (hb0 : n ≤ 100000) (g1 : kc2 + 1 ≤ kc) (g2 : ks2 + n.toNat ≤ ks)
    (kk : V M d (pc + 3) ls (vR sz :: st) (hset h sz (kR 1 n.toNat (fun _ => none))) (sz + 1) kc2 ks2 Q) : V M d pc ls (vI n :: st) h sz kc ks Q := by
  intro p l e R s m args below meth c Z E F cM sM C1 H locs cells slots lv hR hF hS hL hst h1 h2
  obtain ⟨⟨hx, hb, hml, hown, hnm⟩, hSF, hFF, hrm, hret⟩ := id C1
  have hn : i32 n := okh hst
  have hcl : (Int32.ofInt n).toNatClampNeg = n.toNat := i32_cl hn
  have hov : va_AO "RiverRoad$Thing" s := hSF.2.2.2.2.2.2.2.1
  refine W.anew hx hb hown (hSF.w hw1 rfl args) (va_AO.use hov) rfl hd rfl (by rw [show (0 : Int32) = Int32.ofInt 0 from rfl, i32_lt hn i32_0]; omega) (by rw [hcl]; omega) (by omega) (by rw [hcl]; omega) fun cA kA comp f1 f2 f3 f4 => ?_
  rw [hcl]
  have hsz : H.size = eb E + sz := hR.1
  obtain ⟨kA2, comp2, a1, a2, a3, a4⟩ := (hSF.1.2 3 _ rfl).2
  have hcA : cA = E.2.1 3 := Option.some.inj (f1.symm.trans a4)
  subst hcA
  generalize hH1 : H.push ({ cls := E.2.1 3, slots := Array.replicate n.toNat .null, vm := .none } : Cell) = H1
  have z1 : H1.size = H.size + 1 := by rw [← hH1, Array.size_push]
  have e1 : H1[H.size]? = some (arrV (E.2.1 3) n.toNat (fun _ => .null)) := by rw [← hH1, Array.getElem?_push_size, ← arrV_new]
  have o1 : ∀ q : Nat, q < H.size → H1[q]? = H[q]? := fun q hq => by rw [← hH1, Array.getElem?_push, if_neg (Nat.ne_of_lt hq)]
  have hR2 : RW E (hset h sz (kR 1 n.toNat (fun _ => none))) (sz + 1) H1 := by
    refine hR.push z1 o1 (show n.toNat < 2147483648 by omega) ?_
    rw [← hsz]
    exact e1
  have hk := kk p l e R s m args below meth c Z E F cM sM C1 H1 locs (cells + 1) (slots + n.toNat) lv hR2 (hset_F hF (by rw [← hsz]; exact hFF.1 _ hS.1)) (hS.push1 z1 o1) hL (okp (v := vR sz) trivial (okt hst)) (by omega) (by omega)
  rw [hsz]
  exact hk
theorem V.iald {a t n : Nat} {f : Nat → Int} {i : Int} (hd : decode M.2.1 pc = .ok (.iaload, 1)) (ha : h a = some (kA t n f)) (h0 : 0 ≤ i) (h9 : i < n) (kk : V M d (pc + 1) ls (vI (f i.toNat) :: st) h sz kc ks Q) : V M d pc ls (vI i :: vR a :: st) h sz kc ks Q := by
  intro p l e R s m args below meth c Z E F cM sM C1 H locs cells slots lv hR hF hS hL hst h1 h2
  obtain ⟨⟨hx, hb, hml, hown, hnm⟩, hSF, hFF, hrm, hret⟩ := id C1
  have hi : i32 i := okh hst
  obtain ⟨hok, hat⟩ := hR.2 a _ ha
  have hP : va_P E.1 classes [(eb E + a, .inl (E.2.1 0, n, .inl (fun j => Int32.ofInt (f j))))] H := fun j q hq => by
    match j, hq with
    | 0, hq => cases hq; exact hat
    | j + 1, hq => cases hq
  refine va_iald (D := E.1) (cl := classes) (tys := ty4 E) hx hb hSF.1 hP 0 0 rfl rfl (i32_in hi h0 h9) hd ?_
  rw [i32_cl hi]
  exact kk p l e R s m args below meth c Z E F cM sM C1 H locs cells slots lv hR hF hS hL (okp (v := vI _) (hok.2 _ (by omega)).1 (okt (okt hst))) h1 h2
theorem V.zald {a n : Nat} {f : Nat → Int} {i : Int} (hd : decode M.2.1 pc = .ok (.baload, 1)) (ha : h a = some (kZ n f)) (h0 : 0 ≤ i) (h9 : i < n) (kk : V M d (pc + 1) ls (vI (f i.toNat) :: st) h sz kc ks Q) : V M d pc ls (vI i :: vR a :: st) h sz kc ks Q := by
  intro p l e R s m args below meth c Z E F cM sM C1 H locs cells slots lv hR hF hS hL hst h1 h2
  obtain ⟨⟨hx, hb, hml, hown, hnm⟩, hSF, hFF, hrm, hret⟩ := id C1
  have hi : i32 i := okh hst
  obtain ⟨hok, hat⟩ := hR.2 a _ ha
  have hP : va_P E.1 classes [(eb E + a, .inl (E.2.1 1, n, .inl (fun j => Int32.ofInt (f j))))] H := fun j q hq => by
    match j, hq with
    | 0, hq => cases hq; exact hat
    | j + 1, hq => cases hq
  refine va_zald (D := E.1) (cl := classes) (tys := ty4 E) hx hb hSF.1 hP 0 1 rfl rfl (i32_in hi h0 h9) hd ?_
  rw [i32_cl hi]
  exact kk p l e R s m args below meth c Z E F cM sM C1 H locs cells slots lv hR hF hS hL (okp (v := vI _) (hok.2 _ (by omega)).1 (okt (okt hst))) h1 h2
theorem cv_vQ (E : Ev) (o : Option Nat) : va_rf (cq E o) = cv E (vQ o) := by cases o <;> rfl
theorem V.aald0 {a n : Nat} {g : Nat → Option Nat} {i : Int} (hd : decode M.2.1 pc = .ok (.aaload, 1)) (ha : h a = some (kR 0 n g)) (h0 : 0 ≤ i) (h9 : i < n) (kk : V M d (pc + 1) ls (vQ (g i.toNat) :: st) h sz kc ks Q) : V M d pc ls (vI i :: vR a :: st) h sz kc ks Q := by
  intro p l e R s m args below meth c Z E F cM sM C1 H locs cells slots lv hR hF hS hL hst h1 h2
  obtain ⟨⟨hx, hb, hml, hown, hnm⟩, hSF, hFF, hrm, hret⟩ := id C1
  have hi : i32 i := okh hst
  obtain ⟨hok, hat⟩ := hR.2 a _ ha
  have hP : va_P E.1 classes [(eb E + a, .inl (E.2.1 2, n, .inr (.inr (.inr (.inr (fun j => cq E (g j)))))))] H := fun j q hq => by
    match j, hq with
    | 0, hq => cases hq; exact hat
    | j + 1, hq => cases hq
  refine va_aldq (D := E.1) (cl := classes) (tys := ty4 E) hx hb hSF.1 hP 0 2 rfl rfl (i32_in hi h0 h9) hd ?_
  rw [i32_cl hi, cv_vQ]
  exact kk p l e R s m args below meth c Z E F cM sM C1 H locs cells slots lv hR hF hS hL (okp (v := vQ _) trivial (okt (okt hst))) h1 h2
theorem V.aald1 {a n : Nat} {g : Nat → Option Nat} {i : Int} (hd : decode M.2.1 pc = .ok (.aaload, 1)) (ha : h a = some (kR 1 n g)) (h0 : 0 ≤ i) (h9 : i < n) (kk : V M d (pc + 1) ls (vQ (g i.toNat) :: st) h sz kc ks Q) : V M d pc ls (vI i :: vR a :: st) h sz kc ks Q := by
  intro p l e R s m args below meth c Z E F cM sM C1 H locs cells slots lv hR hF hS hL hst h1 h2
  obtain ⟨⟨hx, hb, hml, hown, hnm⟩, hSF, hFF, hrm, hret⟩ := id C1
  have hi : i32 i := okh hst
  obtain ⟨hok, hat⟩ := hR.2 a _ ha
  have hP : va_P E.1 classes [(eb E + a, .inl (E.2.1 3, n, .inr (.inr (.inr (.inr (fun j => cq E (g j)))))))] H := fun j q hq => by
    match j, hq with
    | 0, hq => cases hq; exact hat
    | j + 1, hq => cases hq
  refine va_aldq (D := E.1) (cl := classes) (tys := ty4 E) hx hb hSF.1 hP 0 3 rfl rfl (i32_in hi h0 h9) hd ?_
  rw [i32_cl hi, cv_vQ]
  exact kk p l e R s m args below meth c Z E F cM sM C1 H locs cells slots lv hR hF hS hL (okp (v := vQ _) trivial (okt (okt hst))) h1 h2
/-- a table with place i set -/
def upf (f : Nat → Int) (i : Nat) (x : Int) : Nat → Int := fun j => if j = i then x else f j
def upq (g : Nat → Option Nat) (i : Nat) (x : Option Nat) : Nat → Option Nat := fun j => if j = i then x else g j
theorem V.iast {a t n : Nat} {f : Nat → Int} {i x : Int} (hd : decode M.2.1 pc = .ok (.iastore, 1)) (ha : h a = some (kA t n f)) (h0 : 0 ≤ i) (h9 : i < n) (kk : V M d (pc + 1) ls st (hset h a (kA t n (upf f i.toNat x))) sz kc ks Q) : V M d pc ls (vI x :: vI i :: vR a :: st) h sz kc ks Q := by
  intro p l e R s m args below meth c Z E F cM sM C1 H locs cells slots lv hR hF hS hL hst h1 h2
  obtain ⟨⟨hx, hb, hml, hown, hnm⟩, hSF, hFF, hrm, hret⟩ := id C1
  have hi : i32 i := okh (okt hst)
  obtain ⟨hok, hat⟩ := hR.2 a _ ha
  have hat : H[eb E + a]? = some (arrV (E.2.1 0) n (fun j => .int (Int32.ofInt (f j)))) := hat
  refine W.iast hx hb hat ((hSF.1.2 0 _ rfl).1 n (fun j => .int (Int32.ofInt (f j)))) (fun q => by cases q) (by rw [arrV_size]; exact i32_in hi h0 h9) rfl rfl hd fun H1 e8 z oq => ?_
  have hR2 : RW E (hset h a (kA t n (upf f i.toNat x))) sz H1 := by
    refine hR.set z oq ⟨hok.1, fun j hj => ⟨?_, fun q => by cases q⟩⟩ ?_
    · unfold upf; split
      · exact okh hst
      · exact (hok.2 j hj).1
    · show H1[eb E + a]? = some (arrV (E.2.1 0) n (fun j => .int (Int32.ofInt (upf f i.toNat x j))))
      rw [e8, arrV_store, i32_cl hi]
      congr 2
      funext q
      by_cases hq : q = i.toNat
      · subst hq; simp [updV, upf]
      · simp [updV, upf, hq]
  exact kk p l e R s m args below meth c Z E F cM sM C1 H1 _ cells slots lv hR2 (hset_F hF (hF a _ ha)) (hS.put z oq (hF a _ ha)) hL (okt (okt (okt hst))) h1 h2
theorem V.zast {a n : Nat} {f : Nat → Int} {i x : Int} (hd : decode M.2.1 pc = .ok (.bastore, 1)) (ha : h a = some (kZ n f)) (h0 : 0 ≤ i) (h9 : i < n) (hx0 : x = 0 ∨ x = 1) (kk : V M d (pc + 1) ls st (hset h a (kZ n (upf f i.toNat x))) sz kc ks Q) : V M d pc ls (vI x :: vI i :: vR a :: st) h sz kc ks Q := by
  intro p l e R s m args below meth c Z E F cM sM C1 H locs cells slots lv hR hF hS hL hst h1 h2
  obtain ⟨⟨hx, hb, hml, hown, hnm⟩, hSF, hFF, hrm, hret⟩ := id C1
  have hi : i32 i := okh (okt hst)
  obtain ⟨hok, hat⟩ := hR.2 a _ ha
  have hat : H[eb E + a]? = some (arrV (E.2.1 1) n (fun j => .int (Int32.ofInt (f j)))) := hat
  have hnar : narrow .boolean (.int (Int32.ofInt x)) = .int (Int32.ofInt x) := by rcases hx0 with rfl | rfl <;> rfl
  refine W.zast hx hb hat ((hSF.1.2 1 _ rfl).1 n (fun j => .int (Int32.ofInt (f j)))) (fun q => by cases q) (by rw [arrV_size]; exact i32_in hi h0 h9) rfl rfl hd fun H1 e8 z oq => ?_
  rw [hnar] at e8
  have hR2 : RW E (hset h a (kZ n (upf f i.toNat x))) sz H1 := by
    refine hR.set z oq ⟨hok.1, fun j hj => ?_⟩ ?_
    · unfold upf; split
      · exact ⟨okh hst, fun _ => hx0⟩
      · exact hok.2 j hj
    · show H1[eb E + a]? = some (arrV (E.2.1 1) n (fun j => .int (Int32.ofInt (upf f i.toNat x j))))
      rw [e8, arrV_store, i32_cl hi]
      congr 2
      funext q
      by_cases hq : q = i.toNat
      · subst hq; simp [updV, upf]
      · simp [updV, upf, hq]
  exact kk p l e R s m args below meth c Z E F cM sM C1 H1 _ cells slots lv hR2 (hset_F hF (hF a _ ha)) (hS.put z oq (hF a _ ha)) hL (okt (okt (okt hst))) h1 h2
theorem V.aast0 {a n b ci N : Nat} {C : String} {T : u_T} {ty : Nat → FieldType} {fs : List MV} {g : Nat → Option Nat} {i : Int} (hC : Cls ci C T N ty) (hca : C = "RiverRoad$Sheet" ∨ (C, "RiverRoad$Sheet") ∈ caL) (hd : decode M.2.1 pc = .ok (.aastore, 1)) (ha : h a = some (kR 0 n g)) (hb9 : h b = some (kO ci fs)) (h0 : 0 ≤ i) (h9 : i < n) (kk : V M d (pc + 1) ls st (hset h a (kR 0 n (upq g i.toNat (some b)))) sz kc ks Q) : V M d pc ls (vR b :: vI i :: vR a :: st) h sz kc ks Q := by
  intro p l e R s m args below meth c Z E F cM sM C1 H locs cells slots lv hR hF hS hL hst h1 h2
  obtain ⟨⟨hx, hb, hml, hown, hnm⟩, hSF, hFF, hrm, hret⟩ := id C1
  have hi : i32 i := okh (okt hst)
  obtain ⟨hok, hat⟩ := hR.2 a _ ha
  obtain ⟨hokb, r, hr1, cellV, g1, g2, g3, g4⟩ := hR.2 b _ hb9
  have hat : H[eb E + a]? = some (arrV (E.2.1 2) n (fun j => va_rf (cq E (g j)))) := hat
  obtain ⟨hcl, -, -, -⟩ := hC
  have hcls := (hSF.1.1 ci _ hcl).2
  obtain ⟨kA, comp, k1, k2, k3, -⟩ := (hSF.1.2 2 _ rfl).2
  obtain ⟨kE, hkE, -⟩ := Vm.findClass_spec k3
  obtain ⟨kC, hkC, -⟩ := hcls.2
  have hasg : s.vm.assignable (E.1.1 ci) comp = true := by
    rcases hca with e1 | hca
    · have e2 : s.vm.findClass "RiverRoad$Sheet" = some (E.1.1 ci) := by rw [← e1]; exact hcls.1
      cases k3.symm.trans e2
      exact va_assign hcls
    · obtain ⟨c0, t1, f1, f2, f3⟩ := Cond.castable_spec (va_Nw.use (A := args) rfl (hSF.2.2.1 _ hca))
      cases hcls.1.symm.trans f1
      cases k3.symm.trans f2
      exact f3
  refine W.aast hx hb hat (fun q hq => by cases hq) (fun hq => by cases hq) k1 k2 rfl hkE ⟨by rw [show (0 : Int32) = Int32.ofInt 0 from rfl, i32_lt hi i32_0]; omega, by rw [arrV_size, i32_cl hi]; omega⟩ g1 (fun q hq => by rw [g3] at hq; cases hq) (by rw [g2]; exact hkC) (by rw [g2]; exact hasg) rfl rfl hd fun H1 e8 z oq => ?_
  have hR2 : RW E (hset h a (kR 0 n (upq g i.toNat (some b)))) sz H1 := by
    refine hR.set z oq hok ?_
    show H1[eb E + a]? = some (arrV (E.2.1 2) n (fun j => va_rf (cq E (upq g i.toNat (some b) j))))
    rw [e8, arrV_store, i32_cl hi]
    congr 2
    funext q
    by_cases hq : q = i.toNat
    · subst hq; simp [updV, upq, va_rf, cq]
    · simp [updV, upq, hq]
  exact kk p l e R s m args below meth c Z E F cM sM C1 H1 _ cells slots lv hR2 (hset_F hF (hF a _ ha)) (hS.put z oq (hF a _ ha)) hL (okt (okt (okt hst))) h1 h2
theorem V.aastN0 {a n : Nat} {g : Nat → Option Nat} {i : Int} (hd : decode M.2.1 pc = .ok (.aastore, 1)) (ha : h a = some (kR 0 n g)) (h0 : 0 ≤ i) (h9 : i < n) (kk : V M d (pc + 1) ls st (hset h a (kR 0 n (upq g i.toNat none))) sz kc ks Q) : V M d pc ls (vN :: vI i :: vR a :: st) h sz kc ks Q := by
  intro p l e R s m args below meth c Z E F cM sM C1 H locs cells slots lv hR hF hS hL hst h1 h2
  obtain ⟨⟨hx, hb, hml, hown, hnm⟩, hSF, hFF, hrm, hret⟩ := id C1
  have hi : i32 i := okh (okt hst)
  obtain ⟨hok, hat⟩ := hR.2 a _ ha
  have hat : H[eb E + a]? = some (arrV (E.2.1 2) n (fun j => va_rf (cq E (g j)))) := hat
  refine va_WaastN (C := "RiverRoad$Sheet") hx hb hat ((hSF.1.2 2 _ rfl).1 n (fun j => va_rf (cq E (g j)))) (fun q => by cases q) (by rw [arrV_size]; exact i32_in hi h0 h9) rfl rfl hd fun H1 e8 z oq => ?_
  have hR2 : RW E (hset h a (kR 0 n (upq g i.toNat none))) sz H1 := by
    refine hR.set z oq hok ?_
    show H1[eb E + a]? = some (arrV (E.2.1 2) n (fun j => va_rf (cq E (upq g i.toNat none j))))
    rw [e8, arrV_store, i32_cl hi]
    congr 2
    funext q
    by_cases hq : q = i.toNat
    · subst hq; simp [updV, upq, va_rf, cq]
    · simp [updV, upq, hq]
  exact kk p l e R s m args below meth c Z E F cM sM C1 H1 _ cells slots lv hR2 (hset_F hF (hF a _ ha)) (hS.put z oq (hF a _ ha)) hL (okt (okt (okt hst))) h1 h2
theorem V.aast1 {a n b ci N : Nat} {C : String} {T : u_T} {ty : Nat → FieldType} {fs : List MV} {g : Nat → Option Nat} {i : Int} (hC : Cls ci C T N ty) (hca : C = "RiverRoad$Thing" ∨ (C, "RiverRoad$Thing") ∈ caL) (hd : decode M.2.1 pc = .ok (.aastore, 1)) (ha : h a = some (kR 1 n g)) (hb9 : h b = some (kO ci fs)) (h0 : 0 ≤ i) (h9 : i < n) (kk : V M d (pc + 1) ls st (hset h a (kR 1 n (upq g i.toNat (some b)))) sz kc ks Q) : V M d pc ls (vR b :: vI i :: vR a :: st) h sz kc ks Q := by
  intro p l e R s m args below meth c Z E F cM sM C1 H locs cells slots lv hR hF hS hL hst h1 h2
  obtain ⟨⟨hx, hb, hml, hown, hnm⟩, hSF, hFF, hrm, hret⟩ := id C1
  have hi : i32 i := okh (okt hst)
  obtain ⟨hok, hat⟩ := hR.2 a _ ha
  obtain ⟨hokb, r, hr1, cellV, g1, g2, g3, g4⟩ := hR.2 b _ hb9
  have hat : H[eb E + a]? = some (arrV (E.2.1 3) n (fun j => va_rf (cq E (g j)))) := hat
  obtain ⟨hcl, -, -, -⟩ := hC
  have hcls := (hSF.1.1 ci _ hcl).2
  obtain ⟨kA, comp, k1, k2, k3, -⟩ := (hSF.1.2 3 _ rfl).2
  obtain ⟨kE, hkE, -⟩ := Vm.findClass_spec k3
  obtain ⟨kC, hkC, -⟩ := hcls.2
  have hasg : s.vm.assignable (E.1.1 ci) comp = true := by
    rcases hca with e1 | hca
    · have e2 : s.vm.findClass "RiverRoad$Thing" = some (E.1.1 ci) := by rw [← e1]; exact hcls.1
      cases k3.symm.trans e2
      exact va_assign hcls
    · obtain ⟨c0, t1, f1, f2, f3⟩ := Cond.castable_spec (va_Nw.use (A := args) rfl (hSF.2.2.1 _ hca))
      cases hcls.1.symm.trans f1
      cases k3.symm.trans f2
      exact f3
  refine W.aast hx hb hat (fun q hq => by cases hq) (fun hq => by cases hq) k1 k2 rfl hkE ⟨by rw [show (0 : Int32) = Int32.ofInt 0 from rfl, i32_lt hi i32_0]; omega, by rw [arrV_size, i32_cl hi]; omega⟩ g1 (fun q hq => by rw [g3] at hq; cases hq) (by rw [g2]; exact hkC) (by rw [g2]; exact hasg) rfl rfl hd fun H1 e8 z oq => ?_
  have hR2 : RW E (hset h a (kR 1 n (upq g i.toNat (some b)))) sz H1 := by
    refine hR.set z oq hok ?_
    show H1[eb E + a]? = some (arrV (E.2.1 3) n (fun j => va_rf (cq E (upq g i.toNat (some b) j))))
    rw [e8, arrV_store, i32_cl hi]
    congr 2
    funext q
    by_cases hq : q = i.toNat
    · subst hq; simp [updV, upq, va_rf, cq]
    · simp [updV, upq, hq]
  exact kk p l e R s m args below meth c Z E F cM sM C1 H1 _ cells slots lv hR2 (hset_F hF (hF a _ ha)) (hS.put z oq (hF a _ ha)) hL (okt (okt (okt hst))) h1 h2
theorem V.aastN1 {a n : Nat} {g : Nat → Option Nat} {i : Int} (hd : decode M.2.1 pc = .ok (.aastore, 1)) (ha : h a = some (kR 1 n g)) (h0 : 0 ≤ i) (h9 : i < n) (kk : V M d (pc + 1) ls st (hset h a (kR 1 n (upq g i.toNat none))) sz kc ks Q) : V M d pc ls (vN :: vI i :: vR a :: st) h sz kc ks Q := by
  intro p l e R s m args below meth c Z E F cM sM C1 H locs cells slots lv hR hF hS hL hst h1 h2
  obtain ⟨⟨hx, hb, hml, hown, hnm⟩, hSF, hFF, hrm, hret⟩ := id C1
  have hi : i32 i := okh (okt hst)
  obtain ⟨hok, hat⟩ := hR.2 a _ ha
  have hat : H[eb E + a]? = some (arrV (E.2.1 3) n (fun j => va_rf (cq E (g j)))) := hat
  refine va_WaastN (C := "RiverRoad$Thing") hx hb hat ((hSF.1.2 3 _ rfl).1 n (fun j => va_rf (cq E (g j)))) (fun q => by cases q) (by rw [arrV_size]; exact i32_in hi h0 h9) rfl rfl hd fun H1 e8 z oq => ?_
  have hR2 : RW E (hset h a (kR 1 n (upq g i.toNat none))) sz H1 := by
    refine hR.set z oq hok ?_
    show H1[eb E + a]? = some (arrV (E.2.1 3) n (fun j => va_rf (cq E (upq g i.toNat none j))))
    rw [e8, arrV_store, i32_cl hi]
    congr 2
    funext q
    by_cases hq : q = i.toNat
    · subst hq; simp [updV, upq, va_rf, cq]
    · simp [updV, upq, hq]
  exact kk p l e R s m args below meth c Z E F cM sM C1 H1 _ cells slots lv hR2 (hset_F hF (hF a _ ha)) (hS.put z oq (hF a _ ha)) hL (okt (okt (okt hst))) h1 h2
end HR
