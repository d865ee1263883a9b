/-! WHAT THE CLASS HOLDS of the state -/
def cnm (k : Int) : String := if k = 1 then "RiverRoad$Row" else if k = 2 then "RiverRoad$Arches" else if k = 3 then "RiverRoad$Nest" else if k = 4 then "RiverRoad$Peaks" else if k = 5 then "RiverRoad$Land" else if k = 6 then "RiverRoad$Loop" else if k = 7 then "RiverRoad$Strip" else "RiverRoad$Fold"
def insB (k j : Int) : Bool := if isOf k j then (cnm k == cnm j || caL.contains (cnm k, cnm j)) else ncL.contains (cnm k, cnm j)
theorem ins_all : ∀ k j : Fin 9, 1 ≤ k.val → 1 ≤ j.val → insB (k.val : Int) (j.val : Int) = true := by decide +kernel
theorem ins_one {k j : Int} (hk : 1 ≤ k ∧ k ≤ 8) (hj : 1 ≤ j ∧ j ≤ 8) : insB k j = true := by
  have := ins_all ⟨k.toNat, by omega⟩ ⟨j.toNat, by omega⟩ (by show 1 ≤ k.toNat; omega) (by show 1 ≤ j.toNat; omega)
  have e1 : ((k.toNat : Nat) : Int) = k := by omega
  have e2 : ((j.toNat : Nat) : Int) = j := by omega
  simp only [e1, e2] at this
  exact this
theorem ins_y {k j : Int} (hk : 1 ≤ k ∧ k ≤ 8) (hj : 1 ≤ j ∧ j ≤ 8) (h : isOf k j) : cnm k = cnm j ∨ (cnm k, cnm j) ∈ caL := by
  have := ins_one hk hj
  unfold insB at this
  rw [if_pos h, Bool.or_eq_true] at this
  rcases this with z | z
  · exact Or.inl (eq_of_beq z)
  · exact Or.inr (List.contains_iff_mem.mp z)
theorem ins_n {k j : Int} (hk : 1 ≤ k ∧ k ≤ 8) (hj : 1 ≤ j ∧ j ≤ 8) (h : ¬ isOf k j) : (cnm k, cnm j) ∈ ncL := by
  have := ins_one hk hj
  unfold insB at this
  rw [if_neg h] at this
  exact List.contains_iff_mem.mp this
/-- ARCHES in the heap -/
def ArO (h : MH) (a : Nat) (k : Int) (n : Nat) (s : Nat → Int) : Prop := (2 ≤ k ∧ k ≤ 4) ∧ 37 ≤ a ∧ ∃ (c : Nat) (f : Nat → Int), 37 ≤ c ∧ h a = some (kO (rci k) [vI (n : Int), vL (pls s (2 * n) : Int), vR c]) ∧ h c = some (kA 0 (2 * n) f) ∧ ∀ q, q < 2 * n → f q = pt s n q
def LaO (h : MH) (a : Nat) (k : Int) (n : Nat) (s b : Nat → Int) : Prop := (k = 5 ∨ k = 6) ∧ 37 ≤ a ∧ ∃ (o u c : Nat) (ko ku : Int) (l : Nat → Int), 37 ≤ c ∧ ArO h o ko n s ∧ ArO h u ku n b ∧ h a = some (kO (if k = 6 then 8 else 7) [vI (n : Int), vR o, vR u, vR c, vI (nlp s b n : Int)]) ∧ h c = some (kA 0 (2 * n) l) ∧ ∀ q, q < 2 * n → l q = lab s b n q
def StO (h : MH) (a : Nat) (k : Int) (n : Nat) (s : Nat → Int) : Prop := (k = 7 ∨ k = 8) ∧ 37 ≤ a ∧ ∃ (bs bp : Nat) (st ps : Nat → Int) (x y : Int), 37 ≤ bs ∧ 37 ≤ bp ∧ h a = some (kO (if k = 8 then 10 else 9) [vI (n : Int), vR bs, vR bp, vI x, vI y]) ∧ h bs = some (kA 0 n st) ∧ h bp = some (kA 0 n ps) ∧ (∀ q, q < n → st q = s q) ∧ isPos s ps n ∧ firstClash ps n x y
def Th (h : MH) (a : Nat) (T : TH) : Prop := wfT T ∧ ((T.1 = 1 ∧ 37 ≤ a ∧ h a = some (kO 3 [vI (T.2.1 : Int), vL (pls T.2.2.1 (2 * T.2.1) : Int)])) ∨ ArO h a T.1 T.2.1 T.2.2.1 ∨ LaO h a T.1 T.2.1 T.2.2.1 T.2.2.2 ∨ StO h a T.1 T.2.1 T.2.2.1)
/-- cells that nobody writes again -/
def imm : MC → Prop
  | .inl (false, t, _, _) => t = 0
  | .inl (true, _) => False
  | .inr (.inl _) => False
  | .inr (.inr _) => True
def Ex (h h2 : MH) : Prop := ∀ a c, 37 ≤ a → h a = some c → imm c → h2 a = some c
theorem ArO.ex {h h2 : MH} {a : Nat} {k : Int} {n : Nat} {s : Nat → Int} (e : Ex h h2) (g : ArO h a k n s) : ArO h2 a k n s := by
  obtain ⟨g1, g2, c, f, g3, g4, g5, g6⟩ := g
  exact ⟨g1, g2, c, f, g3, e _ _ g2 g4 trivial, e _ _ g3 g5 rfl, g6⟩
theorem LaO.ex {h h2 : MH} {a : Nat} {k : Int} {n : Nat} {s b : Nat → Int} (e : Ex h h2) (g : LaO h a k n s b) : LaO h2 a k n s b := by
  obtain ⟨g1, g2, o, u, c, ko, ku, l, g3, g4, g5, g6, g7, g8⟩ := g
  exact ⟨g1, g2, o, u, c, ko, ku, l, g3, g4.ex e, g5.ex e, e _ _ g2 g6 trivial, e _ _ g3 g7 rfl, g8⟩
theorem StO.ex {h h2 : MH} {a : Nat} {k : Int} {n : Nat} {s : Nat → Int} (e : Ex h h2) (g : StO h a k n s) : StO h2 a k n s := by
  obtain ⟨g1, g2, bs, bp, st, ps, x, y, g3, g4, g5, g6, g7, g8⟩ := g
  exact ⟨g1, g2, bs, bp, st, ps, x, y, g3, g4, e _ _ g2 g5 trivial, e _ _ g3 g6 rfl, e _ _ g4 g7 rfl, g8⟩
theorem Th.ex {h h2 : MH} {a : Nat} {T : TH} (e : Ex h h2) (g : Th h a T) : Th h2 a T := by
  obtain ⟨w, g⟩ := g
  refine ⟨w, ?_⟩
  rcases g with ⟨g1, g2, g3⟩ | g | g | g
  · exact Or.inl ⟨g1, g2, e _ _ g2 g3 trivial⟩
  · exact Or.inr (Or.inl (g.ex e))
  · exact Or.inr (Or.inr (Or.inl (g.ex e)))
  · exact Or.inr (Or.inr (Or.inr (g.ex e)))
theorem cl_rci {k : Int} (h : 2 ≤ k ∧ k ≤ 4) : Cls (rci k) (cnm k) F_Ar 3 t_Ar := by
  by_cases e4 : k = 4
  · subst e4; exact cl_Pe
  · by_cases e3 : k = 3
    · subst e3; exact cl_Ne
    · have : k = 2 := by omega
      subst this; exact cl_Ar
theorem cl_la {k : Int} (h : k = 5 ∨ k = 6) : Cls (if k = 6 then 8 else 7) (cnm k) F_La 5 t_La := by
  rcases h with rfl | rfl
  · exact cl_La
  · exact cl_Lo
theorem cl_st {k : Int} (h : k = 7 ∨ k = 8) : Cls (if k = 8 then 10 else 9) (cnm k) F_St 5 t_St := by
  rcases h with rfl | rfl
  · exact cl_St
  · exact cl_Fo
/-- some object of its class stands there -/
theorem Th.ob {h : MH} {a : Nat} {k : Int} {n : Nat} {s b : Nat → Int} (g : Th h a (k, n, s, b)) : 37 ≤ a ∧ ∃ (ci N : Nat) (T : u_T) (ty : Nat → FieldType) (fs : List MV), Cls ci (cnm k) T N ty ∧ h a = some (kO ci fs) := by
  obtain ⟨w, g⟩ := g
  rcases g with ⟨g1, g2, g3⟩ | g | g | g
  · have e : k = 1 := g1
    subst e
    exact ⟨g2, 3, 2, F_Row, t_Row, _, cl_Row, g3⟩
  · obtain ⟨g1, g2, c, f, g3, g4, g5, g6⟩ := g
    exact ⟨g2, _, _, _, _, _, cl_rci g1, g4⟩
  · obtain ⟨g1, g2, o, u, c, ko, ku, l, g3, g4, g5, g6, g7, g8⟩ := g
    exact ⟨g2, _, _, _, _, _, cl_la g1, g6⟩
  · obtain ⟨g1, g2, bs, bp, st, ps, x, y, g3, g4, g5, g6, g7, g8⟩ := g
    exact ⟨g2, _, _, _, _, _, cl_st g1, g5⟩
theorem Th.ar {h : MH} {a : Nat} {k : Int} {n : Nat} {s b : Nat → Int} (g : Th h a (k, n, s, b)) (hof : isOf k 2) : ArO h a k n s := by
  obtain ⟨w, g⟩ := g
  have hw := wf_kind w
  rcases g with ⟨g1, g2, g3⟩ | g | g | g
  · have e : k = 1 := g1
    omega
  · exact g
  · have : k = 5 ∨ k = 6 := g.1
    omega
  · have : k = 7 ∨ k = 8 := g.1
    omega
theorem Th.la {h : MH} {a : Nat} {k : Int} {n : Nat} {s b : Nat → Int} (g : Th h a (k, n, s, b)) (hof : isOf k 5) : LaO h a k n s b := by
  obtain ⟨w, g⟩ := g
  rcases g with ⟨g1, g2, g3⟩ | g | g | g
  · have e : k = 1 := g1
    omega
  · have : 2 ≤ k ∧ k ≤ 4 := g.1
    omega
  · exact g
  · have : k = 7 ∨ k = 8 := g.1
    omega
theorem Th.st {h : MH} {a : Nat} {k : Int} {n : Nat} {s b : Nat → Int} (g : Th h a (k, n, s, b)) (hof : isOf k 7) : StO h a k n s := by
  obtain ⟨w, g⟩ := g
  rcases g with ⟨g1, g2, g3⟩ | g | g | g
  · have e : k = 1 := g1
    omega
  · have : 2 ≤ k ∧ k ≤ 4 := g.1
    omega
  · have : k = 5 ∨ k = 6 := g.1
    omega
  · exact g
/-! all of it -/
def C_sh (h : MH) (gs : Nat → Option Nat) (k : Nat) (o : Option SHT) : Prop := match o with
  | none => gs k = none
  | some (l, n, g) => ∃ (a b : Nat) (f : Nat → Int), gs k = some a ∧ 37 ≤ a ∧ 37 ≤ b ∧ h a = some (kO 2 [vI l, vR b]) ∧ h b = some (kA (k + 1) n f) ∧ (∀ i, i < n → f i = g i) ∧ 0 ≤ l ∧ l ≤ 2 ∧ n ≤ 100
def C_th (h : MH) (gt : Nat → Option Nat) (t : Nat) (o : Option TH) : Prop := match o with
  | none => gt t = none
  | some T => ∃ a, gt t = some a ∧ Th h a T
def CB (S : SS) (h : MH) (gs gt : Nat → Option Nat) (tr en fs fp : Nat → Int) : Prop := h 0 = some (oRR S.2.2.1) ∧ h 1 = some (kR 0 8 gs) ∧ h 2 = some (kR 1 10 gt) ∧ h 3 = some (kO 1 [vR 4, vI (S.2.2.2.1 : Int)]) ∧ h 4 = some (kA 0 16 tr) ∧ h 5 = some (kA 0 169 en) ∧ h 6 = some (kA 0 8 fs) ∧ h 7 = some (kA 0 8 fp)
def CC (S : SS) (h : MH) (gs gt : Nat → Option Nat) (tr en : Nat → Int) : Prop := (∀ a, 8 ≤ a → a < 37 → h a = none) ∧ enT en ∧ (S.2.2.2.1 ≤ 16 ∧ ∀ i, i < S.2.2.2.1 → tr i = S.2.2.2.2 i) ∧ (∀ k, k < 8 → C_sh h gs k (S.1 k)) ∧ ∀ t, t < 10 → C_th h gt t (S.2.1 t)
def CI (S : SS) (h : MH) : Prop := ∃ gs gt tr en fs fp, CB S h gs gt tr en fs fp ∧ CC S h gs gt tr en
def QCI (x : Int × SS) (sz : Nat) : QT := fun r h s => sz ≤ s ∧ r = some (vI x.1) ∧ CI x.2 h
def QCX (P : Int × SS → Prop) (sz : Nat) : QT := fun r h s => sz ≤ s ∧ ∃ x, P x ∧ r = some (vI x.1) ∧ CI x.2 h
theorem qc_of {x : Int × SS} {v : Int} {S2 : SS} {h : MH} {sz s : Nat} (hs : sz ≤ s) (e : x = (v, S2)) (k : CI S2 h) : QCI x sz (some (vI v)) h s := by rw [e]; exact ⟨hs, rfl, k⟩
theorem qcx_of {P : Int × SS → Prop} {v : Int} {S2 : SS} {h : MH} {sz s : Nat} (hs : sz ≤ s) (e : P (v, S2)) (k : CI S2 h) : QCX P sz (some (vI v)) h s := ⟨hs, _, e, rfl, k⟩
/-- growth: what stood stands, nothing below 37 changes -/
def Gr (h h2 : MH) : Prop := (∀ a c, h a = some c → h2 a = some c) ∧ ∀ a, a < 37 → h2 a = h a
theorem Gr.rf (h : MH) : Gr h h := ⟨fun _ _ k => k, fun _ _ => rfl⟩
theorem Gr.new {h h2 : MH} (g : Gr h h2) {a : Nat} (c : MC) (ha : 37 ≤ a) (hn : h a = none) : Gr h (hset h2 a c) := by
  refine ⟨fun b d k => ?_, fun b hb => ?_⟩
  · exact hset_o (fun e => by rw [e, hn] at k; cases k) (g.1 b d k)
  · rw [hset_ne (by omega)]; exact g.2 b hb
theorem Gr.ex {h h2 : MH} (g : Gr h h2) : Ex h h2 := fun a c _ k _ => g.1 a c k
theorem fr_none {h : MH} {sz a : Nat} (hfr : ∀ a c, h a = some c → a < sz) (ha : sz ≤ a) : h a = none := by
  cases e : h a with
  | none => rfl
  | some c => have := hfr a c e; omega
theorem C_sh.go {h h2 : MH} {gs : Nat → Option Nat} {k : Nat} {o : Option SHT} (g : ∀ a c, 37 ≤ a → h a = some c → h2 a = some c) (q : C_sh h gs k o) : C_sh h2 gs k o := by
  cases o with
  | none => exact q
  | some T =>
    obtain ⟨l, n, f0⟩ := T
    obtain ⟨a, b, f, q1, q2, q3, q4, q5, q6⟩ := q
    exact ⟨a, b, f, q1, q2, q3, g _ _ q2 q4, g _ _ q3 q5, q6⟩
theorem C_th.go {h h2 : MH} {gt : Nat → Option Nat} {t : Nat} {o : Option TH} (g : Ex h h2) (q : C_th h gt t o) : C_th h2 gt t o := by
  cases o with
  | none => exact q
  | some T =>
    obtain ⟨a, q1, q2⟩ := q
    exact ⟨a, q1, q2.ex g⟩
/-- the same state: fixed cells alike, the others kept -/
theorem CC.keep {S : SS} {h h2 : MH} {gs gt : Nat → Option Nat} {tr en : Nat → Int} (q : CC S h gs gt tr en) (g : ∀ a c, 37 ≤ a → h a = some c → h2 a = some c) (g2 : ∀ a, 8 ≤ a → a < 37 → h2 a = h a) : CC S h2 gs gt tr en := by
  obtain ⟨q1, q2, q3, q4, q5⟩ := q
  exact ⟨fun a h1 h2 => by rw [g2 a h1 h2]; exact q1 a h1 h2, q2, q3, fun k hk => (q4 k hk).go g, fun t ht => (q5 t ht).go (fun a c ha k _ => g a c ha k)⟩
theorem CI.grow {S : SS} {h h2 : MH} (q : CI S h) (g : Gr h h2) : CI S h2 := by
  obtain ⟨gs, gt, tr, en, fs, fp, ⟨b0, b1, b2, b3, b4, b5, b6, b7⟩, c⟩ := q
  exact ⟨gs, gt, tr, en, fs, fp, ⟨g.1 _ _ b0, g.1 _ _ b1, g.1 _ _ b2, g.1 _ _ b3, g.1 _ _ b4, g.1 _ _ b5, g.1 _ _ b6, g.1 _ _ b7⟩, c.keep (fun a c _ k => g.1 a c k) (fun a _ h2 => g.2 a h2)⟩
theorem CB.set0 {S : SS} {h : MH} {gs gt : Nat → Option Nat} {tr en fs fp : Nat → Int} (b : CB S h gs gt tr en fs fp) (x : Int) : CB (sSt S x) (hset h 0 (oRR x)) gs gt tr en fs fp := by
  obtain ⟨b0, b1, b2, b3, b4, b5, b6, b7⟩ := b
  exact ⟨hset_s, hset_o (by decide) b1, hset_o (by decide) b2, hset_o (by decide) b3, hset_o (by decide) b4, hset_o (by decide) b5, hset_o (by decide) b6, hset_o (by decide) b7⟩
theorem CC.st {S : SS} {h : MH} {gs gt : Nat → Option Nat} {tr en : Nat → Int} (q : CC S h gs gt tr en) (x : Int) : CC (sSt S x) h gs gt tr en := q
theorem CC.set0 {S : SS} {h : MH} {gs gt : Nat → Option Nat} {tr en : Nat → Int} (q : CC S h gs gt tr en) {a : Nat} (ha : a < 8) (c : MC) : CC S (hset h a c) gs gt tr en := q.keep (fun b d hb k => hset_o (by omega) k) (fun b h1 h2 => hset_ne (by omega))
theorem CI.st {S : SS} {h : MH} (q : CI S h) (x : Int) : CI (sSt S x) (hset h 0 (oRR x)) := by
  obtain ⟨gs, gt, tr, en, fs, fp, b, c⟩ := q
  exact ⟨gs, gt, tr, en, fs, fp, b.set0 x, (c.set0 (by omega) _).st x⟩
/-- a thing comes to a place -/
theorem CC.put {S : SS} {h : MH} {gs gt : Nat → Option Nat} {tr en : Nat → Int} (q : CC S h gs gt tr en) {p : Nat} (hp : p < 10) {o : Option TH} {v : Option Nat} (x : Int) (hv : C_th h (upq gt p v) p o) (c2 : MC) : CC (S.1, ups S.2.1 p o, x, S.2.2.2) (hset h 2 c2) gs (upq gt p v) tr en := by
  obtain ⟨q1, q2, q3, q4, q5⟩ := q.set0 (a := 2) (by omega) c2
  refine ⟨q1, q2, q3, q4, fun t ht => ?_⟩
  by_cases e : t = p
  · subst e
    show C_th _ _ t (ups S.2.1 t o t)
    rw [ups_e]
    exact hv.go (fun a c ha k _ => hset_o (by omega) k)
  · show C_th _ _ t (ups S.2.1 p o t)
    rw [ups_n e]
    have := q5 t ht
    unfold C_th at this ⊢
    have e2 : upq gt p v t = gt t := by unfold upq; rw [if_neg e]
    cases e3 : S.2.1 t with
    | none => rw [e3] at this; exact e2.trans this
    | some T =>
      rw [e3] at this
      obtain ⟨a, a1, a2⟩ := this
      exact ⟨a, e2.trans a1, a2⟩
theorem CI.put {S : SS} {h : MH} {gs gt : Nat → Option Nat} {tr en fs fp : Nat → Int} (b : CB S h gs gt tr en fs fp) (c : CC S h gs gt tr en) {p : Nat} (hp : p < 10) {a : Nat} {T : TH} (hT : Th h a T) : CI (sTh S p (some T)) (hset (hset h 2 (kR 1 10 (upq gt p (some a)))) 0 (oRR 0)) := by
  obtain ⟨b0, b1, b2, b3, b4, b5, b6, b7⟩ := b
  have e9 : upq gt p (some a) p = some a := by unfold upq; rw [if_pos rfl]
  exact ⟨gs, _, tr, en, fs, fp, ⟨hset_s, hset_o (by decide) (hset_o (by decide) b1), hset_o (by decide) hset_s, hset_o (by decide) (hset_o (by decide) b3), hset_o (by decide) (hset_o (by decide) b4), hset_o (by decide) (hset_o (by decide) b5), hset_o (by decide) (hset_o (by decide) b6), hset_o (by decide) (hset_o (by decide) b7)⟩, (c.put hp 0 (o := some T) (v := some a) ⟨a, e9, hT⟩ _).set0 (by omega) _⟩
theorem csh_cases {h : MH} {gs : Nat → Option Nat} {k : Nat} {o : Option SHT} (q : C_sh h gs k o) : (o = none ∧ gs k = none) ∨ ∃ l n g a b f, o = some (l, n, g) ∧ gs k = some a ∧ 37 ≤ a ∧ 37 ≤ b ∧ h a = some (kO 2 [vI l, vR b]) ∧ h b = some (kA (k + 1) n f) ∧ (∀ i, i < n → f i = g i) ∧ 0 ≤ l ∧ l ≤ 2 ∧ n ≤ 100 := by
  cases o with
  | none => exact Or.inl ⟨rfl, q⟩
  | some T =>
    obtain ⟨l, n, g⟩ := T
    obtain ⟨a, b, f, q⟩ := q
    exact Or.inr ⟨l, n, g, a, b, f, rfl, q⟩
theorem cth_cases {h : MH} {gt : Nat → Option Nat} {t : Nat} {o : Option TH} (q : C_th h gt t o) : (o = none ∧ gt t = none) ∨ ∃ k n s b a, o = some (k, n, s, b) ∧ gt t = some a ∧ Th h a (k, n, s, b) := by
  cases o with
  | none => exact Or.inl ⟨rfl, q⟩
  | some T =>
    obtain ⟨k, n, s, b⟩ := T
    obtain ⟨a, q1, q2⟩ := q
    exact Or.inr ⟨k, n, s, b, a, rfl, q1, q2⟩
