/-! THE CLASS: ask, printed by wip/whole/gen/cls19.py -/
def AskC (h : MH) (a idx : Nat) (nm : String) (v : Int) (L : List Int) : Prop := ∃ (own C : String) (M2 : MD) (d2 ci N : Nat) (T : u_T) (ty : Nat → FieldType) (fs : List MV), d2 ≤ 5 ∧ LinkU "RiverRoad" idx ⟨"RiverRoad$Thing", nm, "(LRiverRoad$Trace;)I"⟩ own C M2 1 ci N T ty ∧ h a = some (kO ci fs) ∧ ∀ (tr : Nat → Int) (sz : Nat), Ct M2 d2 0 0 [vR a, vR 3] (hT h tr 0) sz (QAk h v L sz)
theorem TRl0 (tr : Nat → Int) : TRl tr [] := fun i hi => absurd hi (Nat.not_lt_zero _)
theorem ask_sz {h : MH} {a : Nat} {k : Int} {n : Nat} {s b : Nat → Int} (g : Th h a (k, n, s, b)) : AskC h a 158 "askSize" (szV k n) (szL k) := by
  have hwk := wf_kind g.1
  have hw := g.1
  have hk : k = 1 ∨ k = 2 ∨ k = 3 ∨ k = 4 ∨ k = 5 ∨ k = 6 ∨ k = 7 ∨ k = 8 := by omega
  rcases hk with rfl | rfl | rfl | rfl | rfl | rfl | rfl | rfl
  · skip
    obtain ⟨w, g⟩ := g
    rcases g with ⟨g1, g2, g3⟩ | g | g | g
    rotate_left
    · exact absurd (show 2 ≤ (1 : Int) ∧ (1 : Int) ≤ 4 from g.1) (by decide)
    · exact absurd (show (1 : Int) = 5 ∨ (1 : Int) = 6 from g.1) (by decide)
    · exact absurd (show (1 : Int) = 7 ∨ (1 : Int) = 8 from g.1) (by decide)
    have ha : h a = some (kO 3 [vI (n : Int), vL (pls s (2 * n) : Int)]) := g3
    exact ⟨_, _, _, 1, _, _, _, _, _, by decide, ml_RR_158_Row, ha, fun tr sz => cc_Th_askSize h a g2 cl_Row fl_Th_7_Row (by decide) n rfl ha tr [] (TRl0 tr) (by decide) sz⟩
  · skip
    obtain ⟨g1, g2, c, f, g3, ha, g5, g6⟩ := g.ar (by decide)
    obtain ⟨hsg, har, -⟩ := wf_arch hw (by decide)
    replace ha : h a = some (kO 4 [vI (n : Int), vL (pls s (2 * n) : Int), vR c]) := ha
    exact ⟨_, _, _, 1, _, _, _, _, _, by decide, ml_RR_158_Ar, ha, fun tr sz => cc_Th_askSize h a g2 cl_Ar fl_Th_7_Ar (by decide) n rfl ha tr [] (TRl0 tr) (by decide) sz⟩
  · skip
    obtain ⟨g1, g2, c, f, g3, ha, g5, g6⟩ := g.ar (by decide)
    obtain ⟨hsg, har, -⟩ := wf_arch hw (by decide)
    replace ha : h a = some (kO 5 [vI (n : Int), vL (pls s (2 * n) : Int), vR c]) := ha
    exact ⟨_, _, _, 1, _, _, _, _, _, by decide, ml_RR_158_Ne, ha, fun tr sz => cc_Th_askSize h a g2 cl_Ne fl_Th_7_Ar (by decide) n rfl ha tr [] (TRl0 tr) (by decide) sz⟩
  · skip
    obtain ⟨g1, g2, c, f, g3, ha, g5, g6⟩ := g.ar (by decide)
    obtain ⟨hsg, har, -⟩ := wf_arch hw (by decide)
    replace ha : h a = some (kO 6 [vI (n : Int), vL (pls s (2 * n) : Int), vR c]) := ha
    exact ⟨_, _, _, 1, _, _, _, _, _, by decide, ml_RR_158_Pe, ha, fun tr sz => cc_Th_askSize h a g2 cl_Pe fl_Th_7_Ar (by decide) n rfl ha tr [] (TRl0 tr) (by decide) sz⟩
  · skip
    obtain ⟨g1, g2, o, u, c, ko, ku, l, g3, g4, g5, ha, g7, g8⟩ := g.la (by decide)
    replace ha : h a = some (kO 7 [vI (n : Int), vR o, vR u, vR c, vI (nlp s b n : Int)]) := ha
    exact ⟨_, _, _, 2, _, _, _, _, _, by decide, ml_RR_158_La, ha, fun tr sz => cc_La_askSize h a g2 cl_La n (by omega) rfl ha tr [] (TRl0 tr) (by decide) sz⟩
  · skip
    obtain ⟨g1, g2, o, u, c, ko, ku, l, g3, g4, g5, ha, g7, g8⟩ := g.la (by decide)
    replace ha : h a = some (kO 8 [vI (n : Int), vR o, vR u, vR c, vI (nlp s b n : Int)]) := ha
    exact ⟨_, _, _, 2, _, _, _, _, _, by decide, ml_RR_158_Lo, ha, fun tr sz => cc_La_askSize h a g2 cl_Lo n (by omega) rfl ha tr [] (TRl0 tr) (by decide) sz⟩
  · skip
    obtain ⟨g1, g2, bs, bp, st, ps, x, y, g3, g4, ha, g6, g7, g8, g9, g10⟩ := g.st (by decide)
    replace ha : h a = some (kO 9 [vI (n : Int), vR bs, vR bp, vI x, vI y]) := ha
    obtain ⟨z, hz, hz0, hb⟩ := strip_z hw (by decide)
    have hfz := fz_is hz0 n 0 (by omega) (by omega) (fun j _ g => hb j g)
    have hps : ps 0 = (z : Int) := by have := g9 z hz; rw [hz0] at this; exact this
    exact ⟨_, _, _, 1, _, _, _, _, _, by decide, ml_RR_158_St, ha, fun tr sz => cc_Th_askSize h a g2 cl_St fl_Th_7_St (by decide) n rfl ha tr [] (TRl0 tr) (by decide) sz⟩
  · skip
    obtain ⟨g1, g2, bs, bp, st, ps, x, y, g3, g4, ha, g6, g7, g8, g9, g10⟩ := g.st (by decide)
    replace ha : h a = some (kO 10 [vI (n : Int), vR bs, vR bp, vI x, vI y]) := ha
    obtain ⟨z, hz, hz0, hb⟩ := strip_z hw (by decide)
    have hfz := fz_is hz0 n 0 (by omega) (by omega) (fun j _ g => hb j g)
    have hps : ps 0 = (z : Int) := by have := g9 z hz; rw [hz0] at this; exact this
    exact ⟨_, _, _, 1, _, _, _, _, _, by decide, ml_RR_158_Fo, ha, fun tr sz => cc_Th_askSize h a g2 cl_Fo fl_Th_7_St (by decide) n rfl ha tr [] (TRl0 tr) (by decide) sz⟩
theorem ask_wt {h : MH} {a : Nat} {k : Int} {n : Nat} {s b : Nat → Int} (g : Th h a (k, n, s, b)) : AskC h a 162 "askWorth" (wthV k n s b) (wthL k) := by
  have hwk := wf_kind g.1
  have hw := g.1
  have hk : k = 1 ∨ k = 2 ∨ k = 3 ∨ k = 4 ∨ k = 5 ∨ k = 6 ∨ k = 7 ∨ k = 8 := by omega
  rcases hk with rfl | rfl | rfl | rfl | rfl | rfl | rfl | rfl
  · skip
    obtain ⟨w, g⟩ := g
    rcases g with ⟨g1, g2, g3⟩ | g | g | g
    rotate_left
    · exact absurd (show 2 ≤ (1 : Int) ∧ (1 : Int) ≤ 4 from g.1) (by decide)
    · exact absurd (show (1 : Int) = 5 ∨ (1 : Int) = 6 from g.1) (by decide)
    · exact absurd (show (1 : Int) = 7 ∨ (1 : Int) = 8 from g.1) (by decide)
    have ha : h a = some (kO 3 [vI (n : Int), vL (pls s (2 * n) : Int)]) := g3
    exact ⟨_, _, _, 1, _, _, _, _, _, by decide, ml_RR_162_Row, ha, fun tr sz => cc_Row_askWorth h a g2 n (by omega) s ha tr [] (TRl0 tr) (by decide) sz⟩
  · skip
    obtain ⟨g1, g2, c, f, g3, ha, g5, g6⟩ := g.ar (by decide)
    obtain ⟨hsg, har, -⟩ := wf_arch hw (by decide)
    replace ha : h a = some (kO 4 [vI (n : Int), vL (pls s (2 * n) : Int), vR c]) := ha
    exact ⟨_, _, _, 1, _, _, _, _, _, by decide, ml_RR_162_Ar, ha, fun tr sz => cc_Ar_askWorth h a c g2 g3 cl_Ar n (by omega) s f har ha g5 g6 tr [] (TRl0 tr) (by decide) sz⟩
  · skip
    obtain ⟨g1, g2, c, f, g3, ha, g5, g6⟩ := g.ar (by decide)
    obtain ⟨hsg, har, -⟩ := wf_arch hw (by decide)
    replace ha : h a = some (kO 5 [vI (n : Int), vL (pls s (2 * n) : Int), vR c]) := ha
    exact ⟨_, _, _, 2, _, _, _, _, _, by decide, ml_RR_162_Ne, ha, fun tr sz => cc_Ne_askWorth h a c g2 g3 n (by omega) s f har ha g5 g6 tr [] (TRl0 tr) (by decide) sz⟩
  · skip
    obtain ⟨g1, g2, c, f, g3, ha, g5, g6⟩ := g.ar (by decide)
    obtain ⟨hsg, har, -⟩ := wf_arch hw (by decide)
    replace ha : h a = some (kO 6 [vI (n : Int), vL (pls s (2 * n) : Int), vR c]) := ha
    exact ⟨_, _, _, 1, _, _, _, _, _, by decide, ml_RR_162_Pe, ha, fun tr sz => cc_Ar_askWorth h a c g2 g3 cl_Pe n (by omega) s f har ha g5 g6 tr [] (TRl0 tr) (by decide) sz⟩
  · skip
    obtain ⟨g1, g2, o, u, c, ko, ku, l, g3, g4, g5, ha, g7, g8⟩ := g.la (by decide)
    replace ha : h a = some (kO 7 [vI (n : Int), vR o, vR u, vR c, vI (nlp s b n : Int)]) := ha
    exact ⟨_, _, _, 1, _, _, _, _, _, by decide, ml_RR_162_La, ha, fun tr sz => cc_La_askWorth h a g2 cl_La n (by omega) (nlp s b n : Int) ha tr [] (TRl0 tr) (by decide) sz⟩
  · skip
    obtain ⟨g1, g2, o, u, c, ko, ku, l, g3, g4, g5, ha, g7, g8⟩ := g.la (by decide)
    replace ha : h a = some (kO 8 [vI (n : Int), vR o, vR u, vR c, vI (nlp s b n : Int)]) := ha
    exact ⟨_, _, _, 3, _, _, _, _, _, by decide, ml_RR_162_Lo, ha, fun tr sz => cc_Lo_askWorth h a g2 n (by omega) (nlp s b n : Int) ha (by rw [loop_1 hw rfl]; rfl) tr [] (TRl0 tr) (by decide) sz⟩
  · skip
    obtain ⟨g1, g2, bs, bp, st, ps, x, y, g3, g4, ha, g6, g7, g8, g9, g10⟩ := g.st (by decide)
    replace ha : h a = some (kO 9 [vI (n : Int), vR bs, vR bp, vI x, vI y]) := ha
    obtain ⟨z, hz, hz0, hb⟩ := strip_z hw (by decide)
    have hfz := fz_is hz0 n 0 (by omega) (by omega) (fun j _ g => hb j g)
    have hps : ps 0 = (z : Int) := by have := g9 z hz; rw [hz0] at this; exact this
    rw [show wthV 7 n s b = ps 0 by rw [hps]; unfold wthV; rw [hfz]; rfl]
    exact ⟨_, _, _, 1, _, _, _, _, _, by decide, ml_RR_162_St, ha, fun tr sz => cc_St_askWorth h a bp g2 g4 cl_St n (by omega) ps (by omega) ha g7 tr [] (TRl0 tr) (by decide) sz⟩
  · skip
    obtain ⟨g1, g2, bs, bp, st, ps, x, y, g3, g4, ha, g6, g7, g8, g9, g10⟩ := g.st (by decide)
    replace ha : h a = some (kO 10 [vI (n : Int), vR bs, vR bp, vI x, vI y]) := ha
    obtain ⟨z, hz, hz0, hb⟩ := strip_z hw (by decide)
    have hfz := fz_is hz0 n 0 (by omega) (by omega) (fun j _ g => hb j g)
    have hps : ps 0 = (z : Int) := by have := g9 z hz; rw [hz0] at this; exact this
    rw [show wthV 8 n s b = ps 0 + 100 by rw [hps]; unfold wthV; rw [hfz]; rfl]
    exact ⟨_, _, _, 2, _, _, _, _, _, by decide, ml_RR_162_Fo, ha, fun tr sz => cc_Fo_askWorth h a bp g2 g4 n (by omega) ps (by omega) ha g7 tr [] (TRl0 tr) (by decide) sz⟩
theorem ask_mk {h : MH} {a : Nat} {k : Int} {n : Nat} {s b : Nat → Int} (g : Th h a (k, n, s, b)) : AskC h a 165 "askMark" (mkV k n s b) (mkL k) := by
  have hwk := wf_kind g.1
  have hw := g.1
  have hk : k = 1 ∨ k = 2 ∨ k = 3 ∨ k = 4 ∨ k = 5 ∨ k = 6 ∨ k = 7 ∨ k = 8 := by omega
  rcases hk with rfl | rfl | rfl | rfl | rfl | rfl | rfl | rfl
  · skip
    obtain ⟨w, g⟩ := g
    rcases g with ⟨g1, g2, g3⟩ | g | g | g
    rotate_left
    · exact absurd (show 2 ≤ (1 : Int) ∧ (1 : Int) ≤ 4 from g.1) (by decide)
    · exact absurd (show (1 : Int) = 5 ∨ (1 : Int) = 6 from g.1) (by decide)
    · exact absurd (show (1 : Int) = 7 ∨ (1 : Int) = 8 from g.1) (by decide)
    have ha : h a = some (kO 3 [vI (n : Int), vL (pls s (2 * n) : Int)]) := g3
    exact ⟨_, _, _, 3, _, _, _, _, _, by decide, ml_RR_165_Row, ha, fun tr sz => cc_Th_askMark h a g2 ml_Th_19_Row (d2 := 1) (by decide) ha n (by omega) [10] (fun tr l htr hl sz => cc_Th_askSize h a g2 cl_Row fl_Th_7_Row (by decide) n rfl ha  tr l htr (by omega) sz) tr [] (TRl0 tr) (by decide) sz⟩
  · skip
    obtain ⟨g1, g2, c, f, g3, ha, g5, g6⟩ := g.ar (by decide)
    obtain ⟨hsg, har, -⟩ := wf_arch hw (by decide)
    replace ha : h a = some (kO 4 [vI (n : Int), vL (pls s (2 * n) : Int), vR c]) := ha
    exact ⟨_, _, _, 4, _, _, _, _, _, by decide, ml_RR_165_Ar, ha, fun tr sz => cc_Ar_askMark h a g2 ml_Th_19_Ar (d2 := 1) (by decide) ha n (by omega) [10] (fun tr l htr hl sz => cc_Th_askSize h a g2 cl_Ar fl_Th_7_Ar (by decide) n rfl ha  tr l htr (by omega) sz) tr [] (TRl0 tr) (by decide) sz⟩
  · skip
    obtain ⟨g1, g2, c, f, g3, ha, g5, g6⟩ := g.ar (by decide)
    obtain ⟨hsg, har, -⟩ := wf_arch hw (by decide)
    replace ha : h a = some (kO 5 [vI (n : Int), vL (pls s (2 * n) : Int), vR c]) := ha
    exact ⟨_, _, _, 4, _, _, _, _, _, by decide, ml_RR_165_Ne, ha, fun tr sz => cc_Ar_askMark h a g2 ml_Th_19_Ne (d2 := 1) (by decide) ha n (by omega) [10] (fun tr l htr hl sz => cc_Th_askSize h a g2 cl_Ne fl_Th_7_Ar (by decide) n rfl ha  tr l htr (by omega) sz) tr [] (TRl0 tr) (by decide) sz⟩
  · skip
    obtain ⟨g1, g2, c, f, g3, ha, g5, g6⟩ := g.ar (by decide)
    obtain ⟨hsg, har, -⟩ := wf_arch hw (by decide)
    replace ha : h a = some (kO 6 [vI (n : Int), vL (pls s (2 * n) : Int), vR c]) := ha
    exact ⟨_, _, _, 5, _, _, _, _, _, by decide, ml_RR_165_Pe, ha, fun tr sz => cc_Pe_askMark h a c g2 g3 n (by omega) s f har ha g5 g6 tr [] (TRl0 tr) (by decide) sz⟩
  · skip
    obtain ⟨g1, g2, o, u, c, ko, ku, l, g3, g4, g5, ha, g7, g8⟩ := g.la (by decide)
    replace ha : h a = some (kO 7 [vI (n : Int), vR o, vR u, vR c, vI (nlp s b n : Int)]) := ha
    exact ⟨_, _, _, 3, _, _, _, _, _, by decide, ml_RR_165_La, ha, fun tr sz => cc_Th_askMark h a g2 ml_Th_19_La (d2 := 2) (by decide) ha (2 * (n : Int)) (by omega) [11, 10] (fun tr l htr hl sz => cc_La_askSize h a g2 cl_La n (by omega) rfl ha  tr l htr (by omega) sz) tr [] (TRl0 tr) (by decide) sz⟩
  · skip
    obtain ⟨g1, g2, o, u, c, ko, ku, l, g3, g4, g5, ha, g7, g8⟩ := g.la (by decide)
    replace ha : h a = some (kO 8 [vI (n : Int), vR o, vR u, vR c, vI (nlp s b n : Int)]) := ha
    exact ⟨_, _, _, 3, _, _, _, _, _, by decide, ml_RR_165_Lo, ha, fun tr sz => cc_Th_askMark h a g2 ml_Th_19_Lo (d2 := 2) (by decide) ha (2 * (n : Int)) (by omega) [11, 10] (fun tr l htr hl sz => cc_La_askSize h a g2 cl_Lo n (by omega) rfl ha  tr l htr (by omega) sz) tr [] (TRl0 tr) (by decide) sz⟩
  · skip
    obtain ⟨g1, g2, bs, bp, st, ps, x, y, g3, g4, ha, g6, g7, g8, g9, g10⟩ := g.st (by decide)
    replace ha : h a = some (kO 9 [vI (n : Int), vR bs, vR bp, vI x, vI y]) := ha
    obtain ⟨z, hz, hz0, hb⟩ := strip_z hw (by decide)
    have hfz := fz_is hz0 n 0 (by omega) (by omega) (fun j _ g => hb j g)
    have hps : ps 0 = (z : Int) := by have := g9 z hz; rw [hz0] at this; exact this
    exact ⟨_, _, _, 3, _, _, _, _, _, by decide, ml_RR_165_St, ha, fun tr sz => cc_Th_askMark h a g2 ml_Th_19_St (d2 := 1) (by decide) ha n (by omega) [10] (fun tr l htr hl sz => cc_Th_askSize h a g2 cl_St fl_Th_7_St (by decide) n rfl ha  tr l htr (by omega) sz) tr [] (TRl0 tr) (by decide) sz⟩
  · skip
    obtain ⟨g1, g2, bs, bp, st, ps, x, y, g3, g4, ha, g6, g7, g8, g9, g10⟩ := g.st (by decide)
    replace ha : h a = some (kO 10 [vI (n : Int), vR bs, vR bp, vI x, vI y]) := ha
    obtain ⟨z, hz, hz0, hb⟩ := strip_z hw (by decide)
    have hfz := fz_is hz0 n 0 (by omega) (by omega) (fun j _ g => hb j g)
    have hps : ps 0 = (z : Int) := by have := g9 z hz; rw [hz0] at this; exact this
    exact ⟨_, _, _, 4, _, _, _, _, _, by decide, ml_RR_165_Fo, ha, fun tr sz => cc_Fo_askMark h a g2 ml_Th_19_Fo (d2 := 1) (by decide) ha n (by omega) [10] (fun tr l htr hl sz => cc_Th_askSize h a g2 cl_Fo fl_Th_7_St (by decide) n rfl ha  tr l htr (by omega) sz) tr [] (TRl0 tr) (by decide) sz⟩
theorem CI.tr0 {S : SS} {h : MH} {gs gt : Nat → Option Nat} {tr en fs fp : Nat → Int} (b : CB S h gs gt tr en fs fp) (c : CC S h gs gt tr en) {t2 : Nat → Int} {k : Nat} {w : Nat → Int} (hk : k ≤ 16) (hw : ∀ i, i < k → t2 i = w i) (x : Int) : CI (S.1, S.2.1, x, k, w) (hset (hT h t2 k) 0 (oRR x)) := by
  obtain ⟨b0, b1, b2, b3, b4, b5, b6, b7⟩ := b
  obtain ⟨q1, q2, -, q4, q5⟩ := c.keep (h2 := hset (hT h t2 k) 0 (oRR x)) (fun a c ha e => hset_o (by omega) (hT_o (by omega) (by omega) e)) (fun a h1 h2 => by rw [hset_ne (by omega), hT_ne (by omega) (by omega)])
  exact ⟨gs, gt, t2, en, fs, fp, ⟨hset_s, hset_o (by decide) (hT_o (by decide) (by decide) b1), hset_o (by decide) (hT_o (by decide) (by decide) b2), hset_o (by decide) hT_3, hset_o (by decide) hT_4, hset_o (by decide) (hT_o (by decide) (by decide) b5), hset_o (by decide) (hT_o (by decide) (by decide) b6), hset_o (by decide) (hT_o (by decide) (by decide) b7)⟩, q1, q2, ⟨hk, hw⟩, q4, q5⟩
theorem szL_l (k : Int) : (szL k).length ≤ 16 := by unfold szL; split <;> decide
theorem wthL_l (k : Int) : (wthL k).length ≤ 16 := by unfold wthL; repeat' split
                                                      all_goals decide
theorem mkL_l (k : Int) : (mkL k).length ≤ 16 := by
  unfold mkL; repeat' split
  all_goals first | decide | (have := szL_l k; unfold szL; split <;> decide)
set_option maxRecDepth 20000 in
theorem cs_RR_ask (S : SS) (h : MH) (hI : CI S h) (p w : Int) (sz : Nat) (hsz : 37 ≤ sz) : Ct M_RR_ask 6 0 0 [vR 0, vI p, vI w] h sz (QCI (sp_ask S p w) sz) := by
  refine Ct.of rfl (Nat.le_of_ble_eq_true rfl) ?_
  dsimp only [lsOf]
  obtain ⟨gs, gt, tr, en, fs, fp, hB, hcc⟩ := id hI
  obtain ⟨b0, b1, b2, b3, b4, b5, b6, b7⟩ := id hB
  refine V.iload_n (pc := 0) 1 d_RR_ask_0 rfl rfl ?_
  refine V.cS1 (pc := 1) (kc2 := 0) (ks2 := 0) ml_RR_80 (cc_RR_isPlace _ _ _) d_RR_ask_1 (Nat.le_of_ble_eq_true rfl) (Nat.le_of_ble_eq_true rfl) (Nat.le_of_ble_eq_true rfl) (Nat.le_of_ble_eq_true rfl) ?_
  rintro _ h9 s9 ⟨rfl, hq2, hq3⟩
  rw [hq2, hq3]
  clear hq2 hq3 h9 s9
  dsimp only [Option.toList, List.cons_append, List.nil_append]
  refine V.ifB_eq (tgt := 16) (pc := 4) d_RR_ask_4 (by decide) (fun c_4 => ?_) (fun c_4 => ?_)
  · skip
    refine V.ldc (pc := 16) (-1000001) ck_RR_50 rfl ⟨by decide, by decide⟩ d_RR_ask_16 ?_
    refine V.ret (pc := 18) (r := some (vI _)) d_RR_ask_18 (Or.inl rfl) rfl ?_
    exact qc_of (Nat.le_refl _) (by unfold sp_ask; rw [if_neg (by omega)]) hI
  · skip
    refine V.iload_n (pc := 7) 2 d_RR_ask_7 rfl rfl ?_
    refine V.if_lt (tgt := 16) (pc := 8) d_RR_ask_8 (by decide) (fun c_8 => ?_) (fun c_8 => ?_)
    · skip
      refine V.ldc (pc := 16) (-1000001) ck_RR_50 rfl ⟨by decide, by decide⟩ d_RR_ask_16 ?_
      refine V.ret (pc := 18) (r := some (vI _)) d_RR_ask_18 (Or.inl rfl) rfl ?_
      exact qc_of (Nat.le_refl _) (by unfold sp_ask; rw [if_neg (by omega)]) hI
    · skip
      refine V.iload_n (pc := 11) 2 d_RR_ask_11 rfl rfl ?_
      refine V.iconst (pc := 12) d_RR_ask_12 ⟨by decide, by decide⟩ ?_
      refine V.icmp_lt (tgt := 19) (pc := 13) d_RR_ask_13 (by decide) (fun c_13 => ?_) (fun c_13 => ?_)
      · skip
        refine V.aload_n (pc := 19) 0 d_RR_ask_19 rfl rfl ?_
        refine V.getf (pc := 20) 2 cl_RR fl_RR_24_RR d_RR_ask_20 b0 (Nat.le_of_ble_eq_true rfl) rfl ?_
        refine V.iconst (pc := 23) d_RR_ask_23 ⟨by decide, by decide⟩ ?_
        refine V.putf (pc := 24) 1 cl_Tr fl_RR_155_Tr d_RR_ask_24 b3 (Nat.le_of_ble_eq_true rfl) (Nat.le_of_ble_eq_true rfl) rfl (fun _ => ⟨rfl, rfl⟩) ?_
        dsimp only [List.set]
        rw [hT_0 b4]
        rcases cth_cases (hcc.2.2.2.2 p.toNat (by omega)) with ⟨hS, hgt⟩ | ⟨kd, n, s, sb, a, hS, hgt, hth⟩
        rotate_left
        have hwk := wf_kind hth.1
        · skip
          obtain ⟨ha37, -⟩ := hth.ob
          refine V.aload_n (pc := 27) 0 d_RR_ask_27 rfl rfl ?_
          refine V.getf (pc := 28) 1 cl_RR fl_RR_17_RR d_RR_ask_28 (hT_o (by omega) (by omega) b0) (Nat.le_of_ble_eq_true rfl) rfl ?_
          refine V.iload_n (pc := 31) 1 d_RR_ask_31 rfl rfl ?_
          refine V.aald1 (pc := 32) d_RR_ask_32 (hT_o (by omega) (by omega) b2) (by omega) (by omega) ?_
          rw [hgt]
          refine V.astore_n (pc := 33) 3 d_RR_ask_33 rfl (Nat.le_of_ble_eq_true rfl) rfl ?_
          dsimp only [put]
          refine V.aload_n (pc := 34) 3 d_RR_ask_34 rfl rfl ?_
          refine V.ifnonnull (tgt := 44) (pc := 35) d_RR_ask_35 (by decide) (fun a_35 c_35 => ?_) (fun c_35 => ?_)
          · skip
            refine V.iload_n (pc := 44) 2 d_RR_ask_44 rfl rfl ?_
            rcases (show w = 0 ∨ w = 1 ∨ w = 2 by omega) with rfl | rfl | rfl
            · skip
              refine V.lsw (pc := 45) (off := 27) (tgt := 72) d_RR_ask_45 (by decide) (by decide) (by decide) ?_
              obtain ⟨own, C9, M2, d2, ci, N, T9, ty, fs9, hd2, hlk, hob, hct⟩ := ask_sz hth
              refine V.aload_n (pc := 72) 0 d_RR_ask_72 rfl rfl ?_
              refine V.aload_n (pc := 73) 3 d_RR_ask_73 rfl rfl ?_
              refine V.aload_n (pc := 74) 0 d_RR_ask_74 rfl rfl ?_
              refine V.getf (pc := 75) 2 cl_RR fl_RR_24_RR d_RR_ask_75 (hT_o (by omega) (by omega) b0) (Nat.le_of_ble_eq_true rfl) rfl ?_
              refine V.cU1 (pc := 78) (kc2 := 0) (ks2 := 0) hlk (hT_o (by omega) (by omega) hob) (hct _ _) d_RR_ask_78 (by omega) (Nat.le_of_ble_eq_true rfl) (Nat.le_of_ble_eq_true rfl) (Nat.le_of_ble_eq_true rfl) ?_
              rintro _ _ _ ⟨rfl, rfl, tr, rfl, htr⟩
              dsimp only [Option.toList, List.cons_append, List.nil_append]
              refine V.cV1 (pc := 81) (kc2 := 0) (ks2 := 0) ml_RR_58 (hT_o (by omega) (by omega) b0) (cc_RR_settled _ _ _ (hT_o (by omega) (by omega) b0) _) d_RR_ask_81 (Nat.le_of_ble_eq_true rfl) (Nat.le_of_ble_eq_true rfl) (Nat.le_of_ble_eq_true rfl) (Nat.le_of_ble_eq_true rfl) ?_
              rintro _ h9 s9 ⟨rfl, hq2, hq3⟩
              rw [hq2, hq3]
              clear hq2 hq3 h9 s9
              dsimp only [Option.toList, List.cons_append, List.nil_append]
              refine V.ret (pc := 84) (r := some (vI _)) d_RR_ask_84 (Or.inl rfl) rfl ?_
              refine qc_of (S2 := sTr S (szL kd)) (Nat.le_refl _) ?_ (CI.tr0 hB hcc (szL_l kd) htr 0)
              unfold sp_ask; rw [if_pos (by omega)]; simp only [hS]; rw [if_pos trivial]
            · skip
              refine V.lsw (pc := 45) (off := 40) (tgt := 85) d_RR_ask_45 (by decide) (by decide) (by decide) ?_
              obtain ⟨own, C9, M2, d2, ci, N, T9, ty, fs9, hd2, hlk, hob, hct⟩ := ask_wt hth
              refine V.aload_n (pc := 85) 0 d_RR_ask_85 rfl rfl ?_
              refine V.aload_n (pc := 86) 3 d_RR_ask_86 rfl rfl ?_
              refine V.aload_n (pc := 87) 0 d_RR_ask_87 rfl rfl ?_
              refine V.getf (pc := 88) 2 cl_RR fl_RR_24_RR d_RR_ask_88 (hT_o (by omega) (by omega) b0) (Nat.le_of_ble_eq_true rfl) rfl ?_
              refine V.cU1 (pc := 91) (kc2 := 0) (ks2 := 0) hlk (hT_o (by omega) (by omega) hob) (hct _ _) d_RR_ask_91 (by omega) (Nat.le_of_ble_eq_true rfl) (Nat.le_of_ble_eq_true rfl) (Nat.le_of_ble_eq_true rfl) ?_
              rintro _ _ _ ⟨rfl, rfl, tr, rfl, htr⟩
              dsimp only [Option.toList, List.cons_append, List.nil_append]
              refine V.cV1 (pc := 94) (kc2 := 0) (ks2 := 0) ml_RR_58 (hT_o (by omega) (by omega) b0) (cc_RR_settled _ _ _ (hT_o (by omega) (by omega) b0) _) d_RR_ask_94 (Nat.le_of_ble_eq_true rfl) (Nat.le_of_ble_eq_true rfl) (Nat.le_of_ble_eq_true rfl) (Nat.le_of_ble_eq_true rfl) ?_
              rintro _ h9 s9 ⟨rfl, hq2, hq3⟩
              rw [hq2, hq3]
              clear hq2 hq3 h9 s9
              dsimp only [Option.toList, List.cons_append, List.nil_append]
              refine V.ret (pc := 97) (r := some (vI _)) d_RR_ask_97 (Or.inl rfl) rfl ?_
              refine qc_of (S2 := sTr S (wthL kd)) (Nat.le_refl _) ?_ (CI.tr0 hB hcc (wthL_l kd) htr 0)
              unfold sp_ask; rw [if_pos (by omega)]; simp only [hS]; rw [if_neg (by decide), if_pos trivial]
            · skip
              refine V.lsw (pc := 45) (off := 53) (tgt := 98) d_RR_ask_45 (by decide) (by decide) (by decide) ?_
              obtain ⟨own, C9, M2, d2, ci, N, T9, ty, fs9, hd2, hlk, hob, hct⟩ := ask_mk hth
              refine V.aload_n (pc := 98) 0 d_RR_ask_98 rfl rfl ?_
              refine V.aload_n (pc := 99) 3 d_RR_ask_99 rfl rfl ?_
              refine V.aload_n (pc := 100) 0 d_RR_ask_100 rfl rfl ?_
              refine V.getf (pc := 101) 2 cl_RR fl_RR_24_RR d_RR_ask_101 (hT_o (by omega) (by omega) b0) (Nat.le_of_ble_eq_true rfl) rfl ?_
              refine V.cU1 (pc := 104) (kc2 := 0) (ks2 := 0) hlk (hT_o (by omega) (by omega) hob) (hct _ _) d_RR_ask_104 (by omega) (Nat.le_of_ble_eq_true rfl) (Nat.le_of_ble_eq_true rfl) (Nat.le_of_ble_eq_true rfl) ?_
              rintro _ _ _ ⟨rfl, rfl, tr, rfl, htr⟩
              dsimp only [Option.toList, List.cons_append, List.nil_append]
              refine V.cV1 (pc := 107) (kc2 := 0) (ks2 := 0) ml_RR_58 (hT_o (by omega) (by omega) b0) (cc_RR_settled _ _ _ (hT_o (by omega) (by omega) b0) _) d_RR_ask_107 (Nat.le_of_ble_eq_true rfl) (Nat.le_of_ble_eq_true rfl) (Nat.le_of_ble_eq_true rfl) (Nat.le_of_ble_eq_true rfl) ?_
              rintro _ h9 s9 ⟨rfl, hq2, hq3⟩
              rw [hq2, hq3]
              clear hq2 hq3 h9 s9
              dsimp only [Option.toList, List.cons_append, List.nil_append]
              refine V.ret (pc := 110) (r := some (vI _)) d_RR_ask_110 (Or.inl rfl) rfl ?_
              refine qc_of (S2 := sTr S (mkL kd)) (Nat.le_refl _) ?_ (CI.tr0 hB hcc (mkL_l kd) htr 0)
              unfold sp_ask; rw [if_pos (by omega)]; simp only [hS]; rw [if_neg (by decide), if_neg (by decide)]
          · skip
            cases c_35
        · skip
          refine V.aload_n (pc := 27) 0 d_RR_ask_27 rfl rfl ?_
          refine V.getf (pc := 28) 1 cl_RR fl_RR_17_RR d_RR_ask_28 (hT_o (by omega) (by omega) b0) (Nat.le_of_ble_eq_true rfl) rfl ?_
          refine V.iload_n (pc := 31) 1 d_RR_ask_31 rfl rfl ?_
          refine V.aald1 (pc := 32) d_RR_ask_32 (hT_o (by omega) (by omega) b2) (by omega) (by omega) ?_
          rw [hgt]
          refine V.astore_n (pc := 33) 3 d_RR_ask_33 rfl (Nat.le_of_ble_eq_true rfl) rfl ?_
          dsimp only [put]
          refine V.aload_n (pc := 34) 3 d_RR_ask_34 rfl rfl ?_
          refine V.ifnonnull (tgt := 44) (pc := 35) d_RR_ask_35 (by decide) (fun a_35 c_35 => ?_) (fun c_35 => ?_)
          · skip
            cases c_35
          · skip
            refine V.aload_n (pc := 38) 0 d_RR_ask_38 rfl rfl ?_
            refine V.iconst (pc := 39) d_RR_ask_39 ⟨by decide, by decide⟩ ?_
            refine V.cV1 (pc := 40) (kc2 := 0) (ks2 := 0) ml_RR_51 (hT_o (by omega) (by omega) b0) (cc_RR_found _ _ (by omega) _ (hT_o (by omega) (by omega) b0) _) d_RR_ask_40 (Nat.le_of_ble_eq_true rfl) (Nat.le_of_ble_eq_true rfl) (Nat.le_of_ble_eq_true rfl) (Nat.le_of_ble_eq_true rfl) ?_
            rintro _ h9 s9 ⟨rfl, hq2, hq3⟩
            rw [hq2, hq3]
            clear hq2 hq3 h9 s9
            dsimp only [Option.toList, List.cons_append, List.nil_append]
            first | rw [fi1] | rw [fi2] | rw [fi3] | rw [fi4] | rw [fi5]
            refine V.ret (pc := 43) (r := some (vI _)) d_RR_ask_43 (Or.inl rfl) rfl ?_
            refine qc_of (S2 := (S.1, S.2.1, 1, 0, S.2.2.2.2)) (Nat.le_refl _) ?_ (CI.tr0 hB hcc (Nat.zero_le _) (fun i hi => absurd hi (Nat.not_lt_zero _)) 1)
            unfold sp_ask; rw [if_pos (by omega)]; simp only [hS]
      · skip
        refine V.ldc (pc := 16) (-1000001) ck_RR_50 rfl ⟨by decide, by decide⟩ d_RR_ask_16 ?_
        refine V.ret (pc := 18) (r := some (vI _)) d_RR_ask_18 (Or.inl rfl) rfl ?_
        exact qc_of (Nat.le_refl _) (by unfold sp_ask; rw [if_neg (by omega)]) hI
