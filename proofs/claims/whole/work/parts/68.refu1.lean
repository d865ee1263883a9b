/-! THE REFERENCE: unlike, printed by wip/whole/gen/refu1.py -/
/-- all but what unlike works with -/
def EU (σ τ : SM) : Prop := (∀ j, j ≠ 13 → j ≠ 14 → j ≠ 19 → j ≠ 20 → j ≠ 21 → j ≠ 22 → j ≠ 26 → j ≠ 28 → j ≠ 29 → j ≠ 30 → j ≠ 31 → j ≠ 32 → τ j = σ j) ∧ R_en (τ 19) (τ 20)
theorem EU.put {σ τ : SM} (h : EU σ τ) {k : Nat} (hk : k = 13 ∨ k = 14 ∨ k = 21 ∨ k = 22 ∨ k = 26 ∨ k = 28 ∨ k = 29 ∨ k = 30 ∨ k = 31 ∨ k = 32) (f : Nat → Int) : EU σ (sset τ k f) := ⟨fun j h1 h2 h3 h4 h5 h6 h7 h8 h9 h10 h11 h12 => (sset_n (by omega)).trans (h.1 j h1 h2 h3 h4 h5 h6 h7 h8 h9 h10 h11 h12), by rw [sset_n (by omega), sset_n (by omega)]; exact h.2⟩
/-- the tables that unlike makes, of the first m rows -/
def UT (n m : Nat) (τ : SM) : Prop := ∀ i, i < m → τ 30 i = (d6 (TTn n) i : Int) ∧ τ 31 i = (d6 (MMn n) i : Int)
/-- the state while unlike goes through the lands -/
def US (σ : SM) (n c D : Nat) (S : List Nat) (τ : SM) : Prop := EU σ τ ∧ AJ n (EE n) (τ 22) ∧ UT n (EE n) τ ∧ τ 26 = upf (σ 26) n (c : Int) ∧ (∀ x, x < EE n * EE n → τ 29 x = if D.testBit x then 1 else 0) ∧ TD (τ 32) S
def QU (σ : SM) (n sz : Nat) : QT := fun r h s => s = sz ∧ r = some (vI (unlT n)) ∧ ∃ τ, h = hM τ ∧ EU σ τ ∧ τ 26 = upf (σ 26) n (unlT n)
set_option maxRecDepth 20000 in
theorem ps_Mo_unlike (σ : SM) (n : Nat) (hn : 1 ≤ n ∧ n ≤ 5) (al : Int) (hal : al = (EE n : Int)) (hA : EE n ≤ 42 ∧ 1 ≤ EE n) (c D : Nat) (S : List Nat) (hS : S.length < 1700) (t : Nat) (ht : t < EE n * EE n) (ht2 : t < 1764) (kk lf ii jj wy : Int) (hwy : 0 ≤ wy ∧ wy ≤ 2) (x : Option MV) (hlf : lf = (S.length : Int)) (τ : SM) (hU : US σ n c D S τ) (sz : Nat) (Q : QT) (K : ∀ (τ : SM) (lf : Int) (x : Option MV), US σ n c (puD D t) (puS D t S) τ → lf = ((puS D t S).length : Int) → V M_Mo_unlike 3 257 [some (vR 8), some (vI (n : Nat)), some (vI al), some (vI kk), some (vI lf), some (vI ii), some (vI jj), some (vI (wy + 1)), x] [] (hM τ) sz 0 0 Q) :
    V M_Mo_unlike 3 321 [some (vR 8), some (vI (n : Nat)), some (vI al), some (vI kk), some (vI lf), some (vI ii), some (vI jj), some (vI wy), x] [vI (t : Int)] (hM τ) sz 0 0 Q := by
  obtain ⟨u1, u2, u3, u4, u5, u6⟩ := id hU
  cases hb : D.testBit t with
  | true =>
    refine V.istore (pc := 321) d_Mo_unlike_321 (Nat.le_of_ble_eq_true rfl) rfl ?_
    dsimp only [put]
    refine V.aload_n (pc := 323) 0 d_Mo_unlike_323 rfl rfl ?_
    refine V.getf (pc := 324) 29 cl_Mo fl_Mo_80_Mo d_Mo_unlike_324 (hM_o _) (Nat.le_of_ble_eq_true rfl) rfl ?_
    refine V.iload (pc := 327) d_Mo_unlike_327 rfl ?_
    refine V.zald (pc := 329) d_Mo_unlike_329 (ar_isDone _).1 (by omega) (by omega) ?_
    try simp (disch := omega) only [sset_n, sset_e]
    rw [show (t : Int).toNat = t by omega, u5 t ht, if_pos hb]
    refine V.if_ne (tgt := 353) (pc := 330) d_Mo_unlike_330 (by decide) (fun c_330 => ?_) (fun c_330 => ?_)
    · skip
      refine V.iinc (pc := 353) d_Mo_unlike_353 rfl ⟨by omega, by omega⟩ (Nat.le_of_ble_eq_true rfl) rfl ?_
      dsimp only [put]
      refine V.goto (tgt := 257) (pc := 356) d_Mo_unlike_356 (by decide) ?_
      refine K τ lf (some (vI (t : Int))) ?_ ?_
      · rw [puS_t hb]
        refine ⟨u1, u2, u3, u4, fun y hy => ?_, u6⟩
        rw [u5 y hy]
        by_cases e : D.testBit y = true
        · rw [if_pos e, if_pos ((puD_bit D t y).mpr (Or.inl e))]
        · rw [if_neg e, if_neg]
          intro z
          rcases (puD_bit D t y).mp z with z | z
          · exact e z
          · rw [← z] at e; exact e hb
      · rw [puS_t hb]; exact hlf
    · skip
      exfalso; omega
  | false =>
    refine V.istore (pc := 321) d_Mo_unlike_321 (Nat.le_of_ble_eq_true rfl) rfl ?_
    dsimp only [put]
    refine V.aload_n (pc := 323) 0 d_Mo_unlike_323 rfl rfl ?_
    refine V.getf (pc := 324) 29 cl_Mo fl_Mo_80_Mo d_Mo_unlike_324 (hM_o _) (Nat.le_of_ble_eq_true rfl) rfl ?_
    refine V.iload (pc := 327) d_Mo_unlike_327 rfl ?_
    refine V.zald (pc := 329) d_Mo_unlike_329 (ar_isDone _).1 (by omega) (by omega) ?_
    try simp (disch := omega) only [sset_n, sset_e]
    refine V.if_ne (tgt := 353) (pc := 330) d_Mo_unlike_330 (by decide) (fun c_330 => ?_) (fun c_330 => ?_)
    · skip
      rw [show (t : Int).toNat = t by omega, u5 t ht, if_neg (by rw [hb]; decide)] at c_330; exact absurd rfl c_330
    · skip
      refine V.aload_n (pc := 333) 0 d_Mo_unlike_333 rfl rfl ?_
      refine V.getf (pc := 334) 29 cl_Mo fl_Mo_80_Mo d_Mo_unlike_334 (hM_o _) (Nat.le_of_ble_eq_true rfl) rfl ?_
      refine V.iload (pc := 337) d_Mo_unlike_337 rfl ?_
      refine V.iconst (pc := 339) d_Mo_unlike_339 ⟨by decide, by decide⟩ ?_
      refine V.zast (pc := 340) d_Mo_unlike_340 (ar_isDone _).1 (by omega) (by omega) (by omega) ?_
      rw [(ar_isDone _).2]
      refine V.aload_n (pc := 341) 0 d_Mo_unlike_341 rfl rfl ?_
      refine V.getf (pc := 342) 32 cl_Mo fl_Mo_89_Mo d_Mo_unlike_342 (hM_o _) (Nat.le_of_ble_eq_true rfl) rfl ?_
      refine V.iload (pc := 345) d_Mo_unlike_345 rfl ?_
      refine V.iload (pc := 347) d_Mo_unlike_347 rfl ?_
      refine V.iast (pc := 349) d_Mo_unlike_349 (ar_toDo _).1 (by omega) (by omega) ?_
      rw [(ar_toDo _).2]
      refine V.iinc (pc := 350) d_Mo_unlike_350 rfl ⟨by omega, by omega⟩ (Nat.le_of_ble_eq_true rfl) rfl ?_
      dsimp only [put]
      refine V.iinc (pc := 353) d_Mo_unlike_353 rfl ⟨by omega, by omega⟩ (Nat.le_of_ble_eq_true rfl) rfl ?_
      dsimp only [put]
      refine V.goto (tgt := 257) (pc := 356) d_Mo_unlike_356 (by decide) ?_
      rw [show (t : Int).toNat = t by omega, show lf.toNat = S.length by omega]
      refine K _ _ _ ?_ ?_
      · rw [puS_f hb]
        refine ⟨(u1.put (k := 29) (by omega) _).put (k := 32) (by omega) _, ?_, ?_, ?_, fun y hy => ?_, ?_, ?_⟩
        · rw [sset_n (by decide), sset_n (by decide)]; exact u2
        · intro i hi
          rw [sset_n (by decide), sset_n (by decide), sset_n (by decide), sset_n (by decide)]; exact u3 i hi
        · rw [sset_n (by decide), sset_n (by decide)]; exact u4
        · rw [sset_n (by decide), sset_e]
          by_cases e : y = t
          · rw [e, upf_e, if_pos ((puD_bit D t t).mpr (Or.inr rfl))]
          · rw [upf_n e, u5 y hy]
            by_cases e2 : D.testBit y = true
            · rw [if_pos e2, if_pos ((puD_bit D t y).mpr (Or.inl e2))]
            · rw [if_neg e2, if_neg]
              intro z
              rcases (puD_bit D t y).mp z with z | z
              · exact e2 z
              · exact e z.symm
        · rw [sset_e, upf_e]
        · rw [sset_e]; first | exact TD_upd (Nat.le_refl _) u6 | (rw [sset_n (by decide)]; exact TD_upd (Nat.le_refl _) u6)
      · rw [puS_f hb, List.length_cons]; omega
theorem puS_len (D t : Nat) (S : List Nat) : (puS D t S).length ≤ S.length + 1 := by
  cases h : D.testBit t with
  | true => rw [puS_t h]; omega
  | false => rw [puS_f h]; exact Nat.le_refl _
set_option maxRecDepth 20000 in
theorem w3_Mo_unlike (σ : SM) (n : Nat) (hn : 1 ≤ n ∧ n ≤ 5) (al : Int) (hal : al = (EE n : Int)) (hA : EE n ≤ 42 ∧ 1 ≤ EE n) (c f D t : Nat) (R : List Nat) (hR : R.length + 3 < 1700) (ht : t < EE n * EE n) (kk ii jj : Int) (hii : ii = ((t / EE n : Nat) : Int)) (hjj : jj = ((t % EE n : Nat) : Int)) (sz : Nat) (Q : QT) (K : ∀ (τ : SM) (lf : Int) (x : Option MV), US σ n c (puD (puD (puD D (w1 (EE n) (TTn n) t)) (w1 (EE n) (MMn n) t)) (w3 (EE n) t)) (puS (puD (puD D (w1 (EE n) (TTn n) t)) (w1 (EE n) (MMn n) t)) (w3 (EE n) t) (puS (puD D (w1 (EE n) (TTn n) t)) (w1 (EE n) (MMn n) t) (puS D (w1 (EE n) (TTn n) t) R))) τ → lf = ((puS (puD (puD D (w1 (EE n) (TTn n) t)) (w1 (EE n) (MMn n) t)) (w3 (EE n) t) (puS (puD D (w1 (EE n) (TTn n) t)) (w1 (EE n) (MMn n) t) (puS D (w1 (EE n) (TTn n) t) R))).length : Int) → V M_Mo_unlike 3 224 [some (vR 8), some (vI (n : Nat)), some (vI al), some (vI kk), some (vI lf), some (vI ii), some (vI jj), some (vI 3), x] [] (hM τ) sz 0 0 Q) (τ : SM) (lf : Int) (x : Option MV) (hU : US σ n c (puD (puD (puD D (w1 (EE n) (TTn n) t)) (w1 (EE n) (MMn n) t)) (w3 (EE n) t)) (puS (puD (puD D (w1 (EE n) (TTn n) t)) (w1 (EE n) (MMn n) t)) (w3 (EE n) t) (puS (puD D (w1 (EE n) (TTn n) t)) (w1 (EE n) (MMn n) t) (puS D (w1 (EE n) (TTn n) t) R))) τ) (hlf : lf = ((puS (puD (puD D (w1 (EE n) (TTn n) t)) (w1 (EE n) (MMn n) t)) (w3 (EE n) t) (puS (puD D (w1 (EE n) (TTn n) t)) (w1 (EE n) (MMn n) t) (puS D (w1 (EE n) (TTn n) t) R))).length : Int)) :
    V M_Mo_unlike 3 257 [some (vR 8), some (vI (n : Nat)), some (vI al), some (vI kk), some (vI lf), some (vI ii), some (vI jj), some (vI 3), x] [] (hM τ) sz 0 0 Q := by
  obtain ⟨u1, u2, u3, u4, u5, u6⟩ := id hU
  have hz1 : (0 : Int) ≤ ((t / EE n : Nat) : Int) := Int.natCast_nonneg _
  have hz2 : (0 : Int) ≤ ((t % EE n : Nat) : Int) := Int.natCast_nonneg _
  have hdi := div_lt ht
  have hmo : t % EE n < EE n := Nat.mod_lt _ (by omega)
  have hud := (UD hn.1 hn.2).1
  have hd1 := (hud _ hdi).2
  have hd2 := (hud _ hmo).2
  have hsq : EE n * EE n ≤ 1764 := by have := Nat.mul_le_mul hA.1 hA.1; omega
  refine V.iload (pc := 257) d_Mo_unlike_257 rfl ?_
  refine V.iconst (pc := 259) d_Mo_unlike_259 ⟨by decide, by decide⟩ ?_
  refine V.icmp_ge (tgt := 359) (pc := 260) d_Mo_unlike_260 (by decide) (fun c_260 => ?_) (fun c_260 => ?_)
  · skip
    refine V.goto (tgt := 224) (pc := 359) d_Mo_unlike_359 (by decide) ?_
    exact K τ lf x hU hlf
  · skip
    exfalso; omega
set_option maxRecDepth 20000 in
theorem w2_Mo_unlike (σ : SM) (n : Nat) (hn : 1 ≤ n ∧ n ≤ 5) (al : Int) (hal : al = (EE n : Int)) (hA : EE n ≤ 42 ∧ 1 ≤ EE n) (c f D t : Nat) (R : List Nat) (hR : R.length + 3 < 1700) (ht : t < EE n * EE n) (kk ii jj : Int) (hii : ii = ((t / EE n : Nat) : Int)) (hjj : jj = ((t % EE n : Nat) : Int)) (sz : Nat) (Q : QT) (K : ∀ (τ : SM) (lf : Int) (x : Option MV), US σ n c (puD (puD (puD D (w1 (EE n) (TTn n) t)) (w1 (EE n) (MMn n) t)) (w3 (EE n) t)) (puS (puD (puD D (w1 (EE n) (TTn n) t)) (w1 (EE n) (MMn n) t)) (w3 (EE n) t) (puS (puD D (w1 (EE n) (TTn n) t)) (w1 (EE n) (MMn n) t) (puS D (w1 (EE n) (TTn n) t) R))) τ → lf = ((puS (puD (puD D (w1 (EE n) (TTn n) t)) (w1 (EE n) (MMn n) t)) (w3 (EE n) t) (puS (puD D (w1 (EE n) (TTn n) t)) (w1 (EE n) (MMn n) t) (puS D (w1 (EE n) (TTn n) t) R))).length : Int) → V M_Mo_unlike 3 224 [some (vR 8), some (vI (n : Nat)), some (vI al), some (vI kk), some (vI lf), some (vI ii), some (vI jj), some (vI 3), x] [] (hM τ) sz 0 0 Q) (τ : SM) (lf : Int) (x : Option MV) (hU : US σ n c (puD (puD D (w1 (EE n) (TTn n) t)) (w1 (EE n) (MMn n) t)) (puS (puD D (w1 (EE n) (TTn n) t)) (w1 (EE n) (MMn n) t) (puS D (w1 (EE n) (TTn n) t) R)) τ) (hlf : lf = ((puS (puD D (w1 (EE n) (TTn n) t)) (w1 (EE n) (MMn n) t) (puS D (w1 (EE n) (TTn n) t) R)).length : Int)) :
    V M_Mo_unlike 3 257 [some (vR 8), some (vI (n : Nat)), some (vI al), some (vI kk), some (vI lf), some (vI ii), some (vI jj), some (vI 2), x] [] (hM τ) sz 0 0 Q := by
  obtain ⟨u1, u2, u3, u4, u5, u6⟩ := id hU
  have hz1 : (0 : Int) ≤ ((t / EE n : Nat) : Int) := Int.natCast_nonneg _
  have hz2 : (0 : Int) ≤ ((t % EE n : Nat) : Int) := Int.natCast_nonneg _
  have hdi := div_lt ht
  have hmo : t % EE n < EE n := Nat.mod_lt _ (by omega)
  have hud := (UD hn.1 hn.2).1
  have hd1 := (hud _ hdi).2
  have hd2 := (hud _ hmo).2
  have hsq : EE n * EE n ≤ 1764 := by have := Nat.mul_le_mul hA.1 hA.1; omega
  refine V.iload (pc := 257) d_Mo_unlike_257 rfl ?_
  refine V.iconst (pc := 259) d_Mo_unlike_259 ⟨by decide, by decide⟩ ?_
  refine V.icmp_ge (tgt := 359) (pc := 260) d_Mo_unlike_260 (by decide) (fun c_260 => ?_) (fun c_260 => ?_)
  · skip
    exfalso; omega
  · skip
    refine V.iload (pc := 263) d_Mo_unlike_263 rfl ?_
    refine V.if_ne (tgt := 288) (pc := 265) d_Mo_unlike_265 (by decide) (fun c_265 => ?_) (fun c_265 => ?_)
    · skip
      refine V.iload (pc := 288) d_Mo_unlike_288 rfl ?_
      refine V.iconst (pc := 290) d_Mo_unlike_290 ⟨by decide, by decide⟩ ?_
      refine V.icmp_ne (tgt := 314) (pc := 291) d_Mo_unlike_291 (by decide) (fun c_291 => ?_) (fun c_291 => ?_)
      · skip
        refine V.iload_n (pc := 314) 2 d_Mo_unlike_314 rfl rfl ?_
        refine V.iload (pc := 315) d_Mo_unlike_315 rfl ?_
        have hm1 := mb (x := al) (y := jj) (by omega) (by omega)
        refine V.imul (pc := 317) d_Mo_unlike_317 ⟨by omega, by omega⟩ ?_
        refine V.iload (pc := 318) d_Mo_unlike_318 rfl ?_
        
        refine V.iadd (pc := 320) d_Mo_unlike_320 ⟨by omega, by omega⟩ ?_
        have e9 : al * jj + ii = ((w3 (EE n) t : Nat) : Int) := by rw [hal, hjj, hii]; simp only [w3, Int.natCast_add, Int.natCast_mul]
        rw [e9]
        refine ps_Mo_unlike σ n hn al hal hA c (puD (puD D (w1 (EE n) (TTn n) t)) (w1 (EE n) (MMn n) t)) (puS (puD D (w1 (EE n) (TTn n) t)) (w1 (EE n) (MMn n) t) (puS D (w1 (EE n) (TTn n) t) R)) (by have h1 := puS_len D (w1 (EE n) (TTn n) t) R; have h2 := puS_len (puD D (w1 (EE n) (TTn n) t)) (w1 (EE n) (MMn n) t) (puS D (w1 (EE n) (TTn n) t) R); omega) (w3 (EE n) t) (pair_lt hmo hdi) (Nat.lt_of_lt_of_le (pair_lt hmo hdi) hsq) kk _ ii jj 2 (by omega) _ hlf τ hU sz Q (fun τ lf x hU hlf => ?_)
        exact w3_Mo_unlike σ n hn al hal hA c f D t R hR ht kk ii jj hii hjj sz Q K τ lf x hU hlf
      · skip
        exfalso; omega
    · skip
      exfalso; omega
set_option maxRecDepth 20000 in
theorem w1_Mo_unlike (σ : SM) (n : Nat) (hn : 1 ≤ n ∧ n ≤ 5) (al : Int) (hal : al = (EE n : Int)) (hA : EE n ≤ 42 ∧ 1 ≤ EE n) (c f D t : Nat) (R : List Nat) (hR : R.length + 3 < 1700) (ht : t < EE n * EE n) (kk ii jj : Int) (hii : ii = ((t / EE n : Nat) : Int)) (hjj : jj = ((t % EE n : Nat) : Int)) (sz : Nat) (Q : QT) (K : ∀ (τ : SM) (lf : Int) (x : Option MV), US σ n c (puD (puD (puD D (w1 (EE n) (TTn n) t)) (w1 (EE n) (MMn n) t)) (w3 (EE n) t)) (puS (puD (puD D (w1 (EE n) (TTn n) t)) (w1 (EE n) (MMn n) t)) (w3 (EE n) t) (puS (puD D (w1 (EE n) (TTn n) t)) (w1 (EE n) (MMn n) t) (puS D (w1 (EE n) (TTn n) t) R))) τ → lf = ((puS (puD (puD D (w1 (EE n) (TTn n) t)) (w1 (EE n) (MMn n) t)) (w3 (EE n) t) (puS (puD D (w1 (EE n) (TTn n) t)) (w1 (EE n) (MMn n) t) (puS D (w1 (EE n) (TTn n) t) R))).length : Int) → V M_Mo_unlike 3 224 [some (vR 8), some (vI (n : Nat)), some (vI al), some (vI kk), some (vI lf), some (vI ii), some (vI jj), some (vI 3), x] [] (hM τ) sz 0 0 Q) (τ : SM) (lf : Int) (x : Option MV) (hU : US σ n c (puD D (w1 (EE n) (TTn n) t)) (puS D (w1 (EE n) (TTn n) t) R) τ) (hlf : lf = ((puS D (w1 (EE n) (TTn n) t) R).length : Int)) :
    V M_Mo_unlike 3 257 [some (vR 8), some (vI (n : Nat)), some (vI al), some (vI kk), some (vI lf), some (vI ii), some (vI jj), some (vI 1), x] [] (hM τ) sz 0 0 Q := by
  obtain ⟨u1, u2, u3, u4, u5, u6⟩ := id hU
  have hz1 : (0 : Int) ≤ ((t / EE n : Nat) : Int) := Int.natCast_nonneg _
  have hz2 : (0 : Int) ≤ ((t % EE n : Nat) : Int) := Int.natCast_nonneg _
  have hdi := div_lt ht
  have hmo : t % EE n < EE n := Nat.mod_lt _ (by omega)
  have hud := (UD hn.1 hn.2).1
  have hd1 := (hud _ hdi).2
  have hd2 := (hud _ hmo).2
  have hsq : EE n * EE n ≤ 1764 := by have := Nat.mul_le_mul hA.1 hA.1; omega
  refine V.iload (pc := 257) d_Mo_unlike_257 rfl ?_
  refine V.iconst (pc := 259) d_Mo_unlike_259 ⟨by decide, by decide⟩ ?_
  refine V.icmp_ge (tgt := 359) (pc := 260) d_Mo_unlike_260 (by decide) (fun c_260 => ?_) (fun c_260 => ?_)
  · skip
    exfalso; omega
  · skip
    refine V.iload (pc := 263) d_Mo_unlike_263 rfl ?_
    refine V.if_ne (tgt := 288) (pc := 265) d_Mo_unlike_265 (by decide) (fun c_265 => ?_) (fun c_265 => ?_)
    · skip
      refine V.iload (pc := 288) d_Mo_unlike_288 rfl ?_
      refine V.iconst (pc := 290) d_Mo_unlike_290 ⟨by decide, by decide⟩ ?_
      refine V.icmp_ne (tgt := 314) (pc := 291) d_Mo_unlike_291 (by decide) (fun c_291 => ?_) (fun c_291 => ?_)
      · skip
        exfalso; omega
      · skip
        refine V.iload_n (pc := 294) 2 d_Mo_unlike_294 rfl rfl ?_
        refine V.aload_n (pc := 295) 0 d_Mo_unlike_295 rfl rfl ?_
        refine V.getf (pc := 296) 31 cl_Mo fl_Mo_86_Mo d_Mo_unlike_296 (hM_o _) (Nat.le_of_ble_eq_true rfl) rfl ?_
        refine V.iload (pc := 299) d_Mo_unlike_299 rfl ?_
        refine V.iald (pc := 301) d_Mo_unlike_301 (ar_mirrored _).1 (by omega) (by omega) ?_
        try simp (disch := omega) only [sset_n, sset_e]
        rw [show ii.toNat = t / EE n by omega, (u3 _ hdi).2]
        have hm1 := mb (x := al) (y := (d6 (MMn n) (t / EE n) : Int)) (by omega) (by omega)
        refine V.imul (pc := 302) d_Mo_unlike_302 ⟨by omega, by omega⟩ ?_
        refine V.aload_n (pc := 303) 0 d_Mo_unlike_303 rfl rfl ?_
        refine V.getf (pc := 304) 31 cl_Mo fl_Mo_86_Mo d_Mo_unlike_304 (hM_o _) (Nat.le_of_ble_eq_true rfl) rfl ?_
        refine V.iload (pc := 307) d_Mo_unlike_307 rfl ?_
        refine V.iald (pc := 309) d_Mo_unlike_309 (ar_mirrored _).1 (by omega) (by omega) ?_
        try simp (disch := omega) only [sset_n, sset_e]
        rw [show jj.toNat = t % EE n by omega, (u3 _ hmo).2]
        refine V.iadd (pc := 310) d_Mo_unlike_310 ⟨by omega, by omega⟩ ?_
        refine V.goto (tgt := 321) (pc := 311) d_Mo_unlike_311 (by decide) ?_
        have e9 : al * (d6 (MMn n) (t / EE n) : Int) + (d6 (MMn n) (t % EE n) : Int) = ((w1 (EE n) (MMn n) t : Nat) : Int) := by rw [hal]; simp only [w1, Int.natCast_add, Int.natCast_mul]
        rw [e9]
        refine ps_Mo_unlike σ n hn al hal hA c (puD D (w1 (EE n) (TTn n) t)) (puS D (w1 (EE n) (TTn n) t) R) (by have h1 := puS_len D (w1 (EE n) (TTn n) t) R; have h2 := puS_len (puD D (w1 (EE n) (TTn n) t)) (w1 (EE n) (MMn n) t) (puS D (w1 (EE n) (TTn n) t) R); omega) (w1 (EE n) (MMn n) t) (pair_lt hd1.2.1 hd2.2.1) (Nat.lt_of_lt_of_le (pair_lt hd1.2.1 hd2.2.1) hsq) kk _ ii jj 1 (by omega) _ hlf τ hU sz Q (fun τ lf x hU hlf => ?_)
        exact w2_Mo_unlike σ n hn al hal hA c f D t R hR ht kk ii jj hii hjj sz Q K τ lf x hU hlf
    · skip
      exfalso; omega
set_option maxRecDepth 20000 in
theorem w0_Mo_unlike (σ : SM) (n : Nat) (hn : 1 ≤ n ∧ n ≤ 5) (al : Int) (hal : al = (EE n : Int)) (hA : EE n ≤ 42 ∧ 1 ≤ EE n) (c f D t : Nat) (R : List Nat) (hR : R.length + 3 < 1700) (ht : t < EE n * EE n) (kk ii jj : Int) (hii : ii = ((t / EE n : Nat) : Int)) (hjj : jj = ((t % EE n : Nat) : Int)) (sz : Nat) (Q : QT) (K : ∀ (τ : SM) (lf : Int) (x : Option MV), US σ n c (puD (puD (puD D (w1 (EE n) (TTn n) t)) (w1 (EE n) (MMn n) t)) (w3 (EE n) t)) (puS (puD (puD D (w1 (EE n) (TTn n) t)) (w1 (EE n) (MMn n) t)) (w3 (EE n) t) (puS (puD D (w1 (EE n) (TTn n) t)) (w1 (EE n) (MMn n) t) (puS D (w1 (EE n) (TTn n) t) R))) τ → lf = ((puS (puD (puD D (w1 (EE n) (TTn n) t)) (w1 (EE n) (MMn n) t)) (w3 (EE n) t) (puS (puD D (w1 (EE n) (TTn n) t)) (w1 (EE n) (MMn n) t) (puS D (w1 (EE n) (TTn n) t) R))).length : Int) → V M_Mo_unlike 3 224 [some (vR 8), some (vI (n : Nat)), some (vI al), some (vI kk), some (vI lf), some (vI ii), some (vI jj), some (vI 3), x] [] (hM τ) sz 0 0 Q) (τ : SM) (lf : Int) (x : Option MV) (hU : US σ n c D R τ) (hlf : lf = (R.length : Int)) :
    V M_Mo_unlike 3 257 [some (vR 8), some (vI (n : Nat)), some (vI al), some (vI kk), some (vI lf), some (vI ii), some (vI jj), some (vI 0), x] [] (hM τ) sz 0 0 Q := by
  obtain ⟨u1, u2, u3, u4, u5, u6⟩ := id hU
  have hz1 : (0 : Int) ≤ ((t / EE n : Nat) : Int) := Int.natCast_nonneg _
  have hz2 : (0 : Int) ≤ ((t % EE n : Nat) : Int) := Int.natCast_nonneg _
  have hdi := div_lt ht
  have hmo : t % EE n < EE n := Nat.mod_lt _ (by omega)
  have hud := (UD hn.1 hn.2).1
  have hd1 := (hud _ hdi).2
  have hd2 := (hud _ hmo).2
  have hsq : EE n * EE n ≤ 1764 := by have := Nat.mul_le_mul hA.1 hA.1; omega
  refine V.iload (pc := 257) d_Mo_unlike_257 rfl ?_
  refine V.iconst (pc := 259) d_Mo_unlike_259 ⟨by decide, by decide⟩ ?_
  refine V.icmp_ge (tgt := 359) (pc := 260) d_Mo_unlike_260 (by decide) (fun c_260 => ?_) (fun c_260 => ?_)
  · skip
    exfalso; omega
  · skip
    refine V.iload (pc := 263) d_Mo_unlike_263 rfl ?_
    refine V.if_ne (tgt := 288) (pc := 265) d_Mo_unlike_265 (by decide) (fun c_265 => ?_) (fun c_265 => ?_)
    · skip
      exfalso; omega
    · skip
      refine V.iload_n (pc := 268) 2 d_Mo_unlike_268 rfl rfl ?_
      refine V.aload_n (pc := 269) 0 d_Mo_unlike_269 rfl rfl ?_
      refine V.getf (pc := 270) 30 cl_Mo fl_Mo_83_Mo d_Mo_unlike_270 (hM_o _) (Nat.le_of_ble_eq_true rfl) rfl ?_
      refine V.iload (pc := 273) d_Mo_unlike_273 rfl ?_
      refine V.iald (pc := 275) d_Mo_unlike_275 (ar_turned _).1 (by omega) (by omega) ?_
      try simp (disch := omega) only [sset_n, sset_e]
      rw [show ii.toNat = t / EE n by omega, (u3 _ hdi).1]
      have hm1 := mb (x := al) (y := (d6 (TTn n) (t / EE n) : Int)) (by omega) (by omega)
      refine V.imul (pc := 276) d_Mo_unlike_276 ⟨by omega, by omega⟩ ?_
      refine V.aload_n (pc := 277) 0 d_Mo_unlike_277 rfl rfl ?_
      refine V.getf (pc := 278) 30 cl_Mo fl_Mo_83_Mo d_Mo_unlike_278 (hM_o _) (Nat.le_of_ble_eq_true rfl) rfl ?_
      refine V.iload (pc := 281) d_Mo_unlike_281 rfl ?_
      refine V.iald (pc := 283) d_Mo_unlike_283 (ar_turned _).1 (by omega) (by omega) ?_
      try simp (disch := omega) only [sset_n, sset_e]
      rw [show jj.toNat = t % EE n by omega, (u3 _ hmo).1]
      refine V.iadd (pc := 284) d_Mo_unlike_284 ⟨by omega, by omega⟩ ?_
      refine V.goto (tgt := 321) (pc := 285) d_Mo_unlike_285 (by decide) ?_
      have e9 : al * (d6 (TTn n) (t / EE n) : Int) + (d6 (TTn n) (t % EE n) : Int) = ((w1 (EE n) (TTn n) t : Nat) : Int) := by rw [hal]; simp only [w1, Int.natCast_add, Int.natCast_mul]
      rw [e9]
      refine ps_Mo_unlike σ n hn al hal hA c D R (by omega) (w1 (EE n) (TTn n) t) (pair_lt hd1.1 hd2.1) (Nat.lt_of_lt_of_le (pair_lt hd1.1 hd2.1) hsq) kk _ ii jj 0 (by omega) _ hlf τ hU sz Q (fun τ lf x hU hlf => ?_)
      exact w1_Mo_unlike σ n hn al hal hA c f D t R hR ht kk ii jj hii hjj sz Q K τ lf x hU hlf
