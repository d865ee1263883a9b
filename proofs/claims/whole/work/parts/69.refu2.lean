/-! THE REFERENCE: unlike, printed by wip/whole/gen/refu2.py -/
theorem puS_mem {D t : Nat} {S : List Nat} {B : Nat} (h : ∀ x ∈ S, x < B) (ht : t < B) : ∀ x ∈ puS D t S, x < B := by
  cases hb : D.testBit t with
  | true => rw [puS_t hb]; exact h
  | false =>
    rw [puS_f hb]
    intro x hx
    rcases List.mem_cons.mp hx with rfl | hx
    · exact ht
    · exact h x hx
set_option maxRecDepth 20000 in
theorem lp_Mo_unl1 (σ : SM) (n : Nat) (hn : 1 ≤ n ∧ n ≤ 5) (al : Int) (hal : al = (EE n : Int)) (hA : EE n ≤ 42 ∧ 1 ≤ EE n) (c D2 : Nat) (kk : Int) (sz : Nat) (Q : QT) : ∀ (f D : Nat) (S : List Nat) {lf : Int} {x5 x6 x7 x8 : Option MV} {τ : SM}, flK (EE n) (TTn n) (MMn n) f D S = some D2 → (∀ t ∈ S, t < EE n * EE n) → S.length + 2 * f ≤ 1690 → lf = (S.length : Int) → US σ n c D S τ → (K : ∀ (τ : SM) (x4 x5 x6 x7 x8 : Option MV), US σ n c D2 [] τ → V M_Mo_unlike 3 362 [some (vR 8), some (vI (n : Nat)), some (vI al), some (vI kk), x4, x5, x6, x7, x8] [] (hM τ) sz 0 0 Q) →
    V M_Mo_unlike 3 224 [some (vR 8), some (vI (n : Nat)), some (vI al), some (vI kk), some (vI lf), x5, x6, x7, x8] [] (hM τ) sz 0 0 Q := by
  intro f
  induction f with
  | zero =>
    intro D S lf x5 x6 x7 x8 τ hfl
    cases hfl
  | succ f ih =>
    intro D S lf x5 x6 x7 x8 τ hfl hm hlen hlf hU K
    obtain ⟨u1, u2, u3, u4, u5, u6⟩ := id hU
    cases S with
    | nil =>
      have e0 : D = D2 := Option.some.inj hfl
      subst e0
      have hl0 : lf = 0 := hlf
      refine V.iload (pc := 224) d_Mo_unlike_224 rfl ?_
      refine V.if_le (tgt := 362) (pc := 226) d_Mo_unlike_226 (by decide) (fun c_226 => ?_) (fun c_226 => ?_)
      · skip
        exact K τ _ _ _ _ _ hU
      · skip
        exfalso; omega
    | cons t R =>
      rw [flK_c] at hfl
      rw [List.length_cons] at hlen hlf
      have ht := hm t List.mem_cons_self
      have hsq : EE n * EE n ≤ 1764 := by have := Nat.mul_le_mul hA.1 hA.1; omega
      refine V.iload (pc := 224) d_Mo_unlike_224 rfl ?_
      refine V.if_le (tgt := 362) (pc := 226) d_Mo_unlike_226 (by decide) (fun c_226 => ?_) (fun c_226 => ?_)
      · skip
        exfalso; omega
      · skip
        refine V.iinc (pc := 229) d_Mo_unlike_229 rfl ⟨by omega, by omega⟩ (Nat.le_of_ble_eq_true rfl) rfl ?_
        dsimp only [put]
        refine V.aload_n (pc := 232) 0 d_Mo_unlike_232 rfl rfl ?_
        refine V.getf (pc := 233) 32 cl_Mo fl_Mo_89_Mo d_Mo_unlike_233 (hM_o _) (Nat.le_of_ble_eq_true rfl) rfl ?_
        refine V.iload (pc := 236) d_Mo_unlike_236 rfl ?_
        refine V.iald (pc := 238) d_Mo_unlike_238 (ar_toDo _).1 (by omega) (by omega) ?_
        try simp (disch := omega) only [sset_n, sset_e]
        rw [show (lf + -1).toNat = R.length by omega, u6.1]
        refine V.iload_n (pc := 239) 2 d_Mo_unlike_239 rfl rfl ?_
        refine V.idiv (pc := 240) d_Mo_unlike_240 (by omega) (by omega) ?_
        rw [show (t : Int) / al = ((t / EE n : Nat) : Int) by omega]
        refine V.istore (pc := 241) d_Mo_unlike_241 (Nat.le_of_ble_eq_true rfl) rfl ?_
        dsimp only [put]
        refine V.aload_n (pc := 243) 0 d_Mo_unlike_243 rfl rfl ?_
        refine V.getf (pc := 244) 32 cl_Mo fl_Mo_89_Mo d_Mo_unlike_244 (hM_o _) (Nat.le_of_ble_eq_true rfl) rfl ?_
        refine V.iload (pc := 247) d_Mo_unlike_247 rfl ?_
        refine V.iald (pc := 249) d_Mo_unlike_249 (ar_toDo _).1 (by omega) (by omega) ?_
        try simp (disch := omega) only [sset_n, sset_e]
        rw [show (lf + -1).toNat = R.length by omega, u6.1]
        refine V.iload_n (pc := 250) 2 d_Mo_unlike_250 rfl rfl ?_
        refine V.irem (pc := 251) d_Mo_unlike_251 (by omega) (by omega) ?_
        rw [show (t : Int) % al = ((t % EE n : Nat) : Int) by omega]
        refine V.istore (pc := 252) d_Mo_unlike_252 (Nat.le_of_ble_eq_true rfl) rfl ?_
        dsimp only [put]
        refine V.iconst (pc := 254) d_Mo_unlike_254 ⟨by decide, by decide⟩ ?_
        refine V.istore (pc := 255) d_Mo_unlike_255 (Nat.le_of_ble_eq_true rfl) rfl ?_
        dsimp only [put]
        have h1 := puS_len D (w1 (EE n) (TTn n) t) R
        have h2 := puS_len (puD D (w1 (EE n) (TTn n) t)) (w1 (EE n) (MMn n) t) (puS D (w1 (EE n) (TTn n) t) R)
        have h3 := puS_len (puD (puD D (w1 (EE n) (TTn n) t)) (w1 (EE n) (MMn n) t)) (w3 (EE n) t) (puS (puD D (w1 (EE n) (TTn n) t)) (w1 (EE n) (MMn n) t) (puS D (w1 (EE n) (TTn n) t) R))
        refine w0_Mo_unlike σ n hn al hal hA c f D t R (by omega) ht kk _ _ rfl rfl sz Q (fun τ lf x hU hlf => ?_) τ _ _ ⟨u1, u2, u3, u4, u5, u6.2⟩ (by omega)
        refine ih _ _ hfl ?_ (by omega) hlf hU K
        have hdi := div_lt ht
        have hmo : t % EE n < EE n := Nat.mod_lt _ (by omega)
        have hud := (UD hn.1 hn.2).1
        have hd1 := (hud _ hdi).2
        have hd2 := (hud _ hmo).2
        exact puS_mem (puS_mem (puS_mem (fun x hx => hm x (List.mem_cons_of_mem _ hx)) (pair_lt hd1.1 hd2.1)) (pair_lt hd1.2.1 hd2.2.1)) (pair_lt hmo hdi)
set_option maxRecDepth 20000 in
theorem lp_Mo_unl2 (σ : SM) (n : Nat) (hn : 1 ≤ n ∧ n ≤ 5) (al : Int) (hal : al = (EE n : Int)) (hA : EE n ≤ 42 ∧ 1 ≤ EE n) (r : Nat) (hr : (r : Int) = unlT n) (sz : Nat) : ∀ (m k D c : Nat) (kk : Int) {x4 x5 x6 x7 x8 : Option MV} {τ : SM}, unK n (EE n) (PPn n) (TTn n) (MMn n) m k D c = some r → k + m = EE n * EE n → kk = k → US σ n c D [] τ → c ≤ k →
    V M_Mo_unlike 3 152 [some (vR 8), some (vI (n : Nat)), some (vI al), some (vI kk), x4, x5, x6, x7, x8] [] (hM τ) sz 0 0 (QU σ n sz) := by
  intro m
  induction m with
  | zero =>
    intro k D c kk x4 x5 x6 x7 x8 τ hun hkm hkk hU hck
    obtain ⟨u1, u2, u3, u4, u5, u6⟩ := id hU
    refine V.iload_n (pc := 152) 3 d_Mo_unlike_152 rfl rfl ?_
    refine V.iload_n (pc := 153) 2 d_Mo_unlike_153 rfl rfl ?_
    refine V.iload_n (pc := 154) 2 d_Mo_unlike_154 rfl rfl ?_
    refine V.imul (pc := 155) d_Mo_unlike_155 ⟨by omega, by omega⟩ ?_
    refine V.icmp_ge (tgt := 368) (pc := 156) d_Mo_unlike_156 (by decide) (fun c_156 => ?_) (fun c_156 => ?_)
    · skip
      refine V.aload_n (pc := 368) 0 d_Mo_unlike_368 rfl rfl ?_
      refine V.getf (pc := 369) 26 cl_Mo fl_Mo_71_Mo d_Mo_unlike_369 (hM_o _) (Nat.le_of_ble_eq_true rfl) rfl ?_
      refine V.iload_n (pc := 372) 1 d_Mo_unlike_372 rfl rfl ?_
      refine V.iald (pc := 373) d_Mo_unlike_373 (ar_unlikes _).1 (by omega) (by omega) ?_
      try simp (disch := omega) only [sset_n, sset_e]
      refine V.ret (pc := 374) (r := some (vI _)) d_Mo_unlike_374 (Or.inl rfl) rfl ?_
      have e0 : c = r := Option.some.inj hun
      have e1 : τ 26 n = unlT n := by rw [u4, upf_e, e0]; exact hr
      refine ⟨rfl, by rw [← e1]; rfl, τ, rfl, u1, ?_⟩
      rw [u4, e0, hr]
    · skip
      exfalso; omega
  | succ m ih =>
    intro k D c kk x4 x5 x6 x7 x8 τ hun hkm hkk hU hck
    obtain ⟨u1, u2, u3, u4, u5, u6⟩ := id hU
    rw [show kk + 1 = ((k + 1 : Nat) : Int) by omega]
    refine ih (k + 1) D c _ hun (by omega) (by omega) hU (by omega)
