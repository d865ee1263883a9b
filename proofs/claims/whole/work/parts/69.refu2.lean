/-! THE REFERENCE: unlike, printed by wip/whole/gen/refu2.py -/
theorem puS_mem {D t : Nat} {S : List Nat} {B : Nat} (h : ∀ x ∈ S, x < B) (ht : t < B) : ∀ x ∈ puS D t S, x < B := by
  cases hb : D.testBit t with
  | true => rw [puS_t hb]; exact h
  | false =>
    rw [puS_f hb]
    intro x hx
    rcases List.mem_cons.mp hx with rfl | hx
    · exact ht
    · exact h x hx
set_option maxRecDepth 20000 in
theorem lp_Mo_unl1 (σ : SM) (n : Nat) (hn : 1 ≤ n ∧ n ≤ 5) (al : Int) (hal : al = (EE n : Int)) (hA : EE n ≤ 42 ∧ 1 ≤ EE n) (c D2 : Nat) (kk : Int) (sz : Nat) (Q : QT) : ∀ (f D : Nat) (S : List Nat) {lf : Int} {x5 x6 x7 x8 : Option MV} {τ : SM}, flK (EE n) (TTn n) (MMn n) f D S = some D2 → (∀ t ∈ S, t < EE n * EE n) → S.length + 2 * f ≤ 1690 → lf = (S.length : Int) → US σ n c D S τ → (K : ∀ (τ : SM) (x4 x5 x6 x7 x8 : Option MV), US σ n c D2 [] τ → V M_Mo_unlike 3 362 [some (vR 8), some (vI (n : Nat)), some (vI al), some (vI kk), x4, x5, x6, x7, x8] [] (hM τ) sz 0 0 Q) →
    V M_Mo_unlike 3 224 [some (vR 8), some (vI (n : Nat)), some (vI al), some (vI kk), some (vI lf), x5, x6, x7, x8] [] (hM τ) sz 0 0 Q := by
  intro f
  induction f with
  | zero =>
    intro D S lf x5 x6 x7 x8 τ hfl
    cases hfl
  | succ f ih =>
    intro D S lf x5 x6 x7 x8 τ hfl hm hlen hlf hU K
    obtain ⟨u1, u2, u3, u4, u5, u6⟩ := id hU
    cases S with
    | nil =>
      have e0 : D = D2 := Option.some.inj hfl
      subst e0
      have hl0 : lf = 0 := hlf
      refine V.iload (pc := 224) d_Mo_unlike_224 rfl ?_
      refine V.if_le (tgt := 362) (pc := 226) d_Mo_unlike_226 (by decide) (fun c_226 => ?_) (fun c_226 => ?_)
      · skip
        exact K τ _ _ _ _ _ hU
      · skip
        exfalso; omega
    | cons t R =>
      rw [flK_c] at hfl
      rw [List.length_cons] at hlen hlf
      have ht := hm t List.mem_cons_self
      have hsq : EE n * EE n ≤ 1764 := by have := Nat.mul_le_mul hA.1 hA.1; omega
      refine V.iload (pc := 224) d_Mo_unlike_224 rfl ?_
      refine V.if_le (tgt := 362) (pc := 226) d_Mo_unlike_226 (by decide) (fun c_226 => ?_) (fun c_226 => ?_)
      · skip
        exfalso; omega
      · skip
        refine V.iinc (pc := 229) d_Mo_unlike_229 rfl ⟨by omega, by omega⟩ (Nat.le_of_ble_eq_true rfl) rfl ?_
        dsimp only [put]
        refine V.aload_n (pc := 232) 0 d_Mo_unlike_232 rfl rfl ?_
        refine V.getf (pc := 233) 32 cl_Mo fl_Mo_89_Mo d_Mo_unlike_233 (hM_o _) (Nat.le_of_ble_eq_true rfl) rfl ?_
        refine V.iload (pc := 236) d_Mo_unlike_236 rfl ?_
        refine V.iald (pc := 238) d_Mo_unlike_238 (ar_toDo _).1 (by omega) (by omega) ?_
        try simp (disch := omega) only [sset_n, sset_e]
        rw [show (lf + -1).toNat = R.length by omega, u6.1]
        refine V.iload_n (pc := 239) 2 d_Mo_unlike_239 rfl rfl ?_
        refine V.idiv (pc := 240) d_Mo_unlike_240 (by omega) (by omega) ?_
        rw [show (t : Int) / al = ((t / EE n : Nat) : Int) by rw [hal]; omega]
        refine V.istore (pc := 241) d_Mo_unlike_241 (Nat.le_of_ble_eq_true rfl) rfl ?_
        dsimp only [put]
        refine V.aload_n (pc := 243) 0 d_Mo_unlike_243 rfl rfl ?_
        refine V.getf (pc := 244) 32 cl_Mo fl_Mo_89_Mo d_Mo_unlike_244 (hM_o _) (Nat.le_of_ble_eq_true rfl) rfl ?_
        refine V.iload (pc := 247) d_Mo_unlike_247 rfl ?_
        refine V.iald (pc := 249) d_Mo_unlike_249 (ar_toDo _).1 (by omega) (by omega) ?_
        try simp (disch := omega) only [sset_n, sset_e]
        rw [show (lf + -1).toNat = R.length by omega, u6.1]
        refine V.iload_n (pc := 250) 2 d_Mo_unlike_250 rfl rfl ?_
        refine V.irem (pc := 251) d_Mo_unlike_251 (by omega) (by omega) ?_
        rw [show (t : Int) % al = ((t % EE n : Nat) : Int) by rw [hal]; omega]
        refine V.istore (pc := 252) d_Mo_unlike_252 (Nat.le_of_ble_eq_true rfl) rfl ?_
        dsimp only [put]
        refine V.iconst (pc := 254) d_Mo_unlike_254 ⟨by decide, by decide⟩ ?_
        refine V.istore (pc := 255) d_Mo_unlike_255 (Nat.le_of_ble_eq_true rfl) rfl ?_
        dsimp only [put]
        have h1 := puS_len D (w1 (EE n) (TTn n) t) R
        have h2 := puS_len (puD D (w1 (EE n) (TTn n) t)) (w1 (EE n) (MMn n) t) (puS D (w1 (EE n) (TTn n) t) R)
        have h3 := puS_len (puD (puD D (w1 (EE n) (TTn n) t)) (w1 (EE n) (MMn n) t)) (w3 (EE n) t) (puS (puD D (w1 (EE n) (TTn n) t)) (w1 (EE n) (MMn n) t) (puS D (w1 (EE n) (TTn n) t) R))
        refine w0_Mo_unlike σ n hn al hal hA c f D t R (by omega) ht kk _ _ rfl rfl sz Q (fun τ lf x hU hlf => ?_) τ _ _ ⟨u1, u2, u3, u4, u5, u6.2⟩ (by omega)
        refine ih _ _ hfl ?_ (by omega) hlf hU K
        have hdi := div_lt ht
        have hmo : t % EE n < EE n := Nat.mod_lt _ (by omega)
        have hud := (UD hn.1 hn.2).1
        have hd1 := (hud _ hdi).2
        have hd2 := (hud _ hmo).2
        exact puS_mem (puS_mem (puS_mem (fun x hx => hm x (List.mem_cons_of_mem _ hx)) (pair_lt hd1.1 hd2.1)) (pair_lt hd1.2.1 hd2.2.1)) (pair_lt hmo hdi)
set_option maxRecDepth 20000 in
theorem lp_Mo_unl2 (σ : SM) (n : Nat) (hn : 1 ≤ n ∧ n ≤ 5) (al : Int) (hal : al = (EE n : Int)) (hA : EE n ≤ 42 ∧ 1 ≤ EE n) (r : Nat) (hr : (r : Int) = unlT n) (sz : Nat) : ∀ (m k D c : Nat) (kk : Int) {x4 x5 x6 x7 x8 : Option MV} {τ : SM}, unK n (EE n) (PPn n) (TTn n) (MMn n) m k D c = some r → k + m = EE n * EE n → kk = k → US σ n c D [] τ → c ≤ k →
    V M_Mo_unlike 3 152 [some (vR 8), some (vI (n : Nat)), some (vI al), some (vI kk), x4, x5, x6, x7, x8] [] (hM τ) sz 0 0 (QU σ n sz) := by
  intro m
  induction m with
  | zero =>
    intro k D c kk x4 x5 x6 x7 x8 τ hun hkm hkk hU hck
    obtain ⟨u1, u2, u3, u4, u5, u6⟩ := id hU
    refine V.iload_n (pc := 152) 3 d_Mo_unlike_152 rfl rfl ?_
    refine V.iload_n (pc := 153) 2 d_Mo_unlike_153 rfl rfl ?_
    refine V.iload_n (pc := 154) 2 d_Mo_unlike_154 rfl rfl ?_
    have hmm := mb (x := al) (y := al) (by omega) (by omega)
    have hsq2 : al * al = ((EE n * EE n : Nat) : Int) := by rw [hal, Int.natCast_mul]
    have hsq : EE n * EE n ≤ 1764 := by have := Nat.mul_le_mul hA.1 hA.1; omega
    refine V.imul (pc := 155) d_Mo_unlike_155 ⟨by omega, by omega⟩ ?_
    refine V.icmp_ge (tgt := 368) (pc := 156) d_Mo_unlike_156 (by decide) (fun c_156 => ?_) (fun c_156 => ?_)
    · skip
      refine V.aload_n (pc := 368) 0 d_Mo_unlike_368 rfl rfl ?_
      refine V.getf (pc := 369) 26 cl_Mo fl_Mo_71_Mo d_Mo_unlike_369 (hM_o _) (Nat.le_of_ble_eq_true rfl) rfl ?_
      refine V.iload_n (pc := 372) 1 d_Mo_unlike_372 rfl rfl ?_
      refine V.iald (pc := 373) d_Mo_unlike_373 (ar_unlikes _).1 (by omega) (by omega) ?_
      try simp (disch := omega) only [sset_n, sset_e]
      refine V.ret (pc := 374) (r := some (vI _)) d_Mo_unlike_374 (Or.inl rfl) rfl ?_
      have e0 : c = r := Option.some.inj hun
      have e1 : τ 26 n = unlT n := by rw [u4, upf_e, e0]; exact hr
      refine ⟨rfl, by rw [← e1]; rfl, τ, rfl, u1, ?_⟩
      rw [u4, e0, hr]
    · skip
      exfalso; omega
  | succ m ih =>
    intro k D c kk x4 x5 x6 x7 x8 τ hun hkm hkk hU hck
    obtain ⟨u1, u2, u3, u4, u5, u6⟩ := id hU
    refine V.iload_n (pc := 152) 3 d_Mo_unlike_152 rfl rfl ?_
    refine V.iload_n (pc := 153) 2 d_Mo_unlike_153 rfl rfl ?_
    refine V.iload_n (pc := 154) 2 d_Mo_unlike_154 rfl rfl ?_
    have hmm := mb (x := al) (y := al) (by omega) (by omega)
    have hsq2 : al * al = ((EE n * EE n : Nat) : Int) := by rw [hal, Int.natCast_mul]
    have hsq : EE n * EE n ≤ 1764 := by have := Nat.mul_le_mul hA.1 hA.1; omega
    refine V.imul (pc := 155) d_Mo_unlike_155 ⟨by omega, by omega⟩ ?_
    refine V.icmp_ge (tgt := 368) (pc := 156) d_Mo_unlike_156 (by decide) (fun c_156 => ?_) (fun c_156 => ?_)
    · skip
      exfalso; omega
    · skip
      rcases unK_inv hun with ⟨hb, hun⟩ | ⟨hb, hkl, hun⟩ | ⟨hb, hkl, D2, hfl, hun⟩
      · skip
        refine V.aload_n (pc := 159) 0 d_Mo_unlike_159 rfl rfl ?_
        refine V.getf (pc := 160) 29 cl_Mo fl_Mo_80_Mo d_Mo_unlike_160 (hM_o _) (Nat.le_of_ble_eq_true rfl) rfl ?_
        refine V.iload_n (pc := 163) 3 d_Mo_unlike_163 rfl rfl ?_
        refine V.zald (pc := 164) d_Mo_unlike_164 (ar_isDone _).1 (by omega) (by omega) ?_
        try simp (disch := omega) only [sset_n, sset_e]
        rw [show kk.toNat = k by omega, u5 k (by omega)]
        refine V.if_ne (tgt := 362) (pc := 165) d_Mo_unlike_165 (by decide) (fun c_165 => ?_) (fun c_165 => ?_)
        · skip
          refine V.iinc (pc := 362) d_Mo_unlike_362 rfl ⟨by omega, by omega⟩ (Nat.le_of_ble_eq_true rfl) rfl ?_
          dsimp only [put]
          refine V.goto (tgt := 152) (pc := 365) d_Mo_unlike_365 (by decide) ?_
          refine ih (k + 1) D c _ hun (by omega) (by omega) hU (by omega)
        · skip
          rw [if_pos hb] at c_165; exact absurd c_165 (by decide)
      · skip
        refine V.aload_n (pc := 159) 0 d_Mo_unlike_159 rfl rfl ?_
        refine V.getf (pc := 160) 29 cl_Mo fl_Mo_80_Mo d_Mo_unlike_160 (hM_o _) (Nat.le_of_ble_eq_true rfl) rfl ?_
        refine V.iload_n (pc := 163) 3 d_Mo_unlike_163 rfl rfl ?_
        refine V.zald (pc := 164) d_Mo_unlike_164 (ar_isDone _).1 (by omega) (by omega) ?_
        try simp (disch := omega) only [sset_n, sset_e]
        rw [show kk.toNat = k by omega, u5 k (by omega)]
        refine V.if_ne (tgt := 362) (pc := 165) d_Mo_unlike_165 (by decide) (fun c_165 => ?_) (fun c_165 => ?_)
        · skip
          rw [if_neg (by rw [hb]; decide)] at c_165; exact absurd rfl c_165
        · skip
          have hz1 : (0 : Int) ≤ ((k / EE n : Nat) : Int) := Int.natCast_nonneg _
          have hz2 : (0 : Int) ≤ ((k % EE n : Nat) : Int) := Int.natCast_nonneg _
          have hdi : k / EE n < EE n := div_lt (by omega)
          have hmo : k % EE n < EE n := Nat.mod_lt _ (by omega)
          have hEi := EE_int n
          refine V.aload_n (pc := 168) 0 d_Mo_unlike_168 rfl rfl ?_
          refine V.aload_n (pc := 169) 0 d_Mo_unlike_169 rfl rfl ?_
          refine V.getf (pc := 170) 22 cl_Mo fl_Mo_62_Mo d_Mo_unlike_170 (hM_o _) (Nat.le_of_ble_eq_true rfl) rfl ?_
          refine V.bipush (pc := 173) d_Mo_unlike_173 ⟨by decide, by decide⟩ ?_
          refine V.iload_n (pc := 175) 3 d_Mo_unlike_175 rfl rfl ?_
          refine V.iload_n (pc := 176) 2 d_Mo_unlike_176 rfl rfl ?_
          refine V.idiv (pc := 177) d_Mo_unlike_177 (by omega) (by omega) ?_
          rw [show kk / al = ((k / EE n : Nat) : Int) by rw [hal, hkk]; omega]
          refine V.imul (pc := 178) d_Mo_unlike_178 ⟨by omega, by omega⟩ ?_
          refine V.aload_n (pc := 179) 0 d_Mo_unlike_179 rfl rfl ?_
          refine V.getf (pc := 180) 22 cl_Mo fl_Mo_62_Mo d_Mo_unlike_180 (hM_o _) (Nat.le_of_ble_eq_true rfl) rfl ?_
          refine V.bipush (pc := 183) d_Mo_unlike_183 ⟨by decide, by decide⟩ ?_
          refine V.iload_n (pc := 185) 3 d_Mo_unlike_185 rfl rfl ?_
          refine V.iload_n (pc := 186) 2 d_Mo_unlike_186 rfl rfl ?_
          refine V.irem (pc := 187) d_Mo_unlike_187 (by omega) (by omega) ?_
          rw [show kk % al = ((k % EE n : Nat) : Int) by rw [hal, hkk]; omega]
          refine V.imul (pc := 188) d_Mo_unlike_188 ⟨by omega, by omega⟩ ?_
          refine V.iload_n (pc := 189) 1 d_Mo_unlike_189 rfl rfl ?_
          have e14 : (vI (14 * ((k / EE n : Nat) : Int)) : MV) = vI ((14 * (k / EE n) : Nat) : Int) := by rw [Int.natCast_mul]; rfl
          have e15 : (vI (14 * ((k % EE n : Nat) : Int)) : MV) = vI ((14 * (k % EE n) : Nat) : Int) := by rw [Int.natCast_mul]; rfl
          rw [e14, e15]
          refine V.cV5 (pc := 190) (kc2 := 0) (ks2 := 0) ml_Mo_126 (hM_o _) (ct_Mo_findLoops ar_allJoined ar_allJoined (by decide) (by decide) τ (14 * (k / EE n)) (14 * (k % EE n)) n (by omega) (by omega) (by omega) (by decide) (by decide) _ (pt (tls n ((k / EE n : Nat) : Int)) n) (pt (tls n ((k % EE n : Nat) : Int)) n) (fun q hq => u2 _ hdi q hq) (fun q hq => u2 _ hmo q hq) (PR_pt (tls_arch ⟨hz1, by omega⟩)) (PR_pt (tls_arch ⟨hz2, by omega⟩))) d_Mo_unlike_190 (Nat.le_of_ble_eq_true rfl) (Nat.le_of_ble_eq_true rfl) (Nat.le_of_ble_eq_true rfl) (Nat.le_of_ble_eq_true rfl) ?_
          rintro _ _ _ ⟨rfl, fl, rfl, rfl, -⟩
          dsimp only [Option.toList, List.cons_append, List.nil_append]
          have ekl : (lpS (pt (tls n ((k / EE n : Nat) : Int)) n) (pt (tls n ((k % EE n : Nat) : Int)) n) (2 * n) (2 * n)).2 = klp n (bg (PPn n) (k / EE n)) (bg (PPn n) (k % EE n)) := (klp_PL (by omega) ((UD hn.1 hn.2).1 _ hdi).1 ((UD hn.1 hn.2).1 _ hmo).1).symm
          rw [ekl]
          have hU2 : US σ n c D [] (sset τ 14 fl) := ⟨u1.put (by omega) fl, u2, u3, u4, u5, trivial⟩
          refine V.iconst (pc := 193) d_Mo_unlike_193 ⟨by decide, by decide⟩ ?_
          refine V.icmp_ne (tgt := 362) (pc := 194) d_Mo_unlike_194 (by decide) (fun c_194 => ?_) (fun c_194 => ?_)
          · skip
            refine V.iinc (pc := 362) d_Mo_unlike_362 rfl ⟨by omega, by omega⟩ (Nat.le_of_ble_eq_true rfl) rfl ?_
            dsimp only [put]
            refine V.goto (tgt := 152) (pc := 365) d_Mo_unlike_365 (by decide) ?_
            refine ih (k + 1) D c _ hun (by omega) (by omega) hU2 (by omega)
          · skip
            exfalso; omega
      · skip
        refine V.aload_n (pc := 159) 0 d_Mo_unlike_159 rfl rfl ?_
        refine V.getf (pc := 160) 29 cl_Mo fl_Mo_80_Mo d_Mo_unlike_160 (hM_o _) (Nat.le_of_ble_eq_true rfl) rfl ?_
        refine V.iload_n (pc := 163) 3 d_Mo_unlike_163 rfl rfl ?_
        refine V.zald (pc := 164) d_Mo_unlike_164 (ar_isDone _).1 (by omega) (by omega) ?_
        try simp (disch := omega) only [sset_n, sset_e]
        rw [show kk.toNat = k by omega, u5 k (by omega)]
        refine V.if_ne (tgt := 362) (pc := 165) d_Mo_unlike_165 (by decide) (fun c_165 => ?_) (fun c_165 => ?_)
        · skip
          rw [if_neg (by rw [hb]; decide)] at c_165; exact absurd rfl c_165
        · skip
          have hz1 : (0 : Int) ≤ ((k / EE n : Nat) : Int) := Int.natCast_nonneg _
          have hz2 : (0 : Int) ≤ ((k % EE n : Nat) : Int) := Int.natCast_nonneg _
          have hdi : k / EE n < EE n := div_lt (by omega)
          have hmo : k % EE n < EE n := Nat.mod_lt _ (by omega)
          have hEi := EE_int n
          refine V.aload_n (pc := 168) 0 d_Mo_unlike_168 rfl rfl ?_
          refine V.aload_n (pc := 169) 0 d_Mo_unlike_169 rfl rfl ?_
          refine V.getf (pc := 170) 22 cl_Mo fl_Mo_62_Mo d_Mo_unlike_170 (hM_o _) (Nat.le_of_ble_eq_true rfl) rfl ?_
          refine V.bipush (pc := 173) d_Mo_unlike_173 ⟨by decide, by decide⟩ ?_
          refine V.iload_n (pc := 175) 3 d_Mo_unlike_175 rfl rfl ?_
          refine V.iload_n (pc := 176) 2 d_Mo_unlike_176 rfl rfl ?_
          refine V.idiv (pc := 177) d_Mo_unlike_177 (by omega) (by omega) ?_
          rw [show kk / al = ((k / EE n : Nat) : Int) by rw [hal, hkk]; omega]
          refine V.imul (pc := 178) d_Mo_unlike_178 ⟨by omega, by omega⟩ ?_
          refine V.aload_n (pc := 179) 0 d_Mo_unlike_179 rfl rfl ?_
          refine V.getf (pc := 180) 22 cl_Mo fl_Mo_62_Mo d_Mo_unlike_180 (hM_o _) (Nat.le_of_ble_eq_true rfl) rfl ?_
          refine V.bipush (pc := 183) d_Mo_unlike_183 ⟨by decide, by decide⟩ ?_
          refine V.iload_n (pc := 185) 3 d_Mo_unlike_185 rfl rfl ?_
          refine V.iload_n (pc := 186) 2 d_Mo_unlike_186 rfl rfl ?_
          refine V.irem (pc := 187) d_Mo_unlike_187 (by omega) (by omega) ?_
          rw [show kk % al = ((k % EE n : Nat) : Int) by rw [hal, hkk]; omega]
          refine V.imul (pc := 188) d_Mo_unlike_188 ⟨by omega, by omega⟩ ?_
          refine V.iload_n (pc := 189) 1 d_Mo_unlike_189 rfl rfl ?_
          have e14 : (vI (14 * ((k / EE n : Nat) : Int)) : MV) = vI ((14 * (k / EE n) : Nat) : Int) := by rw [Int.natCast_mul]; rfl
          have e15 : (vI (14 * ((k % EE n : Nat) : Int)) : MV) = vI ((14 * (k % EE n) : Nat) : Int) := by rw [Int.natCast_mul]; rfl
          rw [e14, e15]
          refine V.cV5 (pc := 190) (kc2 := 0) (ks2 := 0) ml_Mo_126 (hM_o _) (ct_Mo_findLoops ar_allJoined ar_allJoined (by decide) (by decide) τ (14 * (k / EE n)) (14 * (k % EE n)) n (by omega) (by omega) (by omega) (by decide) (by decide) _ (pt (tls n ((k / EE n : Nat) : Int)) n) (pt (tls n ((k % EE n : Nat) : Int)) n) (fun q hq => u2 _ hdi q hq) (fun q hq => u2 _ hmo q hq) (PR_pt (tls_arch ⟨hz1, by omega⟩)) (PR_pt (tls_arch ⟨hz2, by omega⟩))) d_Mo_unlike_190 (Nat.le_of_ble_eq_true rfl) (Nat.le_of_ble_eq_true rfl) (Nat.le_of_ble_eq_true rfl) (Nat.le_of_ble_eq_true rfl) ?_
          rintro _ _ _ ⟨rfl, fl, rfl, rfl, -⟩
          dsimp only [Option.toList, List.cons_append, List.nil_append]
          have ekl : (lpS (pt (tls n ((k / EE n : Nat) : Int)) n) (pt (tls n ((k % EE n : Nat) : Int)) n) (2 * n) (2 * n)).2 = klp n (bg (PPn n) (k / EE n)) (bg (PPn n) (k % EE n)) := (klp_PL (by omega) ((UD hn.1 hn.2).1 _ hdi).1 ((UD hn.1 hn.2).1 _ hmo).1).symm
          rw [ekl]
          have hU2 : US σ n c D [] (sset τ 14 fl) := ⟨u1.put (by omega) fl, u2, u3, u4, u5, trivial⟩
          refine V.iconst (pc := 193) d_Mo_unlike_193 ⟨by decide, by decide⟩ ?_
          refine V.icmp_ne (tgt := 362) (pc := 194) d_Mo_unlike_194 (by decide) (fun c_194 => ?_) (fun c_194 => ?_)
          · skip
            exact absurd (by rw [hkl]; rfl) c_194
          · skip
            refine V.aload_n (pc := 197) 0 d_Mo_unlike_197 rfl rfl ?_
            refine V.getf (pc := 198) 26 cl_Mo fl_Mo_71_Mo d_Mo_unlike_198 (hM_o _) (Nat.le_of_ble_eq_true rfl) rfl ?_
            refine V.iload_n (pc := 201) 1 d_Mo_unlike_201 rfl rfl ?_
            refine V.dup2 (pc := 202) d_Mo_unlike_202 (fun _ => rfl) (fun _ => rfl) ?_
            refine V.iald (pc := 203) d_Mo_unlike_203 (ar_unlikes _).1 (by omega) (by omega) ?_
            try simp (disch := omega) only [sset_n, sset_e]
            have e26 : sset τ 14 fl 26 = upf (σ 26) n (c : Int) := by rw [sset_n (by decide)]; exact u4
            rw [show (n : Int).toNat = n by omega]
            rw [show τ 26 n = (c : Int) by rw [u4]; exact upf_e]
            refine V.iconst (pc := 204) d_Mo_unlike_204 ⟨by decide, by decide⟩ ?_
            refine V.iadd (pc := 205) d_Mo_unlike_205 ⟨by omega, by omega⟩ ?_
            refine V.iast (pc := 206) d_Mo_unlike_206 (ar_unlikes _).1 (by omega) (by omega) ?_
            rw [(ar_unlikes _).2]
            refine V.aload_n (pc := 207) 0 d_Mo_unlike_207 rfl rfl ?_
            refine V.getf (pc := 208) 29 cl_Mo fl_Mo_80_Mo d_Mo_unlike_208 (hM_o _) (Nat.le_of_ble_eq_true rfl) rfl ?_
            refine V.iload_n (pc := 211) 3 d_Mo_unlike_211 rfl rfl ?_
            refine V.iconst (pc := 212) d_Mo_unlike_212 ⟨by decide, by decide⟩ ?_
            refine V.zast (pc := 213) d_Mo_unlike_213 (ar_isDone _).1 (by omega) (by omega) (by omega) ?_
            rw [(ar_isDone _).2]
            refine V.aload_n (pc := 214) 0 d_Mo_unlike_214 rfl rfl ?_
            refine V.getf (pc := 215) 32 cl_Mo fl_Mo_89_Mo d_Mo_unlike_215 (hM_o _) (Nat.le_of_ble_eq_true rfl) rfl ?_
            refine V.iconst (pc := 218) d_Mo_unlike_218 ⟨by decide, by decide⟩ ?_
            refine V.iload_n (pc := 219) 3 d_Mo_unlike_219 rfl rfl ?_
            refine V.iast (pc := 220) d_Mo_unlike_220 (ar_toDo _).1 (by omega) (by omega) ?_
            rw [(ar_toDo _).2]
            refine V.iconst (pc := 221) d_Mo_unlike_221 ⟨by decide, by decide⟩ ?_
            refine V.istore (pc := 222) d_Mo_unlike_222 (Nat.le_of_ble_eq_true rfl) rfl ?_
            dsimp only [put]
            refine lp_Mo_unl1 σ n hn al hal hA (c + 1) D2 kk _ _ 100 (Nat.lor D (Nat.shiftLeft 1 k)) [k] hfl (fun t ht => by rw [List.mem_singleton.mp ht]; omega) (Nat.le_of_ble_eq_true rfl) rfl ?_ (fun τ y4 y5 y6 y7 y8 hU => ?_)
            · refine ⟨((hU2.1.put (k := 26) (by omega) _).put (k := 29) (by omega) _).put (k := 32) (by omega) _, u2, u3, ?_, fun y hy => ?_, ?_, trivial⟩
              · rw [sset_n (by decide), sset_n (by decide), sset_e]
                rw [e26, show (n : Int).toNat = n by omega]
                funext y
                unfold upf
                by_cases e : y = n
                · rw [if_pos e, if_pos e]; rfl
                · rw [if_neg e, if_neg e, if_neg e]
              · rw [sset_n (by decide), sset_e, show kk.toNat = k by omega]
                by_cases e : y = k
                · rw [e, upf_e, if_pos ((or_bit D k k).mpr (Or.inr rfl))]
                · rw [upf_n e]
                  show τ 29 y = _
                  rw [u5 y hy]
                  by_cases e2 : D.testBit y = true
                  · rw [if_pos e2, if_pos ((or_bit D k y).mpr (Or.inl e2))]
                  · rw [if_neg e2, if_neg]
                    intro z
                    rcases (or_bit D k y).mp z with z | z
                    · exact e2 z
                    · exact e z.symm
              · rw [sset_e]
                show upf _ (0 : Int).toNat kk 0 = (k : Int)
                rw [show (0 : Int).toNat = 0 from rfl, upf_e]; exact hkk
            · refine V.iinc (pc := 362) d_Mo_unlike_362 rfl ⟨by omega, by omega⟩ (Nat.le_of_ble_eq_true rfl) rfl ?_
              dsimp only [put]
              refine V.goto (tgt := 152) (pc := 365) d_Mo_unlike_365 (by decide) ?_
              exact ih (k + 1) D2 (c + 1) _ hun (by omega) (by omega) hU (by omega)
