/-! THE REFERENCE: worth, printed by wip/whole/gen/refH.py -/
def fz (a : Nat → Int) : Nat → Nat → Nat
  | 0, k => k
  | c + 1, k => if a k = 0 then k else fz a c (k + 1)
theorem fz_is {a : Nat → Int} {z : Nat} (hz : a z = 0) : ∀ c k, k ≤ z → z < k + c → (∀ j, k ≤ j → j < z → a j ≠ 0) → fz a c k = z
  | 0, k, h1, h2, h3 => by omega
  | c + 1, k, h1, h2, h3 => by
    unfold fz
    by_cases e : k = z
    · rw [e, if_pos hz]
    · rw [if_neg (h3 k (by omega) (by omega))]
      exact fz_is hz c (k + 1) (by omega) (by omega) (fun j g1 g2 => h3 j (by omega) g2)
def wthV (kd : Int) (n : Nat) (a b : Nat → Int) : Int := if kd = 1 then cn (plu a) (2 * n) else if kd < 5 then (if kd = 3 then cn (nxt a n) (2 * n - 1) + n else cn (nxt a n) (2 * n - 1)) else if kd < 7 then (if kd = 6 then (nlp a b n : Int) * (2 * n) else (nlp a b n : Int)) else (if kd = 8 then (fz a n 0 : Int) + 100 else (fz a n 0 : Int))
def wthL (kd : Int) : List Int := if kd = 1 then [20] else if kd < 5 then (if kd = 3 then [22, 21, 10] else [21]) else if kd < 7 then (if kd = 6 then [24, 23, 11, 10] else [23]) else (if kd = 8 then [26, 25] else [25])
theorem TR.lf {σ τ : SM} {l : List Int} (h : TR σ τ l) (f : Nat → Int) : TR σ (sset τ 14 f) l := ⟨fun j h1 h2 h3 => by rw [sset_n h3]; exact h.1 j h1 h2 h3, h.2.1, h.2.2⟩
theorem szV6 (n : Int) : szV 6 n = 2 * n := by unfold szV; rw [if_pos (by decide)]
theorem szL6 : szL 6 = [11, 10] := by unfold szL; rw [if_pos (by decide)]
set_option maxRecDepth 20000 in
theorem lp_Mo_worthS (σ τ : SM) (l : List Int) (htr : TR σ τ l) (t : Int) (ht : 0 ≤ t ∧ t ≤ 9) (n : Nat) (hn20 : 1 ≤ n ∧ n ≤ 20) (a : Nat → Int) (ha : ∀ x, x < n → σ 6 (40 * t.toNat + x) = a x) (own : Int) (z : Nat) (hz : z < n) (hz0 : a z = 0) (hb : ∀ j, j < z → a j ≠ 0) (sz : Nat) : ∀ (c k : Nat) (v : Int), k + c = z → v = k →
    V M_Mo_worth 2 223 [some (vR 8), some (vI t), some (vI own), some (vI v)] [] (hM τ) sz 0 0 (QZ σ (if own = 8 then (z : Int) + 100 else (z : Int)) l sz) := by
  intro c
  induction c with
  | zero =>
    intro k v hc hv
    refine V.aload_n (pc := 223) 0 d_Mo_worth_223 rfl rfl ?_
    refine V.getf (pc := 224) 6 cl_Mo fl_Mo_28_Mo d_Mo_worth_224 (hM_o _) (Nat.le_of_ble_eq_true rfl) rfl ?_
    refine V.bipush (pc := 227) d_Mo_worth_227 ⟨by decide, by decide⟩ ?_
    refine V.iload_n (pc := 229) 1 d_Mo_worth_229 rfl rfl ?_
    refine V.imul (pc := 230) d_Mo_worth_230 ⟨by omega, by omega⟩ ?_
    refine V.iload_n (pc := 231) 3 d_Mo_worth_231 rfl rfl ?_
    refine V.iadd (pc := 232) d_Mo_worth_232 ⟨by omega, by omega⟩ ?_
    refine V.iald (pc := 233) d_Mo_worth_233 (ar_one _).1 (by omega) (by omega) ?_
    try simp (disch := omega) only [sset_n, sset_e]
    rw [htr.1 6 (by omega) (by omega) (by omega), show (40 * t + v).toNat = 40 * t.toNat + k by omega, ha k (by omega)]
    refine V.if_eq (tgt := 243) (pc := 234) d_Mo_worth_234 (by decide) (fun c_234 => ?_) (fun c_234 => ?_)
    · skip
      refine V.iload_n (pc := 243) 2 d_Mo_worth_243 rfl rfl ?_
      refine V.bipush (pc := 244) d_Mo_worth_244 ⟨by decide, by decide⟩ ?_
      refine V.icmp_ne (tgt := 256) (pc := 246) d_Mo_worth_246 (by decide) (fun c_246 => ?_) (fun c_246 => ?_)
      · skip
        refine V.iload_n (pc := 256) 3 d_Mo_worth_256 rfl rfl ?_
        refine V.ret (pc := 257) (r := some (vI _)) d_Mo_worth_257 (Or.inl rfl) rfl ?_
        exact ⟨rfl, by rw [if_neg (by omega), show (z : Int) = v by omega], τ, rfl, htr⟩
      · skip
        refine V.iload_n (pc := 249) 3 d_Mo_worth_249 rfl rfl ?_
        refine V.bipush (pc := 250) d_Mo_worth_250 ⟨by decide, by decide⟩ ?_
        refine V.iadd (pc := 252) d_Mo_worth_252 ⟨by omega, by omega⟩ ?_
        refine V.goto (tgt := 257) (pc := 253) d_Mo_worth_253 (by decide) ?_
        refine V.ret (pc := 257) (r := some (vI _)) d_Mo_worth_257 (Or.inl rfl) rfl ?_
        exact ⟨rfl, by rw [if_pos (by omega), show (z : Int) = v by omega], τ, rfl, htr⟩
    · skip
      exact absurd (by rw [show k = z by omega]; exact hz0) c_234
  | succ c ih =>
    intro k v hc hv
    refine V.aload_n (pc := 223) 0 d_Mo_worth_223 rfl rfl ?_
    refine V.getf (pc := 224) 6 cl_Mo fl_Mo_28_Mo d_Mo_worth_224 (hM_o _) (Nat.le_of_ble_eq_true rfl) rfl ?_
    refine V.bipush (pc := 227) d_Mo_worth_227 ⟨by decide, by decide⟩ ?_
    refine V.iload_n (pc := 229) 1 d_Mo_worth_229 rfl rfl ?_
    refine V.imul (pc := 230) d_Mo_worth_230 ⟨by omega, by omega⟩ ?_
    refine V.iload_n (pc := 231) 3 d_Mo_worth_231 rfl rfl ?_
    refine V.iadd (pc := 232) d_Mo_worth_232 ⟨by omega, by omega⟩ ?_
    refine V.iald (pc := 233) d_Mo_worth_233 (ar_one _).1 (by omega) (by omega) ?_
    try simp (disch := omega) only [sset_n, sset_e]
    rw [htr.1 6 (by omega) (by omega) (by omega), show (40 * t + v).toNat = 40 * t.toNat + k by omega, ha k (by omega)]
    refine V.if_eq (tgt := 243) (pc := 234) d_Mo_worth_234 (by decide) (fun c_234 => ?_) (fun c_234 => ?_)
    · skip
      exact absurd c_234 (hb k (by omega))
    · skip
      refine V.iinc (pc := 237) d_Mo_worth_237 rfl ⟨by omega, by omega⟩ (Nat.le_of_ble_eq_true rfl) rfl ?_
      dsimp only [put]
      refine V.goto (tgt := 223) (pc := 240) d_Mo_worth_240 (by decide) ?_
      exact ih (k + 1) _ (by omega) (by omega)
