/-! HOW MANY BITS: Long.bitCount -/
theorem and_256 (x y : Nat) : x &&& y = ((x % 256) &&& (y % 256)) + 256 * ((x / 256) &&& (y / 256)) := by
  have h1 : (x &&& y) % 2 ^ 8 = (x % 2 ^ 8) &&& (y % 2 ^ 8) := Nat.and_mod_two_pow
  have h2 : (x &&& y) / 2 ^ 8 = (x / 2 ^ 8) &&& (y / 2 ^ 8) := Nat.and_div_two_pow
  have e : (2 : Nat) ^ 8 = 256 := rfl
  rw [e] at h1 h2
  rw [← h1, ← h2]; omega
def pA (b : Nat) : Nat := (b / 2) &&& 85
def pB (b : Nat) : Nat := (b &&& 51) + ((b / 4) &&& 51)
def pC (b : Nat) : Nat := (b + b / 16) &&& 15
set_option maxRecDepth 100000 in
theorem pA_t : ∀ b : Fin 256, ∀ t : Fin 2, ((b.val / 2 + 128 * t.val) &&& 85) = pA b.val ∧ pA b.val ≤ b.val := by decide +kernel
set_option maxRecDepth 100000 in
theorem pB_t : ∀ b : Fin 256, ∀ t : Fin 4, ((b.val / 4 + 64 * t.val) &&& 51) = (b.val / 4) &&& 51 := by decide +kernel
set_option maxRecDepth 100000 in
theorem pABC : ∀ b : Fin 256, pB (b.val - pA b.val) % 16 ≤ 4 ∧ pB (b.val - pA b.val) / 16 ≤ 4 ∧ pC (pB (b.val - pA b.val)) ≤ 8 ∧ (pC (pB (b.val - pA b.val)) : Int) = cn (fun q => if b.val.testBit q = true then 1 else 0) 8 := by decide +kernel
set_option maxRecDepth 100000 in
theorem pC_t : ∀ q : Fin 256, ∀ t : Fin 5, q.val % 16 ≤ 4 → q.val / 16 ≤ 4 → ((q.val + (q.val / 16 + 16 * t.val)) &&& 15) = pC q.val := by decide +kernel
/-- five bytes -/
theorem by5 {N : Nat} (h : N < 1099511627776) : ∃ b0 b1 b2 b3 b4 : Nat, (b0 < 256 ∧ b1 < 256 ∧ b2 < 256 ∧ b3 < 256 ∧ b4 < 256) ∧ N = b0 + 256 * (b1 + 256 * (b2 + 256 * (b3 + 256 * b4))) := ⟨N % 256, N / 256 % 256, N / 65536 % 256, N / 16777216 % 256, N / 4294967296, by omega, by omega⟩
theorem st1 {b M m : Nat} (hb : b < 256) : ((b + 256 * M) / 2) &&& (85 + 256 * m) = pA b + 256 * ((M / 2) &&& m) := by
  rw [and_256]
  have h1 : (b + 256 * M) / 2 % 256 = b / 2 + 128 * (M % 2) := by omega
  have h2 : (b + 256 * M) / 2 / 256 = M / 2 := by omega
  have h3 : (85 + 256 * m) % 256 = 85 := by omega
  have h4 : (85 + 256 * m) / 256 = m := by omega
  rw [h1, h2, h3, h4, (pA_t ⟨b, hb⟩ ⟨M % 2, by omega⟩).1]
theorem st2a {b M m : Nat} (hb : b < 256) : (b + 256 * M) &&& (51 + 256 * m) = (b &&& 51) + 256 * (M &&& m) := by
  rw [and_256]
  have h1 : (b + 256 * M) % 256 = b := by omega
  have h2 : (b + 256 * M) / 256 = M := by omega
  have h3 : (51 + 256 * m) % 256 = 51 := by omega
  have h4 : (51 + 256 * m) / 256 = m := by omega
  rw [h1, h2, h3, h4]
theorem st2b {b M m : Nat} (hb : b < 256) : ((b + 256 * M) / 4) &&& (51 + 256 * m) = ((b / 4) &&& 51) + 256 * ((M / 4) &&& m) := by
  rw [and_256]
  have h1 : (b + 256 * M) / 4 % 256 = b / 4 + 64 * (M % 4) := by omega
  have h2 : (b + 256 * M) / 4 / 256 = M / 4 := by omega
  have h3 : (51 + 256 * m) % 256 = 51 := by omega
  have h4 : (51 + 256 * m) / 256 = m := by omega
  rw [h1, h2, h3, h4, pB_t ⟨b, hb⟩ ⟨M % 4, by omega⟩]
theorem st3 {q M m : Nat} (h1 : q % 16 ≤ 4) (h2 : q / 16 ≤ 4) (h3 : M % 16 ≤ 4) : ((q + 256 * M) + (q + 256 * M) / 16) &&& (15 + 256 * m) = pC q + 256 * ((M + M / 16) &&& m) := by
  rw [and_256]
  have e1 : ((q + 256 * M) + (q + 256 * M) / 16) % 256 = q + (q / 16 + 16 * (M % 16)) := by omega
  have e2 : ((q + 256 * M) + (q + 256 * M) / 16) / 256 = M + M / 16 := by omega
  have e3 : (15 + 256 * m) % 256 = 15 := by omega
  have e4 : (15 + 256 * m) / 256 = m := by omega
  rw [e1, e2, e3, e4, pC_t ⟨q, by omega⟩ ⟨M % 16, by omega⟩ h1 h2]
abbrev bt8 (N : Nat) : Nat → Int := fun q => if N.testBit q = true then 1 else 0
theorem cn_app (f : Nat → Int) (m : Nat) : ∀ k, cn f (m + k) = cn f m + cn (fun q => f (m + q)) k
  | 0 => by rw [Nat.add_zero]; show cn f m = cn f m + 0; omega
  | k + 1 => by
    show cn f (m + k) + f (m + k) = cn f m + (cn (fun q => f (m + q)) k + f (m + k))
    rw [cn_app f m k]; omega
theorem cn_cong {f g : Nat → Int} : ∀ m, (∀ q, q < m → f q = g q) → cn f m = cn g m
  | 0, _ => rfl
  | m + 1, h => by
    show cn f m + f m = cn g m + g m
    rw [cn_cong m (fun q hq => h q (by omega)), h m (by omega)]
theorem cn_byte {b M : Nat} (hb : b < 256) (m : Nat) : cn (bt8 (b + 256 * M)) (8 + m) = cn (bt8 b) 8 + cn (bt8 M) m := by
  have e : b + 256 * M = 2 ^ 8 * M + b := by rw [show (2 : Nat) ^ 8 = 256 from rfl]; omega
  have ht : ∀ q, (b + 256 * M).testBit q = if q < 8 then b.testBit q else M.testBit (q - 8) := fun q => by
    rw [e]; exact Nat.testBit_two_pow_mul_add M (show b < 2 ^ 8 by rw [show (2 : Nat) ^ 8 = 256 from rfl]; exact hb) q
  rw [cn_app]
  congr 1
  · exact cn_cong 8 (fun q hq => by show (if (b + 256 * M).testBit q = true then (1 : Int) else 0) = _; rw [ht q, if_pos hq])
  · exact cn_cong m (fun q hq => by
      have h8 : (b + 256 * M).testBit (8 + q) = M.testBit q := by rw [ht (8 + q), if_neg (show ¬ 8 + q < 8 by omega), Nat.add_sub_cancel_left]
      show (if (b + 256 * M).testBit (8 + q) = true then (1 : Int) else 0) = _
      rw [h8])
def x1f (N : Nat) : Nat := N - ((N / 2) &&& 6148914691236517205)
def x2f (N : Nat) : Nat := (N &&& 3689348814741910323) + ((N / 4) &&& 3689348814741910323)
def x3f (N : Nat) : Nat := (N + N / 16) &&& 1085102592571150095
/-- what the three steps make of five bytes -/
theorem pop3 {N : Nat} (h : N < 1099511627776) : ((N / 2) &&& 6148914691236517205) ≤ N ∧ x1f N < 1099511627776 ∧ x2f (x1f N) < 1099511627776 ∧ ∃ c0 c1 c2 c3 c4 : Nat, (c0 ≤ 8 ∧ c1 ≤ 8 ∧ c2 ≤ 8 ∧ c3 ≤ 8 ∧ c4 ≤ 8) ∧ x3f (x2f (x1f N)) = c0 + 256 * (c1 + 256 * (c2 + 256 * (c3 + 256 * c4))) ∧ ((c0 + c1 + c2 + c3 + c4 : Nat) : Int) = cn (bt8 N) 40 := by
  obtain ⟨b0, b1, b2, b3, b4, ⟨h0, h1, h2, h3, h4⟩, rfl⟩ := by5 h
  have a0 := (pA_t ⟨b0, h0⟩ 0).2; have a1 := (pA_t ⟨b1, h1⟩ 0).2; have a2 := (pA_t ⟨b2, h2⟩ 0).2; have a3 := (pA_t ⟨b3, h3⟩ 0).2; have a4 := (pA_t ⟨b4, h4⟩ 0).2
  have k0 := pABC ⟨b0, h0⟩; have k1 := pABC ⟨b1, h1⟩; have k2 := pABC ⟨b2, h2⟩; have k3 := pABC ⟨b3, h3⟩; have k4 := pABC ⟨b4, h4⟩
  dsimp only at a0 a1 a2 a3 a4 k0 k1 k2 k3 k4
  have hcn : cn (bt8 (b0 + 256 * (b1 + 256 * (b2 + 256 * (b3 + 256 * b4))))) 40 = cn (bt8 b0) 8 + (cn (bt8 b1) 8 + (cn (bt8 b2) 8 + (cn (bt8 b3) 8 + cn (bt8 b4) 8))) := by
    rw [show (40 : Nat) = 8 + 32 from rfl, cn_byte h0, show (32 : Nat) = 8 + 24 from rfl, cn_byte h1, show (24 : Nat) = 8 + 16 from rfl, cn_byte h2, show (16 : Nat) = 8 + 8 from rfl, cn_byte h3]
  have s1 : ((b0 + 256 * (b1 + 256 * (b2 + 256 * (b3 + 256 * b4)))) / 2) &&& 6148914691236517205 = pA b0 + 256 * (pA b1 + 256 * (pA b2 + 256 * (pA b3 + 256 * (pA b4 + 256 * ((0 / 2) &&& 5592405))))) := by
    rw [show (6148914691236517205 : Nat) = 85 + 256 * (85 + 256 * (85 + 256 * (85 + 256 * (85 + 256 * 5592405)))) from rfl, st1 h0, st1 h1, st1 h2, st1 h3]
    have := st1 (b := b4) (M := 0) (m := 5592405) h4
    rw [Nat.mul_zero, Nat.add_zero] at this
    rw [this]
  have z0 : ((0 / 2) &&& 5592405 : Nat) = 0 := rfl
  rw [z0] at s1
  have e1 : x1f (b0 + 256 * (b1 + 256 * (b2 + 256 * (b3 + 256 * b4)))) = (b0 - pA b0) + 256 * ((b1 - pA b1) + 256 * ((b2 - pA b2) + 256 * ((b3 - pA b3) + 256 * (b4 - pA b4)))) := by
    unfold x1f; rw [s1]; omega
  generalize ep0 : b0 - pA b0 = p0 at *
  generalize ep1 : b1 - pA b1 = p1 at *
  generalize ep2 : b2 - pA b2 = p2 at *
  generalize ep3 : b3 - pA b3 = p3 at *
  generalize ep4 : b4 - pA b4 = p4 at *
  have s2a : (p0 + 256 * (p1 + 256 * (p2 + 256 * (p3 + 256 * p4)))) &&& 3689348814741910323 = (p0 &&& 51) + 256 * ((p1 &&& 51) + 256 * ((p2 &&& 51) + 256 * ((p3 &&& 51) + 256 * (p4 &&& 51)))) := by
    rw [show (3689348814741910323 : Nat) = 51 + 256 * (51 + 256 * (51 + 256 * (51 + 256 * (51 + 256 * 3355443)))) from rfl, st2a (by omega), st2a (by omega), st2a (by omega), st2a (by omega)]
    have := st2a (b := p4) (M := 0) (m := 3355443) (by omega)
    rw [Nat.mul_zero, Nat.add_zero] at this
    rw [this]; rfl
  have s2b : ((p0 + 256 * (p1 + 256 * (p2 + 256 * (p3 + 256 * p4)))) / 4) &&& 3689348814741910323 = ((p0 / 4) &&& 51) + 256 * (((p1 / 4) &&& 51) + 256 * (((p2 / 4) &&& 51) + 256 * (((p3 / 4) &&& 51) + 256 * ((p4 / 4) &&& 51)))) := by
    rw [show (3689348814741910323 : Nat) = 51 + 256 * (51 + 256 * (51 + 256 * (51 + 256 * (51 + 256 * 3355443)))) from rfl, st2b (by omega), st2b (by omega), st2b (by omega), st2b (by omega)]
    have := st2b (b := p4) (M := 0) (m := 3355443) (by omega)
    rw [Nat.mul_zero, Nat.add_zero] at this
    rw [this]; rfl
  have e2 : x2f (p0 + 256 * (p1 + 256 * (p2 + 256 * (p3 + 256 * p4)))) = pB p0 + 256 * (pB p1 + 256 * (pB p2 + 256 * (pB p3 + 256 * pB p4))) := by
    unfold x2f pB; rw [s2a, s2b]; omega
  rw [e1, e2]
  have s3 : x3f (pB p0 + 256 * (pB p1 + 256 * (pB p2 + 256 * (pB p3 + 256 * pB p4)))) = pC (pB p0) + 256 * (pC (pB p1) + 256 * (pC (pB p2) + 256 * (pC (pB p3) + 256 * pC (pB p4)))) := by
    unfold x3f
    rw [show (1085102592571150095 : Nat) = 15 + 256 * (15 + 256 * (15 + 256 * (15 + 256 * (15 + 256 * 986895)))) from rfl, st3 (by omega) (by omega) (by omega), st3 (by omega) (by omega) (by omega), st3 (by omega) (by omega) (by omega), st3 (by omega) (by omega) (by omega)]
    have := st3 (q := pB p4) (M := 0) (m := 986895) (by omega) (by omega) (by omega)
    rw [Nat.mul_zero, Nat.add_zero] at this
    rw [this]; rfl
  refine ⟨by rw [s1]; omega, by omega, by omega, _, _, _, _, _, ⟨k0.2.2.1, k1.2.2.1, k2.2.2.1, k3.2.2.1, k4.2.2.1⟩, s3, ?_⟩
  rw [hcn, ← k0.2.2.2, ← k1.2.2.2, ← k2.2.2.2, ← k3.2.2.2, ← k4.2.2.2]
  omega
theorem pls_cn {a : Nat → Int} {n : Nat} (hn : n ≤ 20) : cn (bt8 (pls a (2 * n))) 40 = cn (plu a) (2 * n) := by
  have e : (40 : Nat) = 2 * n + (40 - 2 * n) := by omega
  rw [e, cn_app, cn_zero (40 - 2 * n) (fun k hk => ?_)]
  · rw [Int.add_zero]
    refine cn_cong _ (fun q hq => ?_)
    show (if (pls a (2 * n)).testBit q = true then (1 : Int) else 0) = if 0 < a q then 1 else 0
    have := pls_bit a (2 * n) q
    by_cases h : 0 < a q
    · rw [if_pos (this.mpr ⟨hq, h⟩), if_pos h]
    · rw [if_neg (fun z => h (this.mp z).2), if_neg h]
  · show (if (pls a (2 * n)).testBit (2 * n + k) = true then (1 : Int) else 0) = 0
    have := pls_bit a (2 * n) (2 * n + k)
    rw [if_neg (fun z => by have := this.mp z; omega)]
theorem V.l2iM {M : MD} {d pc : Nat} {ls : List (Option MV)} {st : List MV} {h : MH} {sz kc ks : Nat} {Q : QT} {x z : Int} (hd : decode M.2.1 pc = .ok (.l2i, 1)) (he : Int32.ofInt x = Int32.ofInt z) (hz : i32 z) (k : V M d (pc + 1) ls (vI z :: st) h sz kc ks Q) : V M d pc ls (vL x :: st) h sz kc ks Q := by
  refine V.st (pc2 := (pc + 1)) (st2 := vI z :: st) ?_ ?_ k
  · intro p l e R s m args below meth c Z E H locs cells slots lv hx hb hst k
    exact lv_l2i hx hb hd (i64_nar.trans he) k
  · intro hst
    exact okp (v := vI z) hz (okt hst)
