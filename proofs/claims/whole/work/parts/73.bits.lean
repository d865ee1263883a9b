/-! BITS of longs: pasted from kit/laws/BITS (families wb, pf), and what rests on them -/
/-! ===== lN n to 2^64: shifts, and, or, masks, one bit ===== -/
theorem wb_tb (n : Nat) : (lN n).toBitVec = BitVec.ofNat 64 n := rfl
theorem wb_inj {a b : Int64} (h : a.toBitVec = b.toBitVec) : a = b := Int64.toBitVec_inj.mp h
theorem wb_tn {n : Nat} (h : n < 2 ^ 64) : (lN n).toBitVec.toNat = n := by rw [wb_tb, BitVec.toNat_ofNat, Nat.mod_eq_of_lt h]
theorem wb_of (x : Int64) : ∃ n, n < 2 ^ 64 ∧ x = lN n := ⟨x.toBitVec.toNat, x.toBitVec.isLt, wb_inj (by rw [wb_tb]; simp)⟩
theorem wb_of32 (x : Int32) : ∃ n, n < 2 ^ 32 ∧ x = nI n := ⟨x.toBitVec.toNat, x.toBitVec.isLt, Int32.toBitVec_inj.mp (by show _ = BitVec.ofNat 32 _; simp)⟩
theorem wb_c : ∀ k, k < 64 → ((nI k).toInt64 &&& 63) = lN k := by decide +kernel
theorem wb_cu : ∀ k, k < 64 → ((nI k).toInt64.toUInt64 &&& Int64.toUInt64 63) = UInt64.ofNat k := by decide +kernel
theorem wb_sm : ∀ k, k < 64 → (BitVec.ofNat 64 k).smod 64 = BitVec.ofNat 64 k := by decide +kernel
theorem wb_pw {a b : Nat} (h : a ≤ b) : 2 ^ b = 2 ^ a * 2 ^ (b - a) := by rw [← Nat.pow_add]; congr 1; omega
theorem wb_lt2 {a b : Nat} (h : a < b) : 2 ^ a < 2 ^ b := Nat.pow_lt_pow_right (by decide) h
theorem wb_mod (n : Nat) : lN n = lN (n % 2 ^ 64) := wb_inj (by rw [wb_tb, wb_tb]; apply BitVec.eq_of_toNat_eq; rw [BitVec.toNat_ofNat, BitVec.toNat_ofNat, Nat.mod_mod])
theorem wb_shr {n k : Nat} (hn : n < 2 ^ 64) (hk : k < 64) : ((lN n).toUInt64 >>> ((nI k).toInt64.toUInt64 &&& Int64.toUInt64 63)).toInt64 = lN (n / 2 ^ k) := by
  rw [wb_cu k hk]
  apply wb_inj
  apply BitVec.eq_of_toNat_eq
  show ((lN n).toUInt64 >>> UInt64.ofNat k).toNat = (BitVec.ofNat 64 _).toNat
  have h1 : (UInt64.ofNat k).toNat = k := by
    show (BitVec.ofNat 64 k).toNat = k
    rw [BitVec.toNat_ofNat, Nat.mod_eq_of_lt (by omega)]
  have h2 : (lN n).toUInt64.toNat = n := wb_tn hn
  rw [UInt64.toNat_shiftRight, h1, h2, Nat.mod_eq_of_lt hk, Nat.shiftRight_eq_div_pow, BitVec.toNat_ofNat, Nat.mod_eq_of_lt (Nat.lt_of_le_of_lt (Nat.div_le_self _ _) hn)]
theorem wb_shl (n : Nat) {k : Nat} (hk : k < 64) : lN n <<< ((nI k).toInt64 &&& 63) = lN (n * 2 ^ k) := by
  rw [wb_c k hk]
  apply wb_inj
  rw [Int64.toBitVec_shiftLeft, wb_tb, wb_tb, wb_tb, wb_sm k hk]
  apply BitVec.eq_of_toNat_eq
  rw [BitVec.shiftLeft_eq', BitVec.toNat_shiftLeft, BitVec.toNat_ofNat, BitVec.toNat_ofNat, BitVec.toNat_ofNat, Nat.mod_eq_of_lt (show k < 2 ^ 64 by omega), Nat.shiftLeft_eq, Nat.mul_mod, Nat.mod_mod, ← Nat.mul_mod]
theorem wb_and {a b : Nat} (ha : a < 2 ^ 64) (hb : b < 2 ^ 64) : lN a &&& lN b = lN (a &&& b) := by
  apply wb_inj
  rw [Int64.toBitVec_and, wb_tb, wb_tb, wb_tb]
  apply BitVec.eq_of_toNat_eq
  rw [BitVec.toNat_and, BitVec.toNat_ofNat, BitVec.toNat_ofNat, BitVec.toNat_ofNat, Nat.mod_eq_of_lt ha, Nat.mod_eq_of_lt hb, Nat.mod_eq_of_lt (Nat.and_lt_two_pow _ hb)]
theorem wb_or {a b : Nat} (ha : a < 2 ^ 64) (hb : b < 2 ^ 64) : lN a ||| lN b = lN (a ||| b) := by
  apply wb_inj
  rw [Int64.toBitVec_or, wb_tb, wb_tb, wb_tb]
  apply BitVec.eq_of_toNat_eq
  rw [BitVec.toNat_or, BitVec.toNat_ofNat, BitVec.toNat_ofNat, BitVec.toNat_ofNat, Nat.mod_eq_of_lt ha, Nat.mod_eq_of_lt hb, Nat.mod_eq_of_lt (Nat.or_lt_two_pow ha hb)]
theorem wb_mask {n k : Nat} (hn : n < 2 ^ 64) (hk : k < 64) : lN n &&& lN (2 ^ k - 1) = lN (n % 2 ^ k) := by
  rw [wb_and hn (by have := wb_lt2 hk; omega), Nat.and_two_pow_sub_one_eq_mod]
theorem wb_a1 {n : Nat} (hn : n < 2 ^ 64) : lN n &&& 1 = lN (n % 2) := wb_mask (k := 1) hn (by decide)
theorem wb_bit {n k : Nat} (hn : n < 2 ^ 64) (hk : k < 64) : ((lN n).toUInt64 >>> ((nI k).toInt64.toUInt64 &&& Int64.toUInt64 63)).toInt64 &&& 1 = lN (n / 2 ^ k % 2) := by
  rw [wb_shr hn hk, wb_a1 (Nat.lt_of_le_of_lt (Nat.div_le_self _ _) hn)]
theorem wb_xor {q k : Nat} (hk : k < 63) (h : 2 ^ k ≤ q) (h2 : q < 2 ^ (k + 1)) : lN q ^^^ lN (2 ^ k) = lN (q - 2 ^ k) := by
  obtain ⟨r, rfl⟩ : ∃ r, q = 2 ^ k + r := ⟨q - 2 ^ k, by omega⟩
  have hr : r < 2 ^ k := by rw [Nat.pow_succ] at h2; omega
  have hx : (2 ^ k + r) ^^^ 2 ^ k = r := by
    apply Nat.eq_of_testBit_eq
    intro i
    rw [Nat.testBit_xor, Nat.testBit_two_pow]
    rcases Nat.lt_trichotomy i k with h | h | h
    · rw [Nat.testBit_two_pow_add_gt h]
      simp [show ¬ k = i by omega]
    · subst h
      rw [Nat.testBit_two_pow_add_eq]
      simp
    · have a1 : 2 ^ (k + 1) ≤ 2 ^ i := Nat.pow_le_pow_right (by decide) h
      rw [Nat.testBit_lt_two_pow (show 2 ^ k + r < 2 ^ i by omega), Nat.testBit_lt_two_pow (show r < 2 ^ i by omega)]
      simp [show ¬ k = i by omega]
  have b1 := wb_lt2 (show k + 1 < 64 by omega)
  have b2 := wb_lt2 (show k < 64 by omega)
  apply wb_inj
  rw [Int64.toBitVec_xor, wb_tb, wb_tb, wb_tb]
  apply BitVec.eq_of_toNat_eq
  rw [BitVec.toNat_xor, BitVec.toNat_ofNat, BitVec.toNat_ofNat, BitVec.toNat_ofNat, Nat.mod_eq_of_lt (by omega : 2 ^ k + r < 2 ^ 64), Nat.mod_eq_of_lt b2, hx, Nat.add_sub_cancel_left, Nat.mod_eq_of_lt (by omega)]
/-! ===== lN to 2^62 under >> and >>> ===== -/
theorem pf_lI {a : Nat} (h : a < 2 ^ 63) : (lN a).toInt = (a : Int) := lg_ofNat_toInt h
theorem pf_shr {a d : Nat} {D : Int64} (hD : (D.toBitVec.smod 64).toNat = d) (h : a < 2 ^ 62) : lN a >>> D = lN (a / 2 ^ d) := by
  have hd : a / 2 ^ d ≤ a := Nat.div_le_self _ _
  apply Int64.toInt_inj.mp
  have e : (lN a >>> D).toInt = (lN a).toInt >>> d := by
    rw [← hD]
    exact BitVec.toInt_sshiftRight ..
  rw [e, Int.shiftRight_eq_div_pow, pf_lI (by omega), pf_lI (by omega)]
  rfl
theorem pf_ushr {a d : Nat} {D : UInt64} (hD : D.toNat % 64 = d) (h : a < 2 ^ 62) : ((lN a).toUInt64 >>> D).toInt64 = lN (a / 2 ^ d) := by
  have hd : a / 2 ^ d ≤ a := Nat.div_le_self _ _
  have e : (lN a).toUInt64 >>> D = UInt64.ofNat (a / 2 ^ d) := UInt64.toNat_inj.mp (by
    rw [UInt64.toNat_shiftRight, hD, Nat.shiftRight_eq_div_pow, UInt64.toNat_ofNat']
    show (UInt64.ofNat a).toNat / 2 ^ d = _
    rw [UInt64.toNat_ofNat', Nat.mod_eq_of_lt (by omega), Nat.mod_eq_of_lt (by omega)])
  rw [e]
  rfl
theorem pf_andw (x : Int64) : ∃ m, m < 2 ^ 32 ∧ x &&& 4294967295 = lN m := ⟨x.toBitVec.toNat % 2 ^ 32, Nat.mod_lt _ (by decide), Int64.toBitVec_inj.mp (BitVec.eq_of_toNat_eq (by
  show (x.toBitVec &&& 4294967295#64).toNat = (BitVec.ofNat 64 (x.toBitVec.toNat % 2 ^ 32)).toNat
  rw [BitVec.toNat_and, show (4294967295#64).toNat = 2 ^ 32 - 1 from by decide, Nat.and_two_pow_sub_one_eq_mod, BitVec.toNat_ofNat]
  omega))⟩
theorem oN_l (n : Nat) : Int64.ofInt (n : Int) = lN n := Int64.ofInt_eq_ofNat
theorem i64_n {n : Nat} (h : n < 9223372036854775808) : i64 (n : Int) := by unfold i64; omega
theorem sh_amt {y : Int} {k : Nat} (hy : y = k) (hk : k < 64) : Int64.ofInt y &&& 63 = lN k := by
  rw [hy, oN_l]
  have := wb_c k hk
  rw [nI_l (by omega)] at this
  exact this
theorem b_shl {N k : Nat} {y : Int} (hy : y = k) (hk : k < 64) (h : N * 2 ^ k < 9223372036854775808) : i64 (N : Int) → i32 y → Int64.ofInt (N : Int) <<< (Int64.ofInt y &&& 63) = Int64.ofInt ((N * 2 ^ k : Nat) : Int) ∧ i64 ((N * 2 ^ k : Nat) : Int) := by
  intro _ _
  refine ⟨?_, i64_n h⟩
  rw [sh_amt hy hk, oN_l, oN_l, ← wb_c k hk]
  exact wb_shl N hk
theorem b_one {k : Nat} {y : Int} (hy : y = k) (hk : k < 63) : i64 1 → i32 y → Int64.ofInt 1 <<< (Int64.ofInt y &&& 63) = Int64.ofInt ((2 ^ k : Nat) : Int) ∧ i64 ((2 ^ k : Nat) : Int) := by
  intro h1 h2
  have hp : 2 ^ k < 2 ^ 63 := wb_lt2 hk
  have := b_shl (N := 1) hy (by omega) (by rw [Nat.one_mul]; omega) h1 h2
  rw [Nat.one_mul] at this
  exact this
theorem b_shr {N k : Nat} {y : Int} (hy : y = k) (hk : k < 64) (h : N < 4611686018427387904) : i64 (N : Int) → i32 y → Int64.ofInt (N : Int) >>> (Int64.ofInt y &&& 63) = Int64.ofInt ((N / 2 ^ k : Nat) : Int) ∧ i64 ((N / 2 ^ k : Nat) : Int) := by
  intro _ _
  have hd : N / 2 ^ k ≤ N := Nat.div_le_self _ _
  refine ⟨?_, i64_n (by omega)⟩
  rw [sh_amt hy hk, oN_l, oN_l]
  refine pf_shr ?_ (by omega)
  rw [wb_tb, wb_sm k hk, BitVec.toNat_ofNat]
  exact Nat.mod_eq_of_lt (by omega)
theorem b_ushr {N k : Nat} {y : Int} (hy : y = k) (hk : k < 64) (h : N < 9223372036854775808) : i64 (N : Int) → i32 y → ((Int64.ofInt (N : Int)).toUInt64 >>> ((Int64.ofInt y).toUInt64 &&& Int64.toUInt64 63)).toInt64 = Int64.ofInt ((N / 2 ^ k : Nat) : Int) ∧ i64 ((N / 2 ^ k : Nat) : Int) := by
  intro _ _
  have hd : N / 2 ^ k ≤ N := Nat.div_le_self _ _
  refine ⟨?_, i64_n (by omega)⟩
  rw [hy, oN_l, oN_l, oN_l, ← nI_l (show k < 2 ^ 31 by omega)]
  exact wb_shr (by omega) hk
theorem b_or {N M : Nat} (hN : N < 9223372036854775808) (hM : M < 9223372036854775808) : i64 (N : Int) → i64 (M : Int) → Int64.ofInt (N : Int) ||| Int64.ofInt (M : Int) = Int64.ofInt ((N ||| M : Nat) : Int) ∧ i64 ((N ||| M : Nat) : Int) := by
  intro _ _
  have h3 : N ||| M < 2 ^ 63 := Nat.or_lt_two_pow (by omega) (by omega)
  refine ⟨?_, i64_n (by omega)⟩
  rw [oN_l, oN_l, oN_l]
  exact wb_or (by omega) (by omega)
theorem b_and {N M : Nat} (hN : N < 9223372036854775808) (hM : M < 9223372036854775808) : i64 (N : Int) → i64 (M : Int) → Int64.ofInt (N : Int) &&& Int64.ofInt (M : Int) = Int64.ofInt ((N &&& M : Nat) : Int) ∧ i64 ((N &&& M : Nat) : Int) := by
  intro _ _
  have h3 : N &&& M ≤ N := Nat.and_le_left
  refine ⟨?_, i64_n (by omega)⟩
  rw [oN_l, oN_l, oN_l]
  exact wb_and (by omega) (by omega)
theorem b_and1 {N : Nat} (hN : N < 9223372036854775808) : i64 (N : Int) → i64 1 → Int64.ofInt (N : Int) &&& Int64.ofInt 1 = Int64.ofInt ((N % 2 : Nat) : Int) ∧ i64 ((N % 2 : Nat) : Int) := by
  intro h1 h2
  have := b_and (N := N) (M := 1) hN (by decide) h1 h2
  rw [Nat.and_one_is_mod] at this
  exact this
/-- the signs as bits: + at p is bit p -/
def pls (a : Nat → Int) : Nat → Nat
  | 0 => 0
  | m + 1 => if 0 < a m then pls a m ||| 2 ^ m else pls a m
theorem pls_lt (a : Nat → Int) : ∀ m, pls a m < 2 ^ m
  | 0 => by show 0 < 1; omega
  | m + 1 => by
    have h1 := pls_lt a m
    have h2 : (2 : Nat) ^ (m + 1) = 2 * 2 ^ m := by rw [Nat.pow_succ, Nat.mul_comm]
    show (if 0 < a m then pls a m ||| 2 ^ m else pls a m) < 2 ^ (m + 1)
    split
    · exact Nat.or_lt_two_pow (by omega) (by omega)
    · omega
theorem pls_bit (a : Nat → Int) : ∀ m q, (pls a m).testBit q = true ↔ q < m ∧ 0 < a q
  | 0, q => by
    show (0 : Nat).testBit q = true ↔ _
    rw [Nat.zero_testBit]
    exact ⟨fun h => (by cases h), fun h => (by omega)⟩
  | m + 1, q => by
    have ih := pls_bit a m q
    show (if 0 < a m then pls a m ||| 2 ^ m else pls a m).testBit q = true ↔ _
    by_cases hm : 0 < a m
    · rw [if_pos hm, Nat.testBit_or, Nat.testBit_two_pow]
      simp only [Bool.or_eq_true, decide_eq_true_eq, ih]
      constructor
      · rintro (h | h)
        · exact ⟨by omega, h.2⟩
        · subst h; exact ⟨by omega, hm⟩
      · rintro ⟨h1, h2⟩
        by_cases e : m = q
        · exact Or.inr e
        · exact Or.inl ⟨by omega, h2⟩
    · rw [if_neg hm, ih]
      constructor
      · rintro ⟨h1, h2⟩; exact ⟨by omega, h2⟩
      · rintro ⟨h1, h2⟩
        refine ⟨?_, h2⟩
        by_cases e : q = m
        · rw [e] at h2; exact absurd h2 hm
        · omega
theorem pls_cong {a b : Nat → Int} : ∀ m, (∀ q, q < m → (0 < a q ↔ 0 < b q)) → pls a m = pls b m
  | 0, _ => rfl
  | m + 1, h => by
    have ih := pls_cong m (fun q hq => h q (by omega))
    show (if 0 < a m then pls a m ||| 2 ^ m else pls a m) = (if 0 < b m then pls b m ||| 2 ^ m else pls b m)
    rw [ih]
    by_cases hm : 0 < a m
    · rw [if_pos hm, if_pos ((h m (by omega)).mp hm)]
    · rw [if_neg hm, if_neg (fun z => hm ((h m (by omega)).mpr z))]
theorem two40 {m : Nat} (h : m ≤ 40) : 2 ^ m ≤ 1099511627776 := by
  have := Nat.pow_le_pow_right (n := 2) (by decide) h
  exact this
theorem pls_40 (a : Nat → Int) {m : Nat} (h : m ≤ 40) : pls a m < 1099511627776 := Nat.lt_of_lt_of_le (pls_lt a m) (two40 h)
/-- numbers below 2^m with the same bits below m -/
theorem bits_eq {N M m : Nat} (hN : N < 2 ^ m) (hM : M < 2 ^ m) (h : ∀ q, q < m → (N.testBit q = true ↔ M.testBit q = true)) : N = M := by
  apply Nat.eq_of_testBit_eq
  intro q
  by_cases hq : q < m
  · have := h q hq
    cases e1 : N.testBit q <;> cases e2 : M.testBit q <;> simp_all
  · have hp : 2 ^ m ≤ 2 ^ q := Nat.pow_le_pow_right (by decide) (by omega)
    rw [Nat.testBit_lt_two_pow (Nat.lt_of_lt_of_le hN hp), Nat.testBit_lt_two_pow (Nat.lt_of_lt_of_le hM hp)]
theorem peaks_iff {a : Nat → Int} {n : Nat} (hn : n ≤ 20) : pls a (2 * n) = 366503875925 &&& (2 ^ (2 * n) - 1) ↔ peaks a n := by
  have hb : ∀ q : Fin 40, (366503875925 : Nat).testBit q.val = true ↔ q.val % 2 = 0 := by decide +kernel
  have hx : ∀ q, q < 2 * n → ((366503875925 &&& (2 ^ (2 * n) - 1) : Nat).testBit q = true ↔ q % 2 = 0) := by
    intro q hq
    rw [Nat.testBit_and, Nat.testBit_two_pow_sub_one]
    simp only [Bool.and_eq_true, decide_eq_true_eq]
    have := hb ⟨q, by omega⟩
    constructor
    · rintro ⟨h1, -⟩; exact this.mp h1
    · intro h1; exact ⟨this.mpr h1, hq⟩
  constructor
  · intro e q hq
    have h1 := pls_bit a (2 * n) q
    rw [e, hx q hq] at h1
    constructor
    · intro h2; exact h1.mpr ⟨hq, h2⟩
    · intro h2; exact (h1.mp h2).2
  · intro hp
    refine bits_eq (pls_lt _ _) ?_ (fun q hq => ?_)
    · have h1 : (366503875925 &&& (2 ^ (2 * n) - 1) : Nat) ≤ 2 ^ (2 * n) - 1 := Nat.and_le_right
      have h2 : 0 < 2 ^ (2 * n) := Nat.pow_pos (by decide)
      omega
    · rw [hx q hq, pls_bit, ← hp q hq]
      exact ⟨fun h => h.2, fun h => ⟨hq, h⟩⟩
theorem nest_iff {a : Nat → Int} {n : Nat} : pls a (2 * n) = 2 ^ n - 1 ↔ nest a n := by
  have hx : ∀ q, ((2 ^ n - 1 : Nat).testBit q = true ↔ q < n) := by
    intro q
    rw [Nat.testBit_two_pow_sub_one, decide_eq_true_eq]
  constructor
  · intro e q hq
    have h1 := pls_bit a (2 * n) q
    rw [e, hx q] at h1
    constructor
    · intro h2; exact h1.mpr ⟨hq, h2⟩
    · intro h2; exact (h1.mp h2).2
  · intro hp
    refine bits_eq (pls_lt _ _) ?_ (fun q hq => ?_)
    · have h1 : 2 ^ n ≤ 2 ^ (2 * n) := Nat.pow_le_pow_right (by decide) (by omega)
      have h2 : 0 < 2 ^ n := Nat.pow_pos (by decide)
      omega
    · rw [hx q, pls_bit, ← hp q hq]
      exact ⟨fun h => h.2, fun h => ⟨hq, h⟩⟩
