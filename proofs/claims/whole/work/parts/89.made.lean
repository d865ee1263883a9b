/-! BITS of ints; what is made, as a THING -/
theorem oI_n (n : Nat) : Int32.ofInt (n : Int) = nI n := Int32.ofInt_eq_ofNat
theorem sh32 : ∀ k : Fin 32, ((nI k.val &&& 31).toBitVec.smod 32).toNat = k.val := by decide +kernel
theorem c_shr {N k : Nat} {y : Int} (hy : y = k) (hk : k < 32) (hN : N < 2147483648) : i32 (N : Int) → i32 y → Int32.ofInt (N : Int) >>> (Int32.ofInt y &&& 31) = Int32.ofInt ((N / 2 ^ k : Nat) : Int) ∧ i32 ((N / 2 ^ k : Nat) : Int) := by
  intro _ _
  have hd : N / 2 ^ k ≤ N := Nat.div_le_self _ _
  refine ⟨?_, n32 (by omega)⟩
  rw [hy, oI_n, oI_n, oI_n]
  exact pk_shrN (by omega) _ k (sh32 ⟨k, hk⟩)
theorem c_one {k : Nat} {y : Int} (hy : y = k) (hk : k < 31) : i32 1 → i32 y → Int32.ofInt 1 <<< (Int32.ofInt y &&& 31) = Int32.ofInt ((2 ^ k : Nat) : Int) ∧ i32 ((2 ^ k : Nat) : Int) := by
  intro _ _
  have hp : 2 ^ k < 2 ^ 31 := Nat.pow_lt_pow_right (by decide) hk
  refine ⟨?_, n32 (by omega)⟩
  have e1 : Int32.ofInt 1 = nI 1 := rfl
  rw [hy, oI_n, oI_n, e1, pk_shlN _ k (sh32 ⟨k, by omega⟩) (by rw [Nat.one_mul]; omega), Nat.one_mul]
theorem c_and1 {N : Nat} (hN : N < 2147483648) : i32 (N : Int) → i32 1 → Int32.ofInt (N : Int) &&& Int32.ofInt 1 = Int32.ofInt ((N % 2 : Nat) : Int) ∧ i32 ((N % 2 : Nat) : Int) := by
  intro _ _
  refine ⟨?_, n32 (by omega)⟩
  rw [oI_n, oI_n]
  exact pk_andN (by omega) 1 rfl
theorem c_or {N M : Nat} (hN : N < 1073741824) (hM : M < 1073741824) : i32 (N : Int) → i32 (M : Int) → Int32.ofInt (N : Int) ||| Int32.ofInt (M : Int) = Int32.ofInt ((N ||| M : Nat) : Int) ∧ i32 ((N ||| M : Nat) : Int) := by
  intro _ _
  have h3 : N ||| M < 2 ^ 30 := Nat.or_lt_two_pow (by omega) (by omega)
  refine ⟨?_, n32 (by omega)⟩
  rw [oI_n, oI_n, oI_n]
  apply Int32.toBitVec_inj.1
  show BitVec.ofNat 32 N ||| BitVec.ofNat 32 M = BitVec.ofNat 32 (N ||| M)
  apply BitVec.eq_of_getLsbD_eq
  intro i hi
  simp [hi]
theorem wf_row {a : Nat → Int} {n : Nat} (hn : 1 ≤ n ∧ n ≤ 20) (hs : ∀ p, p < 2 * n → a p = 1 ∨ a p = -1) : wfT (rowKind a n, n, a, fun _ => 0) := by
  have hr := rowKind_rng a n
  exact ⟨hn.1, hn.2, Or.inl ⟨hr.1, hr.2.1, hs, rfl⟩⟩
theorem ar_made {n : Nat} {a : Nat → Int} {h h2 : MH} {sz s : Nat} {r : Option MV} (hsz : 37 ≤ sz) (hfr : ∀ a c, h a = some c → a < sz) (ha : arch a n) (q : QAr n a h sz r h2 s) : r = some (vR (sz + 1)) ∧ s = sz + 2 ∧ Gr h h2 ∧ ArO h2 (sz + 1) (rowKind a n) n a := by
  obtain ⟨q1, q2, f, rfl, q3⟩ := q
  have hr := rowKind_rng a n
  refine ⟨q1, q2, ((Gr.rf h).new _ hsz (fr_none hfr (Nat.le_refl _))).new _ (by omega) (fr_none hfr (by omega)), ⟨hr.2.2.mpr ha, hr.2.1⟩, by omega, sz, f, hsz, hset_s, hset_o (by omega) hset_s, q3⟩
theorem row_made {n : Nat} {a : Nat → Int} {h h2 : MH} {sz s : Nat} {r : Option MV} (hn : 1 ≤ n ∧ n ≤ 20) (hs : ∀ p, p < 2 * n → a p = 1 ∨ a p = -1) (hsz : 37 ≤ sz) (hfr : ∀ a c, h a = some c → a < sz) (q : QRo n a h sz r h2 s) : ∃ a9, r = some (vR a9) ∧ sz ≤ s ∧ Gr h h2 ∧ Th h2 a9 (rowKind a n, n, a, fun _ => 0) := by
  rcases q with ⟨ha, q⟩ | ⟨ha, rfl, rfl, rfl⟩
  · obtain ⟨q1, q2, q3, q4⟩ := ar_made hsz hfr ha q
    exact ⟨_, q1, by omega, q3, wf_row hn hs, Or.inr (Or.inl q4)⟩
  · have e : rowKind a n = 1 := by unfold rowKind; rw [if_neg ha]
    refine ⟨sz, rfl, by omega, (Gr.rf h).new _ hsz (fr_none hfr (Nat.le_refl _)), wf_row hn hs, Or.inl ⟨e, hsz, hset_s⟩⟩
theorem arT_made {n : Nat} {a : Nat → Int} {h h2 : MH} {sz s : Nat} {r : Option MV} (hn : 1 ≤ n ∧ n ≤ 20) (hs : ∀ p, p < 2 * n → a p = 1 ∨ a p = -1) (hsz : 37 ≤ sz) (hfr : ∀ a c, h a = some c → a < sz) (ha : arch a n) (q : QAr n a h sz r h2 s) : ∃ a9, r = some (vR a9) ∧ sz ≤ s ∧ Gr h h2 ∧ Th h2 a9 (rowKind a n, n, a, fun _ => 0) := by
  obtain ⟨q1, q2, q3, q4⟩ := ar_made hsz hfr ha q
  exact ⟨_, q1, by omega, q3, wf_row hn hs, Or.inr (Or.inl q4)⟩
theorem la_made {n o9 u9 : Nat} {a b : Nat → Int} {ko ku : Int} {h h2 : MH} {sz s : Nat} {r : Option MV} (hn : 1 ≤ n ∧ n ≤ 20) (hs : ∀ p, p < 2 * n → a p = 1 ∨ a p = -1) (hs2 : ∀ p, p < 2 * n → b p = 1 ∨ b p = -1) (ha : arch a n) (hb : arch b n) (hsz : 37 ≤ sz) (hfr : ∀ a c, h a = some c → a < sz) (ho : ArO h o9 ko n a) (hu : ArO h u9 ku n b) (q : QLa o9 u9 n a b h sz r h2 s) : ∃ a9, r = some (vR a9) ∧ sz ≤ s ∧ Gr h h2 ∧ Th h2 a9 (landK a b n, n, a, b) := by
  obtain ⟨q1, q2, l, rfl, q3⟩ := q
  have hg := ((Gr.rf h).new (kA 0 (2 * n) l) hsz (fr_none hfr (Nat.le_refl _))).new (kO (if nlp a b n = 1 then 8 else 7) [vI (n : Int), vR o9, vR u9, vR sz, vI (nlp a b n : Int)]) (show 37 ≤ sz + 1 by omega) (fr_none hfr (by omega))
  have h56 : landK a b n = 5 ∨ landK a b n = 6 := by unfold landK; split <;> simp
  have hk : (landK a b n = 6 ↔ nlp a b n = 1) := by
    unfold landK
    by_cases e : nlp a b n = 1
    · rw [if_pos e]; exact ⟨fun _ => e, fun _ => rfl⟩
    · rw [if_neg e]; exact ⟨fun z => by omega, fun z => absurd z e⟩
  refine ⟨sz + 1, q1, by omega, hg, ⟨hn.1, hn.2, Or.inr (Or.inl ⟨h56, hs, hs2, ha, hb, hk⟩)⟩, Or.inr (Or.inr (Or.inl ⟨h56, by show 37 ≤ sz + 1; omega, o9, u9, sz, ko, ku, l, hsz, ho.ex hg.ex, hu.ex hg.ex, ?_, hset_o (by omega) hset_s, q3⟩))⟩
  have e9 : (if landK a b n = 6 then 8 else 7) = (if nlp a b n = 1 then 8 else 7) := by
    by_cases e : nlp a b n = 1
    · rw [if_pos e, if_pos (hk.mpr e)]
    · rw [if_neg e, if_neg (fun z => e (hk.mp z))]
  show _ = some (kO (if landK a b n = 6 then 8 else 7) _)
  rw [e9]
  exact hset_s
theorem st_made {n b : Nat} {st s : Nat → Int} {h h2 : MH} {sz s9 : Nat} {r : Option MV} (hn : 1 ≤ n ∧ n ≤ 20) (hpm : isPerm s n) (hst : ∀ q, q < n → st q = s q) (hsz : 37 ≤ sz) (hb37 : 37 ≤ b) (hfr : ∀ a c, h a = some c → a < sz) (hb : h b = some (kA 0 n st)) (q : QSt b n st h sz r h2 s9) : ∃ a9 k, r = some (vR a9) ∧ sz ≤ s9 ∧ Gr h h2 ∧ isStripK s n k ∧ Th h2 a9 (k, n, s, fun _ => 0) := by
  obtain ⟨q1, q2, ps, x, y, k, rfl, q3, q4, q5⟩ := q
  have hg := ((Gr.rf h).new (kA 0 n ps) hsz (fr_none hfr (Nat.le_refl _))).new (kO (if k = 8 then 10 else 9) [vI (n : Int), vR b, vR sz, vI x, vI y]) (show 37 ≤ sz + 1 by omega) (fr_none hfr (by omega))
  have hps : isPos s ps n := pos_cong hst q3
  have hk : isStripK s n k := by
    rcases q5 with ⟨rfl, z⟩ | ⟨rfl, z⟩
    · exact ⟨Or.inr rfl, fun _ => ⟨ps, hps, z⟩, fun _ => rfl⟩
    · refine ⟨Or.inl rfl, fun e => by omega, fun ⟨p2, e1, e2⟩ => ?_⟩
      exfalso
      apply z
      intro i j hc
      exact e2 i j ((clash_cong (pos_one hpm hps e1)).mp hc)
  refine ⟨sz + 1, k, q1, by omega, hg, hk, ⟨hn.1, hn.2, Or.inr (Or.inr ⟨hk.1, hpm, hk.2⟩)⟩, Or.inr (Or.inr (Or.inr ⟨hk.1, by show 37 ≤ sz + 1; omega, b, sz, st, ps, x, y, hb37, hsz, hset_s, hg.1 _ _ hb, hset_o (by omega) hset_s, hst, hps, q4⟩))⟩
