/-! THE CLASS: ask, printed by wip/whole/gen/cls16.py -/
theorem i32_bm (x : Int) : i32 (x.bmod 4294967296) := by have := bm_rng x 4294967296 (by omega); unfold i32; omega
theorem bm_and {x : Nat} : Int32.ofInt ((x : Int).bmod 4294967296) &&& Int32.ofInt 127 = Int32.ofInt ((x % 128 : Nat) : Int) := by
  have e : Int32.ofInt ((x : Int).bmod 4294967296) = Int32.ofInt (x : Int) := Int32.toBitVec_inj.mp (by
    show BitVec.ofInt 32 _ = BitVec.ofInt 32 _
    apply BitVec.eq_of_toInt_eq
    rw [BitVec.toInt_ofInt, BitVec.toInt_ofInt]
    exact Int.bmod_bmod)
  rw [e, oI_n, oI_n]
  have e2 : nI x = nI (x % 4294967296) := Int32.toBitVec_inj.mp (by
    show BitVec.ofNat 32 x = BitVec.ofNat 32 (x % 4294967296)
    apply BitVec.eq_of_toNat_eq
    rw [BitVec.toNat_ofNat, BitVec.toNat_ofNat]
    show x % 4294967296 = x % 4294967296 % 4294967296
    omega)
  rw [e2, pk_andN (m := Int32.ofInt 127) (by omega) 7 rfl, show (x % 4294967296) % 2 ^ 7 = x % 128 by omega]
theorem bm_eq (x : Int) : Int32.ofInt x = Int32.ofInt (x.bmod 4294967296) := Int32.toBitVec_inj.mp (by
    show BitVec.ofInt 32 _ = BitVec.ofInt 32 _
    apply BitVec.eq_of_toInt_eq
    rw [BitVec.toInt_ofInt, BitVec.toInt_ofInt]
    exact Int.bmod_bmod.symm)
set_option maxRecDepth 20000 in
theorem cc_JL_bitCount (N : Nat) (hN : N < 1099511627776) (h : MH) (sz : Nat) : Ct M_JL_bitCount 0 0 0 [vL (N : Int)] h sz (Det (some (vI (cn (bt8 N) 40))) h sz) := by
  refine Ct.of rfl (Nat.le_of_ble_eq_true rfl) ?_
  dsimp only [lsOf]
  obtain ⟨hle, hl1, hl2, c0, c1, c2, c3, c4, hc, h3, hcn⟩ := pop3 hN
  have e2 : (2 : Nat) ^ 1 = 2 := rfl
  have e4 : (2 : Nat) ^ 2 = 4 := rfl
  have e16 : (2 : Nat) ^ 4 = 16 := rfl
  have e256 : (2 : Nat) ^ 8 = 256 := rfl
  have e65 : (2 : Nat) ^ 16 = 65536 := rfl
  have e42 : (2 : Nat) ^ 32 = 4294967296 := rfl
  refine V.lload_n (pc := 0) 0 d_JL_bitCount_0 rfl rfl ?_
  refine V.lload_n (pc := 1) 0 d_JL_bitCount_1 rfl rfl ?_
  refine V.iconst (pc := 2) d_JL_bitCount_2 ⟨by decide, by decide⟩ ?_
  refine V.lushr (pc := 3) (((N / 2 ^ 1 : Nat) : Int)) d_JL_bitCount_3 (b_ushr (k := 1) rfl (by omega) (by omega)) ?_
  rw [e2]
  refine V.ldc2 (pc := 4) (6148914691236517205) ck_JL_314 rfl ⟨by decide, by decide⟩ d_JL_bitCount_4 ?_
  have q5 : (vL 6148914691236517205 : MV) = vL ((6148914691236517205 : Nat) : Int) := rfl
  rw [q5]
  refine V.land (pc := 7) ((((N / 2) &&& 6148914691236517205 : Nat) : Int)) d_JL_bitCount_7 (b_and (by omega) (by decide)) ?_
  refine V.lsub (pc := 8) d_JL_bitCount_8 ⟨by omega, by omega⟩ ?_
  rw [show (N : Int) - (((N / 2) &&& 6148914691236517205 : Nat) : Int) = ((x1f N : Nat) : Int) by unfold x1f; omega]
  generalize ex1 : x1f N = x1 at *
  refine V.lstore_n (pc := 9) 0 d_JL_bitCount_9 rfl (Nat.le_of_ble_eq_true rfl) rfl ?_
  dsimp only [put]
  refine V.lload_n (pc := 10) 0 d_JL_bitCount_10 rfl rfl ?_
  refine V.ldc2 (pc := 11) (3689348814741910323) ck_JL_316 rfl ⟨by decide, by decide⟩ d_JL_bitCount_11 ?_
  have q3 : (vL 3689348814741910323 : MV) = vL ((3689348814741910323 : Nat) : Int) := rfl
  rw [q3]
  refine V.land (pc := 14) (((x1 &&& 3689348814741910323 : Nat) : Int)) d_JL_bitCount_14 (b_and (by omega) (by decide)) ?_
  refine V.lload_n (pc := 15) 0 d_JL_bitCount_15 rfl rfl ?_
  refine V.iconst (pc := 16) d_JL_bitCount_16 ⟨by decide, by decide⟩ ?_
  refine V.lushr (pc := 17) (((x1 / 2 ^ 2 : Nat) : Int)) d_JL_bitCount_17 (b_ushr (k := 2) rfl (by omega) (by omega)) ?_
  rw [e4]
  refine V.ldc2 (pc := 18) (3689348814741910323) ck_JL_316 rfl ⟨by decide, by decide⟩ d_JL_bitCount_18 ?_
  rw [q3]
  refine V.land (pc := 21) ((((x1 / 4) &&& 3689348814741910323 : Nat) : Int)) d_JL_bitCount_21 (b_and (by omega) (by decide)) ?_
  have hA := Nat.and_le_left (n := x1) (m := 3689348814741910323)
  have hB := Nat.and_le_left (n := x1 / 4) (m := 3689348814741910323)
  refine V.ladd (pc := 22) d_JL_bitCount_22 ⟨by omega, by omega⟩ ?_
  rw [show ((x1 &&& 3689348814741910323 : Nat) : Int) + (((x1 / 4) &&& 3689348814741910323 : Nat) : Int) = ((x2f x1 : Nat) : Int) by unfold x2f; omega]
  generalize ex2 : x2f x1 = x2 at *
  refine V.lstore_n (pc := 23) 0 d_JL_bitCount_23 rfl (Nat.le_of_ble_eq_true rfl) rfl ?_
  dsimp only [put]
  refine V.lload_n (pc := 24) 0 d_JL_bitCount_24 rfl rfl ?_
  refine V.lload_n (pc := 25) 0 d_JL_bitCount_25 rfl rfl ?_
  refine V.iconst (pc := 26) d_JL_bitCount_26 ⟨by decide, by decide⟩ ?_
  refine V.lushr (pc := 27) (((x2 / 2 ^ 4 : Nat) : Int)) d_JL_bitCount_27 (b_ushr (k := 4) rfl (by omega) (by omega)) ?_
  rw [e16]
  refine V.ladd (pc := 28) d_JL_bitCount_28 ⟨by omega, by omega⟩ ?_
  rw [show (x2 : Int) + ((x2 / 16 : Nat) : Int) = ((x2 + x2 / 16 : Nat) : Int) by omega]
  refine V.ldc2 (pc := 29) (1085102592571150095) ck_JL_318 rfl ⟨by decide, by decide⟩ d_JL_bitCount_29 ?_
  have qF : (vL 1085102592571150095 : MV) = vL ((1085102592571150095 : Nat) : Int) := rfl
  rw [qF]
  refine V.land (pc := 32) ((((x2 + x2 / 16) &&& 1085102592571150095 : Nat) : Int)) d_JL_bitCount_32 (b_and (by omega) (by decide)) ?_
  rw [show ((x2 + x2 / 16) &&& 1085102592571150095 : Nat) = x3f x2 from rfl]
  generalize x3f x2 = x3 at *
  refine V.lstore_n (pc := 33) 0 d_JL_bitCount_33 rfl (Nat.le_of_ble_eq_true rfl) rfl ?_
  dsimp only [put]
  refine V.lload_n (pc := 34) 0 d_JL_bitCount_34 rfl rfl ?_
  refine V.lload_n (pc := 35) 0 d_JL_bitCount_35 rfl rfl ?_
  refine V.bipush (pc := 36) d_JL_bitCount_36 ⟨by decide, by decide⟩ ?_
  refine V.lushr (pc := 38) (((x3 / 2 ^ 8 : Nat) : Int)) d_JL_bitCount_38 (b_ushr (k := 8) rfl (by omega) (by omega)) ?_
  rw [e256]
  refine V.ladd (pc := 39) d_JL_bitCount_39 ⟨by omega, by omega⟩ ?_
  obtain ⟨x4, hx4⟩ : ∃ x4, x4 = x3 + x3 / 256 := ⟨_, rfl⟩
  rw [show (x3 : Int) + ((x3 / 256 : Nat) : Int) = (x4 : Int) by omega]
  refine V.lstore_n (pc := 40) 0 d_JL_bitCount_40 rfl (Nat.le_of_ble_eq_true rfl) rfl ?_
  dsimp only [put]
  refine V.lload_n (pc := 41) 0 d_JL_bitCount_41 rfl rfl ?_
  refine V.lload_n (pc := 42) 0 d_JL_bitCount_42 rfl rfl ?_
  refine V.bipush (pc := 43) d_JL_bitCount_43 ⟨by decide, by decide⟩ ?_
  refine V.lushr (pc := 45) (((x4 / 2 ^ 16 : Nat) : Int)) d_JL_bitCount_45 (b_ushr (k := 16) rfl (by omega) (by omega)) ?_
  rw [e65]
  refine V.ladd (pc := 46) d_JL_bitCount_46 ⟨by omega, by omega⟩ ?_
  obtain ⟨x5, hx5⟩ : ∃ x5, x5 = x4 + x4 / 65536 := ⟨_, rfl⟩
  rw [show (x4 : Int) + ((x4 / 65536 : Nat) : Int) = (x5 : Int) by omega]
  refine V.lstore_n (pc := 47) 0 d_JL_bitCount_47 rfl (Nat.le_of_ble_eq_true rfl) rfl ?_
  dsimp only [put]
  refine V.lload_n (pc := 48) 0 d_JL_bitCount_48 rfl rfl ?_
  refine V.lload_n (pc := 49) 0 d_JL_bitCount_49 rfl rfl ?_
  refine V.bipush (pc := 50) d_JL_bitCount_50 ⟨by decide, by decide⟩ ?_
  refine V.lushr (pc := 52) (((x5 / 2 ^ 32 : Nat) : Int)) d_JL_bitCount_52 (b_ushr (k := 32) rfl (by omega) (by omega)) ?_
  rw [e42]
  refine V.ladd (pc := 53) d_JL_bitCount_53 ⟨by omega, by omega⟩ ?_
  obtain ⟨x6, hx6⟩ : ∃ x6, x6 = x5 + x5 / 4294967296 := ⟨_, rfl⟩
  rw [show (x5 : Int) + ((x5 / 4294967296 : Nat) : Int) = (x6 : Int) by omega]
  refine V.lstore_n (pc := 54) 0 d_JL_bitCount_54 rfl (Nat.le_of_ble_eq_true rfl) rfl ?_
  dsimp only [put]
  refine V.lload_n (pc := 55) 0 d_JL_bitCount_55 rfl rfl ?_
  refine V.l2iM (pc := 56) d_JL_bitCount_56 (bm_eq _) (i32_bm _) ?_
  refine V.bipush (pc := 57) d_JL_bitCount_57 ⟨by decide, by decide⟩ ?_
  refine V.iand (pc := 59) (((x6 % 128 : Nat) : Int)) d_JL_bitCount_59 (fun _ _ => ⟨bm_and, n32 (by omega)⟩) ?_
  have key : x6 % 128 = c0 + c1 + c2 + c3 + c4 := by
    clear hA hB hl1 hl2 hle
    have hx3d : x3 / 256 = c1 + 256 * (c2 + 256 * (c3 + 256 * c4)) := by omega
    have g4 : x4 = (c0 + c1) + 256 * (c1 + c2) + 65536 * ((c2 + c3) + 256 * (c3 + c4) + 65536 * c4) := by omega
    have d4 : x4 / 65536 = (c2 + c3) + 256 * (c3 + c4) + 65536 * c4 := by omega
    have g5 : x5 = (c0 + c1 + c2 + c3) + 256 * (c1 + c2 + c3 + c4) + 65536 * (c2 + c3 + c4) + 16777216 * (c3 + c4) + 4294967296 * c4 := by omega
    have d5 : x5 / 4294967296 = c4 := by omega
    have g6 : x6 = (c0 + c1 + c2 + c3 + c4) + 128 * (2 * (c1 + c2 + c3 + c4) + 512 * (c2 + c3 + c4) + 131072 * (c3 + c4) + 33554432 * c4) := by omega
    omega
  refine V.ret (pc := 60) (r := some (vI _)) d_JL_bitCount_60 (Or.inl rfl) rfl ?_
  rw [key, hcn]
  exact detR
