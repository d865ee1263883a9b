/-! THE REFERENCE: endsOf, printed by wip/whole/gen/refP.py -/
set_option maxRecDepth 20000 in
theorem tl_Mo_ends (σ τ : SM) (hE : EN σ τ) (left hgt : Int) (hl : 0 ≤ left ∧ left ≤ 24) (hh : 0 ≤ hgt ∧ hgt ≤ 25) (x3 x4 : Option MV) (sz : Nat) : V M_Mo_endsOf 0 103 [some (vR 8), some (vI left), some (vI hgt), x3, x4] [] (hM τ) sz 0 0 (QE σ (En left.toNat hgt.toNat) sz) := by
  refine V.iload_n (pc := 103) 2 d_Mo_endsOf_103 rfl rfl ?_
  refine V.if_lt (tgt := 113) (pc := 104) d_Mo_endsOf_104 (by decide) (fun c_104 => ?_) (fun c_104 => ?_)
  · skip
    exfalso; omega
  · skip
    refine V.iload_n (pc := 107) 2 d_Mo_endsOf_107 rfl rfl ?_
    refine V.bipush (pc := 108) d_Mo_endsOf_108 ⟨by decide, by decide⟩ ?_
    refine V.icmp_le (tgt := 117) (pc := 110) d_Mo_endsOf_110 (by decide) (fun c_110 => ?_) (fun c_110 => ?_)
    · skip
      refine V.aload_n (pc := 117) 0 d_Mo_endsOf_117 rfl rfl ?_
      refine V.getf (pc := 118) 19 cl_Mo fl_Mo_56_Mo d_Mo_endsOf_118 (hM_o _) (Nat.le_of_ble_eq_true rfl) rfl ?_
      refine V.bipush (pc := 121) d_Mo_endsOf_121 ⟨by decide, by decide⟩ ?_
      refine V.iload_n (pc := 123) 1 d_Mo_endsOf_123 rfl rfl ?_
      refine V.imul (pc := 124) d_Mo_endsOf_124 ⟨by omega, by omega⟩ ?_
      refine V.iload_n (pc := 125) 2 d_Mo_endsOf_125 rfl rfl ?_
      refine V.iadd (pc := 126) d_Mo_endsOf_126 ⟨by omega, by omega⟩ ?_
      refine V.iald (pc := 127) d_Mo_endsOf_127 (ar_ends _).1 (by omega) (by omega) ?_
      try simp (disch := omega) only [sset_n, sset_e]
      rw [show (26 * left + hgt).toNat = 26 * left.toNat + hgt.toNat by omega, hE.2.2 left.toNat (by omega) hgt.toNat (by omega)]
      refine V.ret (pc := 128) (r := some (vI _)) d_Mo_endsOf_128 (Or.inl rfl) rfl ?_
      exact ⟨rfl, rfl, τ, rfl, hE⟩
    · skip
      exfalso; omega
set_option maxRecDepth 20000 in
theorem lp_Mo_ends2 (σ : SM) (left hgt : Int) (hl : 0 ≤ left ∧ left ≤ 24) (hh : 0 ≤ hgt ∧ hgt ≤ 25) (sz : Nat) : ∀ (c l : Nat) (ll : Int) (e : Nat → Int) (x : Option MV), l + c = 25 → (ll = l ∧ 1 ≤ l) → (∀ y, y < l → ∀ h, h ≤ 25 → e (26 * y + h) = En y h) → (∀ j, 26 * l ≤ j → j < 650 → e j = 0) →
    V M_Mo_endsOf 0 21 [some (vR 8), some (vI left), some (vI hgt), some (vI ll), x] [] (hM (sset (sset σ 20 (fun _ => 1)) 19 e)) sz 0 0 (QE σ (En left.toNat hgt.toNat) sz) := by
  intro c
  induction c with
  | zero =>
    intro l ll e x hc hll hr hz
    obtain ⟨hll, hl1⟩ := hll
    refine V.iload_n (pc := 21) 3 d_Mo_endsOf_21 rfl rfl ?_
    refine V.bipush (pc := 22) d_Mo_endsOf_22 ⟨by decide, by decide⟩ ?_
    refine V.icmp_ge (tgt := 103) (pc := 24) d_Mo_endsOf_24 (by decide) (fun c_24 => ?_) (fun c_24 => ?_)
    · skip
      refine tl_Mo_ends σ _ ⟨fun j h1 h2 => by rw [sset_n h1, sset_n h2], rfl, fun y hy g hg => ?_⟩ left hgt hl hh _ _ sz
      exact hr y (by omega) g hg
    · skip
      exfalso; omega
  | succ c ih =>
    intro l ll e x hc hll hr hz
    obtain ⟨hll, hl1⟩ := hll
    refine V.iload_n (pc := 21) 3 d_Mo_endsOf_21 rfl rfl ?_
    refine V.bipush (pc := 22) d_Mo_endsOf_22 ⟨by decide, by decide⟩ ?_
    refine V.icmp_ge (tgt := 103) (pc := 24) d_Mo_endsOf_24 (by decide) (fun c_24 => ?_) (fun c_24 => ?_)
    · skip
      exfalso; omega
    · skip
      refine V.iconst (pc := 27) d_Mo_endsOf_27 ⟨by decide, by decide⟩ ?_
      refine V.istore (pc := 28) d_Mo_endsOf_28 (Nat.le_of_ble_eq_true rfl) rfl ?_
      dsimp only [put]
      exact lp_Mo_ends1 σ left hgt l ll hll (by omega) sz _ (fun e2 x2 g1 g2 => ih (l + 1) _ e2 x2 (by omega) (by omega) g1 (fun j h1 h2 => g2 j h1 h2)) 25 0 0 e rfl rfl hr (fun g hg => by omega) (fun j h1 h2 => hz j (by omega) h2)
set_option maxRecDepth 20000 in
theorem ct_Mo_endsOf (σ : SM) (hR : R_en (σ 19) (σ 20)) (left hgt : Int) (hl : 0 ≤ left ∧ left ≤ 24) (hh : 0 ≤ hgt ∧ hgt ≤ 25) (sz : Nat) : Ct M_Mo_endsOf 0 0 0 [vR 8, vI left, vI hgt] (hM σ) sz (QE σ (En left.toNat hgt.toNat) sz) := by
  refine Ct.of rfl (Nat.le_of_ble_eq_true rfl) ?_
  dsimp only [lsOf]
  rcases hR with ⟨hc0, hz0⟩ | ⟨hc1, ht1⟩
  · skip
    refine V.aload_n (pc := 0) 0 d_Mo_endsOf_0 rfl rfl ?_
    refine V.getf (pc := 1) 20 cl_Mo fl_Mo_168_Mo d_Mo_endsOf_1 (hM_o _) (Nat.le_of_ble_eq_true rfl) rfl ?_
    try simp (disch := omega) only [sset_n, sset_e]
    refine V.if_ne (tgt := 103) (pc := 4) d_Mo_endsOf_4 (by decide) (fun c_4 => ?_) (fun c_4 => ?_)
    · skip
      exact absurd hc0 c_4
    · skip
      refine V.aload_n (pc := 7) 0 d_Mo_endsOf_7 rfl rfl ?_
      refine V.iconst (pc := 8) d_Mo_endsOf_8 ⟨by decide, by decide⟩ ?_
      refine V.putf (pc := 9) 20 cl_Mo fl_Mo_168_Mo d_Mo_endsOf_9 (hM_o _) (Nat.le_of_ble_eq_true rfl) (Nat.le_of_ble_eq_true rfl) rfl (fun _ => ⟨rfl, rfl⟩) ?_
      rw [pu_isCounted]
      refine V.aload_n (pc := 12) 0 d_Mo_endsOf_12 rfl rfl ?_
      refine V.getf (pc := 13) 19 cl_Mo fl_Mo_56_Mo d_Mo_endsOf_13 (hM_o _) (Nat.le_of_ble_eq_true rfl) rfl ?_
      refine V.iconst (pc := 16) d_Mo_endsOf_16 ⟨by decide, by decide⟩ ?_
      refine V.iconst (pc := 17) d_Mo_endsOf_17 ⟨by decide, by decide⟩ ?_
      refine V.iast (pc := 18) d_Mo_endsOf_18 (ar_ends _).1 (by omega) (by omega) ?_
      rw [(ar_ends _).2]
      refine V.iconst (pc := 19) d_Mo_endsOf_19 ⟨by decide, by decide⟩ ?_
      refine V.istore_n (pc := 20) 3 d_Mo_endsOf_20 rfl (Nat.le_of_ble_eq_true rfl) rfl ?_
      dsimp only [put]
      refine V.pad ?_
      refine lp_Mo_ends2 σ left hgt hl hh _ 24 1 1 _ none rfl ⟨rfl, Nat.le_refl 1⟩ (fun y hy g hg => ?_) (fun j h1 h2 => ?_)
      · rw [show y = 0 by omega]
        by_cases e9 : g = 0
        · rw [e9]; exact upf_e
        · rw [En_far 0 g (by omega), show 26 * 0 + g = g by omega, upf_n (by omega)]; exact hz0 g (by omega)
      · rw [upf_n (by omega)]; exact hz0 j h2
  · skip
    refine V.aload_n (pc := 0) 0 d_Mo_endsOf_0 rfl rfl ?_
    refine V.getf (pc := 1) 20 cl_Mo fl_Mo_168_Mo d_Mo_endsOf_1 (hM_o _) (Nat.le_of_ble_eq_true rfl) rfl ?_
    try simp (disch := omega) only [sset_n, sset_e]
    refine V.if_ne (tgt := 103) (pc := 4) d_Mo_endsOf_4 (by decide) (fun c_4 => ?_) (fun c_4 => ?_)
    · skip
      refine V.pad ?_
      refine V.pad ?_
      exact tl_Mo_ends σ σ ⟨fun _ _ _ => rfl, hc1, ht1⟩ left hgt hl hh none none _
    · skip
      exact absurd (hc1.symm.trans c_4) (by decide)
