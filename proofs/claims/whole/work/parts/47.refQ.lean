/-! THE REFERENCE: rankOf, printed by wip/whole/gen/refQ.py -/
def EN0 (σ τ : SM) : Prop := (∀ j, j ≠ 19 → j ≠ 20 → τ j = σ j) ∧ R_en (τ 19) (τ 20)
theorem EN0.go {σ τ υ : SM} (h : EN0 σ τ) (g : EN τ υ) : EN0 σ υ := ⟨fun j h1 h2 => (g.1 j h1 h2).trans (h.1 j h1 h2), Or.inr g.2⟩
theorem RI.en {S : SS} {σ τ : SM} (hI : RI S σ) (h : EN0 σ τ) : RI S τ := by
  obtain ⟨h1, h2, h3, h4, h5, h6, h7⟩ := hI
  refine ⟨?_, ?_, ?_, h.2, ?_, ?_, ?_⟩
  · rw [h.1 0 (by omega) (by omega), h.1 1 (by omega) (by omega), h.1 2 (by omega) (by omega)]; exact h1
  · rw [h.1 4 (by omega) (by omega), h.1 5 (by omega) (by omega), h.1 6 (by omega) (by omega), h.1 7 (by omega) (by omega), h.1 8 (by omega) (by omega), h.1 9 (by omega) (by omega)]; exact h2
  · rw [h.1 10 (by omega) (by omega), h.1 11 (by omega) (by omega), h.1 12 (by omega) (by omega)]; exact h3
  · rw [h.1 24 (by omega) (by omega), h.1 25 (by omega) (by omega)]; exact h5
  · rw [h.1 26 (by omega) (by omega)]; exact h6
  · rw [h.1 27 (by omega) (by omega)]; exact h7
/-- the number of rows of arches ahead of a in the order: + comes first -/
def rk (a : Nat → Int) (n : Nat) : Nat → Int
  | 0 => 0
  | p + 1 => rk a n p + (if 0 < a p then 0 else En (2 * n - p - 1) (ht a p + 1).toNat)
theorem rk_rng {a : Nat → Int} {n : Nat} (hn : n ≤ 12) : ∀ p : Nat, 0 ≤ rk a n p ∧ rk a n p ≤ 16777216 * p
  | 0 => ⟨Int.le_refl 0, Int.le_refl 0⟩
  | p + 1 => by
    have h1 := rk_rng (a := a) hn p
    have h2 := En_24 (show 2 * n - p - 1 ≤ 24 by omega) (ht a p + 1).toNat
    have e : rk a n (p + 1) = rk a n p + (if 0 < a p then 0 else En (2 * n - p - 1) (ht a p + 1).toNat) := rfl
    rw [e]
    split <;> omega
theorem ht_le (a : Nat → Int) : ∀ p : Nat, ht a p ≤ p
  | 0 => Int.le_refl 0
  | p + 1 => by
    have h1 := ht_le a p
    have e : ht a (p + 1) = ht a p + (if 0 < a p then 1 else -1) := rfl
    rw [e]
    split <;> omega
def QK2 (σ : SM) (v : Int) (sz : Nat) : QT := fun r h s => s = sz ∧ r = some (vI v) ∧ ∃ τ, h = hM τ ∧ EN0 σ τ
set_option maxRecDepth 20000 in
theorem lp_Mo_rankOf {k ad L : Nat} (hA : Arr k ad L) (hk1 : k ≠ 19) (hk2 : k ≠ 20) (hL : L ≤ 10000) (σ : SM) (A n : Nat) (hn : 1 ≤ n ∧ n ≤ 12) (hAL : A + 2 * n ≤ L) (a : Nat → Int) (ha : ∀ q, q < 2 * n → σ k (A + q) = a q) (hp0 : ∀ q, q ≤ 2 * n → 0 ≤ ht a q) (sz : Nat) : ∀ (c p : Nat) (r hg pp : Int) (x : Option MV) (τ : SM), EN0 σ τ → p + c = 2 * n → pp = p → r = rk a n p → hg = ht a p →
    V M_Mo_rankOf 1 9 [some (vR 8), some (vR ad), some (vI (A : Nat)), some (vI (n : Nat)), some (vI r), some (vI hg), some (vI pp), x] [] (hM τ) sz 0 0 (QK2 σ (rk a n (2 * n)) sz) := by
  intro c
  induction c with
  | zero =>
    intro p r hg pp x τ h0 hc hpp hr hhg
    refine V.iload (pc := 9) d_Mo_rankOf_9 rfl ?_
    refine V.iconst (pc := 11) d_Mo_rankOf_11 ⟨by decide, by decide⟩ ?_
    refine V.iload_n (pc := 12) 3 d_Mo_rankOf_12 rfl rfl ?_
    refine V.imul (pc := 13) d_Mo_rankOf_13 ⟨by omega, by omega⟩ ?_
    refine V.icmp_ge (tgt := 84) (pc := 14) d_Mo_rankOf_14 (by decide) (fun c_14 => ?_) (fun c_14 => ?_)
    · skip
      refine V.iload (pc := 84) d_Mo_rankOf_84 rfl ?_
      refine V.ret (pc := 86) (r := some (vI _)) d_Mo_rankOf_86 (Or.inl rfl) rfl ?_
      exact ⟨rfl, by rw [hr, show p = 2 * n by omega], τ, rfl, h0⟩
    · skip
      exfalso; omega
  | succ c ih =>
    intro p r hg pp x τ h0 hc hpp hr hhg
    refine V.iload (pc := 9) d_Mo_rankOf_9 rfl ?_
    refine V.iconst (pc := 11) d_Mo_rankOf_11 ⟨by decide, by decide⟩ ?_
    refine V.iload_n (pc := 12) 3 d_Mo_rankOf_12 rfl rfl ?_
    refine V.imul (pc := 13) d_Mo_rankOf_13 ⟨by omega, by omega⟩ ?_
    refine V.icmp_ge (tgt := 84) (pc := 14) d_Mo_rankOf_14 (by decide) (fun c_14 => ?_) (fun c_14 => ?_)
    · skip
      exfalso; omega
    · skip
      by_cases hp : 0 < a p
      · skip
        have hrg := rk_rng (a := a) hn.2 p
        have hh1 := hp0 p (by omega)
        have hh2 := ht_le a p
        refine V.aload_n (pc := 17) 1 d_Mo_rankOf_17 rfl rfl ?_
        refine V.iload_n (pc := 18) 2 d_Mo_rankOf_18 rfl rfl ?_
        refine V.iload (pc := 19) d_Mo_rankOf_19 rfl ?_
        refine V.iadd (pc := 21) d_Mo_rankOf_21 ⟨by omega, by omega⟩ ?_
        refine V.iald (pc := 22) d_Mo_rankOf_22 (hA _).1 (by omega) (by omega) ?_
        try simp (disch := omega) only [sset_n, sset_e]
        rw [h0.1 k hk1 hk2, show ((A : Int) + pp).toNat = A + p by omega, ha p (by omega)]
        refine V.if_le (tgt := 30) (pc := 23) d_Mo_rankOf_23 (by decide) (fun c_23 => ?_) (fun c_23 => ?_)
        · skip
          exfalso; omega
        · skip
          refine V.iconst (pc := 26) d_Mo_rankOf_26 ⟨by decide, by decide⟩ ?_
          refine V.goto (tgt := 31) (pc := 27) d_Mo_rankOf_27 (by decide) ?_
          refine V.istore (pc := 31) d_Mo_rankOf_31 (Nat.le_of_ble_eq_true rfl) rfl ?_
          dsimp only [put]
          refine V.iload (pc := 33) d_Mo_rankOf_33 rfl ?_
          refine V.iload (pc := 35) d_Mo_rankOf_35 rfl ?_
          refine V.if_eq (tgt := 44) (pc := 37) d_Mo_rankOf_37 (by decide) (fun c_37 => ?_) (fun c_37 => ?_)
          · skip
            exact absurd c_37 (by decide)
          · skip
            refine V.iconst (pc := 40) d_Mo_rankOf_40 ⟨by decide, by decide⟩ ?_
            refine V.goto (tgt := 60) (pc := 41) d_Mo_rankOf_41 (by decide) ?_
            refine V.iadd (pc := 60) d_Mo_rankOf_60 ⟨by omega, by omega⟩ ?_
            refine V.istore (pc := 61) d_Mo_rankOf_61 (Nat.le_of_ble_eq_true rfl) rfl ?_
            dsimp only [put]
            refine V.iload (pc := 63) d_Mo_rankOf_63 rfl ?_
            refine V.iload (pc := 65) d_Mo_rankOf_65 rfl ?_
            refine V.if_eq (tgt := 74) (pc := 67) d_Mo_rankOf_67 (by decide) (fun c_67 => ?_) (fun c_67 => ?_)
            · skip
              exact absurd c_67 (by decide)
            · skip
              refine V.iconst (pc := 70) d_Mo_rankOf_70 ⟨by decide, by decide⟩ ?_
              refine V.goto (tgt := 75) (pc := 71) d_Mo_rankOf_71 (by decide) ?_
              refine V.iadd (pc := 75) d_Mo_rankOf_75 ⟨by omega, by omega⟩ ?_
              refine V.istore (pc := 76) d_Mo_rankOf_76 (Nat.le_of_ble_eq_true rfl) rfl ?_
              dsimp only [put]
              refine V.iinc (pc := 78) d_Mo_rankOf_78 rfl ⟨by omega, by omega⟩ (Nat.le_of_ble_eq_true rfl) rfl ?_
              dsimp only [put]
              refine V.goto (tgt := 9) (pc := 81) d_Mo_rankOf_81 (by decide) ?_
              refine ih (p + 1) _ _ _ _ _ h0 (by omega) (by omega) ?_ ?_
              · show _ = rk a n p + (if 0 < a p then 0 else En (2 * n - p - 1) (ht a p + 1).toNat)
                rw [if_pos hp, hr]
              · show _ = ht a p + (if 0 < a p then 1 else -1)
                rw [if_pos hp, hhg]
      · skip
        have hrg := rk_rng (a := a) hn.2 p
        have hh1 := hp0 p (by omega)
        have hh2 := ht_le a p
        refine V.aload_n (pc := 17) 1 d_Mo_rankOf_17 rfl rfl ?_
        refine V.iload_n (pc := 18) 2 d_Mo_rankOf_18 rfl rfl ?_
        refine V.iload (pc := 19) d_Mo_rankOf_19 rfl ?_
        refine V.iadd (pc := 21) d_Mo_rankOf_21 ⟨by omega, by omega⟩ ?_
        refine V.iald (pc := 22) d_Mo_rankOf_22 (hA _).1 (by omega) (by omega) ?_
        try simp (disch := omega) only [sset_n, sset_e]
        rw [h0.1 k hk1 hk2, show ((A : Int) + pp).toNat = A + p by omega, ha p (by omega)]
        refine V.if_le (tgt := 30) (pc := 23) d_Mo_rankOf_23 (by decide) (fun c_23 => ?_) (fun c_23 => ?_)
        · skip
          refine V.iconst (pc := 30) d_Mo_rankOf_30 ⟨by decide, by decide⟩ ?_
          refine V.istore (pc := 31) d_Mo_rankOf_31 (Nat.le_of_ble_eq_true rfl) rfl ?_
          dsimp only [put]
          refine V.iload (pc := 33) d_Mo_rankOf_33 rfl ?_
          refine V.iload (pc := 35) d_Mo_rankOf_35 rfl ?_
          refine V.if_eq (tgt := 44) (pc := 37) d_Mo_rankOf_37 (by decide) (fun c_37 => ?_) (fun c_37 => ?_)
          · skip
            refine V.aload_n (pc := 44) 0 d_Mo_rankOf_44 rfl rfl ?_
            refine V.iconst (pc := 45) d_Mo_rankOf_45 ⟨by decide, by decide⟩ ?_
            refine V.iload_n (pc := 46) 3 d_Mo_rankOf_46 rfl rfl ?_
            refine V.imul (pc := 47) d_Mo_rankOf_47 ⟨by omega, by omega⟩ ?_
            refine V.iload (pc := 48) d_Mo_rankOf_48 rfl ?_
            refine V.isub (pc := 50) d_Mo_rankOf_50 ⟨by omega, by omega⟩ ?_
            refine V.iconst (pc := 51) d_Mo_rankOf_51 ⟨by decide, by decide⟩ ?_
            refine V.isub (pc := 52) d_Mo_rankOf_52 ⟨by omega, by omega⟩ ?_
            refine V.iload (pc := 53) d_Mo_rankOf_53 rfl ?_
            refine V.iconst (pc := 55) d_Mo_rankOf_55 ⟨by decide, by decide⟩ ?_
            refine V.iadd (pc := 56) d_Mo_rankOf_56 ⟨by omega, by omega⟩ ?_
            refine V.cV2 (pc := 57) (kc2 := 0) (ks2 := 0) ml_Mo_172 (hM_o _) (ct_Mo_endsOf τ h0.2 _ _ (by omega) (by omega) _) d_Mo_rankOf_57 (Nat.le_of_ble_eq_true rfl) (Nat.le_of_ble_eq_true rfl) (Nat.le_of_ble_eq_true rfl) (Nat.le_of_ble_eq_true rfl) ?_
            rintro _ _ _ ⟨rfl, rfl, t2, rfl, hE⟩
            dsimp only [Option.toList, List.cons_append, List.nil_append]
            have h0 := h0.go hE
            have hb2 := En_24 (show (2 * (n : Int) - pp - 1).toNat ≤ 24 by omega) (hg + 1).toNat
            refine V.iadd (pc := 60) d_Mo_rankOf_60 ⟨by omega, by omega⟩ ?_
            refine V.istore (pc := 61) d_Mo_rankOf_61 (Nat.le_of_ble_eq_true rfl) rfl ?_
            dsimp only [put]
            refine V.iload (pc := 63) d_Mo_rankOf_63 rfl ?_
            refine V.iload (pc := 65) d_Mo_rankOf_65 rfl ?_
            refine V.if_eq (tgt := 74) (pc := 67) d_Mo_rankOf_67 (by decide) (fun c_67 => ?_) (fun c_67 => ?_)
            · skip
              refine V.iconst (pc := 74) d_Mo_rankOf_74 ⟨by decide, by decide⟩ ?_
              refine V.iadd (pc := 75) d_Mo_rankOf_75 ⟨by omega, by omega⟩ ?_
              refine V.istore (pc := 76) d_Mo_rankOf_76 (Nat.le_of_ble_eq_true rfl) rfl ?_
              dsimp only [put]
              refine V.iinc (pc := 78) d_Mo_rankOf_78 rfl ⟨by omega, by omega⟩ (Nat.le_of_ble_eq_true rfl) rfl ?_
              dsimp only [put]
              refine V.goto (tgt := 9) (pc := 81) d_Mo_rankOf_81 (by decide) ?_
              refine ih (p + 1) _ _ _ _ _ h0 (by omega) (by omega) ?_ ?_
              · show _ = rk a n p + (if 0 < a p then 0 else En (2 * n - p - 1) (ht a p + 1).toNat)
                rw [if_neg hp, hr, hhg, show (2 * (n : Int) - pp - 1).toNat = 2 * n - p - 1 by omega]
              · show _ = ht a p + (if 0 < a p then 1 else -1)
                rw [if_neg hp, hhg]
            · skip
              exact absurd rfl c_67
          · skip
            exact absurd rfl c_37
        · skip
          exfalso; omega
set_option maxRecDepth 20000 in
theorem ct_Mo_rankOf {k ad L : Nat} (hA : Arr k ad L) (hk1 : k ≠ 19) (hk2 : k ≠ 20) (hL : L ≤ 10000) (σ : SM) (A n : Nat) (hn : 1 ≤ n ∧ n ≤ 12) (hAL : A + 2 * n ≤ L) (a : Nat → Int) (ha : ∀ q, q < 2 * n → σ k (A + q) = a q) (hp0 : ∀ q, q ≤ 2 * n → 0 ≤ ht a q) (hR : R_en (σ 19) (σ 20)) (sz : Nat) : Ct M_Mo_rankOf 1 0 0 [vR 8, vR ad, vI (A : Nat), vI (n : Nat)] (hM σ) sz (QK2 σ (rk a n (2 * n)) sz) := by
  refine Ct.of rfl (Nat.le_of_ble_eq_true rfl) ?_
  dsimp only [lsOf]
  refine V.iconst (pc := 0) d_Mo_rankOf_0 ⟨by decide, by decide⟩ ?_
  refine V.istore (pc := 1) d_Mo_rankOf_1 (Nat.le_of_ble_eq_true rfl) rfl ?_
  dsimp only [put]
  refine V.iconst (pc := 3) d_Mo_rankOf_3 ⟨by decide, by decide⟩ ?_
  refine V.istore (pc := 4) d_Mo_rankOf_4 (Nat.le_of_ble_eq_true rfl) rfl ?_
  dsimp only [put]
  refine V.iconst (pc := 6) d_Mo_rankOf_6 ⟨by decide, by decide⟩ ?_
  refine V.istore (pc := 7) d_Mo_rankOf_7 (Nat.le_of_ble_eq_true rfl) rfl ?_
  dsimp only [put]
  refine V.pad ?_
  exact lp_Mo_rankOf hA hk1 hk2 hL σ A n hn hAL a ha hp0 _ (2 * n) 0 0 0 0 none σ ⟨fun _ _ _ => rfl, hR⟩ (by omega) rfl rfl rfl
