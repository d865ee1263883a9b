/-! THE REFERENCE: tell, printed by wip/whole/gen/refS.py -/
/-- the i-th arches of n: what is left of i, the height, and the sign at p -/
def tlS (n : Nat) (i : Int) : Nat → Int × Int
  | 0 => (i, 0)
  | p + 1 => if (tlS n i p).1 < En (2 * n - p - 1) ((tlS n i p).2 + 1).toNat then ((tlS n i p).1, (tlS n i p).2 + 1) else ((tlS n i p).1 - En (2 * n - p - 1) ((tlS n i p).2 + 1).toNat, (tlS n i p).2 - 1)
def tls (n : Nat) (i : Int) (p : Nat) : Int := if (tlS n i p).1 < En (2 * n - p - 1) ((tlS n i p).2 + 1).toNat then 1 else -1
theorem tlS_inv {n : Nat} {i : Int} (h : 0 ≤ i ∧ i < En (2 * n) 0) : ∀ p : Nat, p ≤ 2 * n → 0 ≤ (tlS n i p).1 ∧ (tlS n i p).1 < En (2 * n - p) (tlS n i p).2.toNat ∧ 0 ≤ (tlS n i p).2 ∧ (tlS n i p).2 ≤ p ∧ ht (tls n i) p = (tlS n i p).2
  | 0, _ => ⟨h.1, h.2, Int.le_refl 0, Int.le_refl 0, rfl⟩
  | p + 1, hp => by
    obtain ⟨h1, h2, h3, h4, h5⟩ := tlS_inv h p (by omega)
    have e1 : tlS n i (p + 1) = if (tlS n i p).1 < En (2 * n - p - 1) ((tlS n i p).2 + 1).toNat then ((tlS n i p).1, (tlS n i p).2 + 1) else ((tlS n i p).1 - En (2 * n - p - 1) ((tlS n i p).2 + 1).toNat, (tlS n i p).2 - 1) := rfl
    have e2 : ht (tls n i) (p + 1) = ht (tls n i) p + (if 0 < tls n i p then 1 else -1) := rfl
    have e3 : tls n i p = if (tlS n i p).1 < En (2 * n - p - 1) ((tlS n i p).2 + 1).toNat then 1 else -1 := rfl
    generalize tlS n i p = L at h1 h2 h3 h4 h5 e1 e3
    obtain ⟨m, hm⟩ : ∃ m, 2 * n - p = m + 1 := ⟨2 * n - p - 1, by omega⟩
    have hm2 : 2 * n - p - 1 = m := by omega
    have hm3 : 2 * n - (p + 1) = m := by omega
    have e5 : (L.2 + 1).toNat = L.2.toNat + 1 := by omega
    rw [hm] at h2
    have e4 : En (m + 1) L.2.toNat = En m (L.2.toNat + 1) + (if 0 < L.2.toNat then En m (L.2.toNat - 1) else 0) := rfl
    rw [e4] at h2
    rw [hm2, e5] at e1 e3
    rw [hm3]
    by_cases hu : L.1 < En m (L.2.toNat + 1)
    · rw [if_pos hu] at e1 e3
      rw [e1, e2, e3, h5, if_pos (by decide)]
      refine ⟨h1, ?_, ?_, ?_, rfl⟩
      · show L.1 < En m (L.2 + 1).toNat
        rw [e5]; exact hu
      · show 0 ≤ L.2 + 1
        omega
      · show L.2 + 1 ≤ ((p + 1 : Nat) : Int)
        omega
    · rw [if_neg hu] at e1 e3
      have hz : 0 < L.2.toNat := by
        by_cases hz : 0 < L.2.toNat
        · exact hz
        · rw [if_neg hz] at h2; omega
      rw [if_pos hz] at h2
      rw [e1, e2, e3, h5, if_neg (by decide)]
      refine ⟨?_, ?_, ?_, ?_, ?_⟩
      · show 0 ≤ L.1 - En m (L.2.toNat + 1)
        omega
      · show L.1 - En m (L.2.toNat + 1) < En m (L.2 - 1).toNat
        rw [show (L.2 - 1).toNat = L.2.toNat - 1 by omega]; omega
      · show 0 ≤ L.2 - 1
        omega
      · show L.2 - 1 ≤ ((p + 1 : Nat) : Int)
        omega
      · show L.2 + -1 = L.2 - 1
        omega
theorem tls_sg (n : Nat) (i : Int) (p : Nat) : tls n i p = 1 ∨ tls n i p = -1 := by unfold tls; split <;> simp
theorem tls_arch {n : Nat} {i : Int} (h : 0 ≤ i ∧ i < En (2 * n) 0) : arch (tls n i) n := by
  refine arch_iff.mpr ⟨fun q hq => ?_, ?_⟩
  · have := tlS_inv h q hq
    omega
  · have := tlS_inv h (2 * n) (Nat.le_refl _)
    by_cases e : (tlS n i (2 * n)).2.toNat = 0
    · omega
    · have h2 := this.2.1
      rw [En_far _ _ (by omega)] at h2
      omega
def EK (k : Nat) (σ τ : SM) : Prop := (∀ j, j ≠ 19 → j ≠ 20 → j ≠ k → τ j = σ j) ∧ R_en (τ 19) (τ 20)
theorem EK.go {k : Nat} {σ τ υ : SM} (h : EK k σ τ) (g : EN τ υ) : EK k σ υ := ⟨fun j h1 h2 h3 => (g.1 j h1 h2).trans (h.1 j h1 h2 h3), Or.inr g.2⟩
theorem EK.put {k : Nat} {σ τ : SM} (hk1 : k ≠ 19) (hk2 : k ≠ 20) (h : EK k σ τ) (f : Nat → Int) : EK k σ (sset τ k f) := ⟨fun j h1 h2 h3 => (sset_n h3).trans (h.1 j h1 h2 h3), by rw [sset_n (Ne.symm hk1), sset_n (Ne.symm hk2)]; exact h.2⟩
def QTe (σ : SM) (k A n : Nat) (i : Int) (sz : Nat) : QT := fun r h s => s = sz ∧ ∃ τ, h = hM τ ∧ EK k σ τ ∧ (if 0 ≤ i ∧ i < En (2 * n) 0 then r = some (vI 1) ∧ (∀ q, q < 2 * n → τ k (A + q) = tls n i q) ∧ ∀ j, (j < A ∨ A + 2 * n ≤ j) → τ k j = σ k j else r = some (vI 0) ∧ τ k = σ k)
set_option maxRecDepth 20000 in
theorem lp_Mo_tell {k ad L : Nat} (hA : Arr k ad L) (hk1 : k ≠ 19) (hk2 : k ≠ 20) (hL : L ≤ 10000) (σ : SM) (A n : Nat) (hn : 1 ≤ n ∧ n ≤ 12) (hAL : A + 2 * n ≤ L) (i : Int) (hi : 0 ≤ i ∧ i < En (2 * n) 0) (sz : Nat) : ∀ (c p : Nat) (lf hg pp : Int) (x y : Option MV) (τ : SM), EK k σ τ → p + c = 2 * n → pp = p → (lf, hg) = tlS n i p → (∀ q, q < p → τ k (A + q) = tls n i q) → (∀ j, (j < A ∨ A + 2 * n ≤ j) → τ k j = σ k j) →
    V M_Mo_tell 1 33 [some (vR 8), some (vR ad), some (vI (A : Nat)), some (vI (n : Nat)), some (vI i), some (vI lf), some (vI hg), some (vI pp), x, y] [] (hM τ) sz 0 0 (QTe σ k A n i sz) := by
  intro c
  induction c with
  | zero =>
    intro p lf hg pp x y τ h0 hc hpp hS hv hf
    refine V.iload (pc := 33) d_Mo_tell_33 rfl ?_
    refine V.iconst (pc := 35) d_Mo_tell_35 ⟨by decide, by decide⟩ ?_
    refine V.iload_n (pc := 36) 3 d_Mo_tell_36 rfl rfl ?_
    refine V.imul (pc := 37) d_Mo_tell_37 ⟨by omega, by omega⟩ ?_
    refine V.icmp_ge (tgt := 126) (pc := 38) d_Mo_tell_38 (by decide) (fun c_38 => ?_) (fun c_38 => ?_)
    · skip
      refine V.iconst (pc := 126) d_Mo_tell_126 ⟨by decide, by decide⟩ ?_
      refine V.ret (pc := 127) (r := some (vI _)) d_Mo_tell_127 (Or.inr ⟨rfl, Or.inr rfl⟩) rfl ?_
      refine ⟨rfl, τ, rfl, h0, ?_⟩
      rw [if_pos hi]
      exact ⟨rfl, fun q hq => hv q (by omega), hf⟩
    · skip
      exfalso; omega
  | succ c ih =>
    intro p lf hg pp x y τ h0 hc hpp hS hv hf
    refine V.iload (pc := 33) d_Mo_tell_33 rfl ?_
    refine V.iconst (pc := 35) d_Mo_tell_35 ⟨by decide, by decide⟩ ?_
    refine V.iload_n (pc := 36) 3 d_Mo_tell_36 rfl rfl ?_
    refine V.imul (pc := 37) d_Mo_tell_37 ⟨by omega, by omega⟩ ?_
    refine V.icmp_ge (tgt := 126) (pc := 38) d_Mo_tell_38 (by decide) (fun c_38 => ?_) (fun c_38 => ?_)
    · skip
      exfalso; omega
    · skip
      have hiv := tlS_inv hi p (by omega)
      have hiv2 := tlS_inv hi (p + 1) (by omega)
      rw [← hS] at hiv
      dsimp only at hiv
      refine V.aload_n (pc := 41) 0 d_Mo_tell_41 rfl rfl ?_
      refine V.iconst (pc := 42) d_Mo_tell_42 ⟨by decide, by decide⟩ ?_
      refine V.iload_n (pc := 43) 3 d_Mo_tell_43 rfl rfl ?_
      refine V.imul (pc := 44) d_Mo_tell_44 ⟨by omega, by omega⟩ ?_
      refine V.iload (pc := 45) d_Mo_tell_45 rfl ?_
      refine V.isub (pc := 47) d_Mo_tell_47 ⟨by omega, by omega⟩ ?_
      refine V.iconst (pc := 48) d_Mo_tell_48 ⟨by decide, by decide⟩ ?_
      refine V.isub (pc := 49) d_Mo_tell_49 ⟨by omega, by omega⟩ ?_
      refine V.iload (pc := 50) d_Mo_tell_50 rfl ?_
      refine V.iconst (pc := 52) d_Mo_tell_52 ⟨by decide, by decide⟩ ?_
      refine V.iadd (pc := 53) d_Mo_tell_53 ⟨by omega, by omega⟩ ?_
      refine V.cV2 (pc := 54) (kc2 := 0) (ks2 := 0) ml_Mo_172 (hM_o _) (ct_Mo_endsOf τ h0.2 _ _ (by omega) (by omega) _) d_Mo_tell_54 (Nat.le_of_ble_eq_true rfl) (Nat.le_of_ble_eq_true rfl) (Nat.le_of_ble_eq_true rfl) (Nat.le_of_ble_eq_true rfl) ?_
      rintro _ _ _ ⟨rfl, rfl, t2, rfl, hE⟩
      dsimp only [Option.toList, List.cons_append, List.nil_append]
      have h0 := h0.go hE
      
      rw [show (2 * (n : Int) - pp - 1).toNat = 2 * n - p - 1 by omega]
      have hb2 := En_24 (show 2 * n - p - 1 ≤ 24 by omega) (hg + 1).toNat
      have hiv3 := (En_24 (show 2 * n - p ≤ 24 by omega) hg.toNat).2
      have e1 : tlS n i (p + 1) = if (tlS n i p).1 < En (2 * n - p - 1) ((tlS n i p).2 + 1).toNat then ((tlS n i p).1, (tlS n i p).2 + 1) else ((tlS n i p).1 - En (2 * n - p - 1) ((tlS n i p).2 + 1).toNat, (tlS n i p).2 - 1) := rfl
      rw [← hS] at e1
      dsimp only at e1
      by_cases hu : lf < En (2 * n - p - 1) (hg + 1).toNat
      · skip
        have hS2 := e1
        rw [if_pos hu] at hS2
        have hu2 : (tlS n i p).1 < En (2 * n - p - 1) ((tlS n i p).2 + 1).toNat := by rw [← hS]; exact hu
        refine V.istore (pc := 57) d_Mo_tell_57 (Nat.le_of_ble_eq_true rfl) rfl ?_
        dsimp only [put]
        refine V.iload (pc := 59) d_Mo_tell_59 rfl ?_
        refine V.iload (pc := 61) d_Mo_tell_61 rfl ?_
        refine V.icmp_ge (tgt := 70) (pc := 63) d_Mo_tell_63 (by decide) (fun c_63 => ?_) (fun c_63 => ?_)
        · skip
          exfalso; omega
        · skip
          refine V.iconst (pc := 66) d_Mo_tell_66 ⟨by decide, by decide⟩ ?_
          refine V.goto (tgt := 71) (pc := 67) d_Mo_tell_67 (by decide) ?_
          refine V.istore (pc := 71) d_Mo_tell_71 (Nat.le_of_ble_eq_true rfl) rfl ?_
          dsimp only [put]
          refine V.iload (pc := 73) d_Mo_tell_73 rfl ?_
          refine V.iload (pc := 75) d_Mo_tell_75 rfl ?_
          refine V.if_eq (tgt := 84) (pc := 77) d_Mo_tell_77 (by decide) (fun c_77 => ?_) (fun c_77 => ?_)
          · skip
            exact absurd c_77 (by decide)
          · skip
            refine V.iconst (pc := 80) d_Mo_tell_80 ⟨by decide, by decide⟩ ?_
            refine V.goto (tgt := 86) (pc := 81) d_Mo_tell_81 (by decide) ?_
            refine V.isub (pc := 86) d_Mo_tell_86 ⟨by omega, by omega⟩ ?_
            refine V.istore (pc := 87) d_Mo_tell_87 (Nat.le_of_ble_eq_true rfl) rfl ?_
            dsimp only [put]
            refine V.iload (pc := 89) d_Mo_tell_89 rfl ?_
            refine V.iload (pc := 91) d_Mo_tell_91 rfl ?_
            refine V.if_eq (tgt := 100) (pc := 93) d_Mo_tell_93 (by decide) (fun c_93 => ?_) (fun c_93 => ?_)
            · skip
              exact absurd c_93 (by decide)
            · skip
              refine V.iconst (pc := 96) d_Mo_tell_96 ⟨by decide, by decide⟩ ?_
              refine V.goto (tgt := 101) (pc := 97) d_Mo_tell_97 (by decide) ?_
              refine V.iadd (pc := 101) d_Mo_tell_101 ⟨by omega, by omega⟩ ?_
              refine V.istore (pc := 102) d_Mo_tell_102 (Nat.le_of_ble_eq_true rfl) rfl ?_
              dsimp only [put]
              refine V.aload_n (pc := 104) 1 d_Mo_tell_104 rfl rfl ?_
              refine V.iload_n (pc := 105) 2 d_Mo_tell_105 rfl rfl ?_
              refine V.iload (pc := 106) d_Mo_tell_106 rfl ?_
              refine V.iadd (pc := 108) d_Mo_tell_108 ⟨by omega, by omega⟩ ?_
              refine V.iload (pc := 109) d_Mo_tell_109 rfl ?_
              refine V.if_eq (tgt := 118) (pc := 111) d_Mo_tell_111 (by decide) (fun c_111 => ?_) (fun c_111 => ?_)
              · skip
                exact absurd c_111 (by decide)
              · skip
                refine V.iconst (pc := 114) d_Mo_tell_114 ⟨by decide, by decide⟩ ?_
                refine V.goto (tgt := 119) (pc := 115) d_Mo_tell_115 (by decide) ?_
                refine V.iast (pc := 119) d_Mo_tell_119 (hA _).1 (by omega) (by omega) ?_
                rw [(hA _).2]
                refine V.iinc (pc := 120) d_Mo_tell_120 rfl ⟨by omega, by omega⟩ (Nat.le_of_ble_eq_true rfl) rfl ?_
                dsimp only [put]
                refine V.goto (tgt := 33) (pc := 123) d_Mo_tell_123 (by decide) ?_
                refine ih (p + 1) _ _ _ _ _ _ (h0.put hk1 hk2 _) (by omega) (by omega) ?_ (fun q hq => ?_) (fun j hj => ?_)
                · rw [hS2]; exact Prod.ext (by dsimp only <;> omega) (by dsimp only <;> omega)
                · rw [sset_e, show ((A : Int) + pp).toNat = A + p by omega]
                  by_cases e : q = p
                  · rw [e, upf_e]; unfold tls; rw [if_pos hu2]
                  · rw [upf_n (by omega), hE.1 k hk1 hk2]; exact hv q (by omega)
                · rw [sset_e, upf_n (by omega), hE.1 k hk1 hk2]; exact hf j hj
      · skip
        have hS2 := e1
        rw [if_neg hu] at hS2
        have hu2 : ¬ (tlS n i p).1 < En (2 * n - p - 1) ((tlS n i p).2 + 1).toNat := by rw [← hS]; exact hu
        refine V.istore (pc := 57) d_Mo_tell_57 (Nat.le_of_ble_eq_true rfl) rfl ?_
        dsimp only [put]
        refine V.iload (pc := 59) d_Mo_tell_59 rfl ?_
        refine V.iload (pc := 61) d_Mo_tell_61 rfl ?_
        refine V.icmp_ge (tgt := 70) (pc := 63) d_Mo_tell_63 (by decide) (fun c_63 => ?_) (fun c_63 => ?_)
        · skip
          refine V.iconst (pc := 70) d_Mo_tell_70 ⟨by decide, by decide⟩ ?_
          refine V.istore (pc := 71) d_Mo_tell_71 (Nat.le_of_ble_eq_true rfl) rfl ?_
          dsimp only [put]
          refine V.iload (pc := 73) d_Mo_tell_73 rfl ?_
          refine V.iload (pc := 75) d_Mo_tell_75 rfl ?_
          refine V.if_eq (tgt := 84) (pc := 77) d_Mo_tell_77 (by decide) (fun c_77 => ?_) (fun c_77 => ?_)
          · skip
            refine V.iload (pc := 84) d_Mo_tell_84 rfl ?_
            refine V.isub (pc := 86) d_Mo_tell_86 ⟨by omega, by omega⟩ ?_
            refine V.istore (pc := 87) d_Mo_tell_87 (Nat.le_of_ble_eq_true rfl) rfl ?_
            dsimp only [put]
            refine V.iload (pc := 89) d_Mo_tell_89 rfl ?_
            refine V.iload (pc := 91) d_Mo_tell_91 rfl ?_
            refine V.if_eq (tgt := 100) (pc := 93) d_Mo_tell_93 (by decide) (fun c_93 => ?_) (fun c_93 => ?_)
            · skip
              refine V.iconst (pc := 100) d_Mo_tell_100 ⟨by decide, by decide⟩ ?_
              refine V.iadd (pc := 101) d_Mo_tell_101 ⟨by omega, by omega⟩ ?_
              refine V.istore (pc := 102) d_Mo_tell_102 (Nat.le_of_ble_eq_true rfl) rfl ?_
              dsimp only [put]
              refine V.aload_n (pc := 104) 1 d_Mo_tell_104 rfl rfl ?_
              refine V.iload_n (pc := 105) 2 d_Mo_tell_105 rfl rfl ?_
              refine V.iload (pc := 106) d_Mo_tell_106 rfl ?_
              refine V.iadd (pc := 108) d_Mo_tell_108 ⟨by omega, by omega⟩ ?_
              refine V.iload (pc := 109) d_Mo_tell_109 rfl ?_
              refine V.if_eq (tgt := 118) (pc := 111) d_Mo_tell_111 (by decide) (fun c_111 => ?_) (fun c_111 => ?_)
              · skip
                refine V.iconst (pc := 118) d_Mo_tell_118 ⟨by decide, by decide⟩ ?_
                refine V.iast (pc := 119) d_Mo_tell_119 (hA _).1 (by omega) (by omega) ?_
                rw [(hA _).2]
                refine V.iinc (pc := 120) d_Mo_tell_120 rfl ⟨by omega, by omega⟩ (Nat.le_of_ble_eq_true rfl) rfl ?_
                dsimp only [put]
                refine V.goto (tgt := 33) (pc := 123) d_Mo_tell_123 (by decide) ?_
                refine ih (p + 1) _ _ _ _ _ _ (h0.put hk1 hk2 _) (by omega) (by omega) ?_ (fun q hq => ?_) (fun j hj => ?_)
                · rw [hS2]; exact Prod.ext (by dsimp only <;> omega) (by dsimp only <;> omega)
                · rw [sset_e, show ((A : Int) + pp).toNat = A + p by omega]
                  by_cases e : q = p
                  · rw [e, upf_e]; unfold tls; rw [if_neg hu2]
                  · rw [upf_n (by omega), hE.1 k hk1 hk2]; exact hv q (by omega)
                · rw [sset_e, upf_n (by omega), hE.1 k hk1 hk2]; exact hf j hj
              · skip
                exact absurd rfl c_111
            · skip
              exact absurd rfl c_93
          · skip
            exact absurd rfl c_77
        · skip
          exfalso; omega
set_option maxRecDepth 20000 in
theorem ct_Mo_tell {k ad L : Nat} (hA : Arr k ad L) (hk1 : k ≠ 19) (hk2 : k ≠ 20) (hL : L ≤ 10000) (σ : SM) (A n : Nat) (hn : 1 ≤ n ∧ n ≤ 12) (hAL : A + 2 * n ≤ L) (i : Int) (hR : R_en (σ 19) (σ 20)) (sz : Nat) : Ct M_Mo_tell 1 0 0 [vR 8, vR ad, vI (A : Nat), vI (n : Nat), vI i] (hM σ) sz (QTe σ k A n i sz) := by
  refine Ct.of rfl (Nat.le_of_ble_eq_true rfl) ?_
  dsimp only [lsOf]
  refine V.iload (pc := 0) d_Mo_tell_0 rfl ?_
  refine V.i2l (pc := 2) d_Mo_tell_2 ?_
  refine V.lconst0 (pc := 3) d_Mo_tell_3 ?_
  refine V.aload_n (pc := 4) 0 d_Mo_tell_4 rfl rfl ?_
  refine V.iconst (pc := 5) d_Mo_tell_5 ⟨by decide, by decide⟩ ?_
  refine V.iload_n (pc := 6) 3 d_Mo_tell_6 rfl rfl ?_
  refine V.imul (pc := 7) d_Mo_tell_7 ⟨by omega, by omega⟩ ?_
  refine V.iconst (pc := 8) d_Mo_tell_8 ⟨by decide, by decide⟩ ?_
  refine V.cV2 (pc := 9) (kc2 := 0) (ks2 := 0) ml_Mo_172 (hM_o _) (ct_Mo_endsOf σ hR _ _ (by omega) (by omega) _) d_Mo_tell_9 (Nat.le_of_ble_eq_true rfl) (Nat.le_of_ble_eq_true rfl) (Nat.le_of_ble_eq_true rfl) (Nat.le_of_ble_eq_true rfl) ?_
  rintro _ _ _ ⟨rfl, rfl, t2, rfl, hE⟩
  dsimp only [Option.toList, List.cons_append, List.nil_append]
  have hb0 := En_24 (show (2 * (n : Int)).toNat ≤ 24 by omega) (0 : Int).toNat
  have e0 : En (2 * (n : Int)).toNat (0 : Int).toNat = En (2 * n) 0 := by rw [show (2 * (n : Int)).toNat = 2 * n by omega]; rfl
  rw [e0] at hb0 ⊢
  have h0 : EK k σ t2 := ⟨fun j h1 h2 _ => hE.1 j h1 h2, Or.inr hE.2⟩
  refine V.iconst (pc := 12) d_Mo_tell_12 ⟨by decide, by decide⟩ ?_
  refine V.isub (pc := 13) d_Mo_tell_13 ⟨by omega, by omega⟩ ?_
  refine V.i2l (pc := 14) d_Mo_tell_14 ?_
  refine V.cS3 (pc := 15) (kc2 := 0) (ks2 := 0) ml_Mo_102 (ct_Mo_in _ _ _ _ _) d_Mo_tell_15 (Nat.le_of_ble_eq_true rfl) (Nat.le_of_ble_eq_true rfl) (Nat.le_of_ble_eq_true rfl) (Nat.le_of_ble_eq_true rfl) ?_
  rintro _ _ _ ⟨rfl, rfl, rfl⟩
  dsimp only [Option.toList, List.cons_append, List.nil_append]
  refine V.ifB_ne (tgt := 23) (pc := 18) d_Mo_tell_18 (by decide) (fun c_18 => ?_) (fun c_18 => ?_)
  · skip
    refine V.iload (pc := 23) d_Mo_tell_23 rfl ?_
    refine V.istore (pc := 25) d_Mo_tell_25 (Nat.le_of_ble_eq_true rfl) rfl ?_
    dsimp only [put]
    refine V.iconst (pc := 27) d_Mo_tell_27 ⟨by decide, by decide⟩ ?_
    refine V.istore (pc := 28) d_Mo_tell_28 (Nat.le_of_ble_eq_true rfl) rfl ?_
    dsimp only [put]
    refine V.iconst (pc := 30) d_Mo_tell_30 ⟨by decide, by decide⟩ ?_
    refine V.istore (pc := 31) d_Mo_tell_31 (Nat.le_of_ble_eq_true rfl) rfl ?_
    dsimp only [put]
    refine V.pad ?_
    refine V.pad ?_
    exact lp_Mo_tell hA hk1 hk2 hL σ A n hn hAL i ⟨by omega, by omega⟩ _ (2 * n) 0 _ _ _ none none _ h0 (by omega) rfl rfl (fun q hq => by omega) (fun j hj => by rw [hE.1 k hk1 hk2])
  · skip
    refine V.iconst (pc := 21) d_Mo_tell_21 ⟨by decide, by decide⟩ ?_
    refine V.ret (pc := 22) (r := some (vI _)) d_Mo_tell_22 (Or.inr ⟨rfl, Or.inl rfl⟩) rfl ?_
    refine ⟨rfl, t2, rfl, h0, ?_⟩
    rw [if_neg (by omega)]
    exact ⟨rfl, hE.1 k hk1 hk2⟩
def sp_nth (S : SS) (pl n i : Int) : Int × SS := if (0 ≤ pl ∧ pl ≤ 9) ∧ (1 ≤ n ∧ n ≤ 12) then (if 0 ≤ i ∧ i < En (2 * n.toNat) 0 then (rowKind (tls n.toNat i) n.toNat, sTh S pl.toNat (some (rowKind (tls n.toNat i) n.toNat, n.toNat, tls n.toNat i, fun _ => 0))) else (-1000000, sSt S 0)) else (-1000001, S)
theorem KN.ek {σ τ υ : SM} (h : KN σ τ) (h0 : EK 6 τ υ) (h2 : ∀ j, j < 400 → υ 6 j = τ 6 j) (hR : R_en (σ 19) (σ 20)) : ∃ ρ : SM, KN ρ υ ∧ EN0 σ ρ := by
  refine ⟨sset (sset σ 19 (υ 19)) 20 (υ 20), ⟨fun j hj => ?_, fun t ht => ?_, fun j h6 h9 i hi => ?_⟩, fun j g1 g2 => ?_, ?_⟩
  · by_cases e2 : j = 20
    · rw [e2, sset_e]
    · by_cases e1 : j = 19
      · rw [e1, sset_n (by decide), sset_e]
      · rw [sset_n e2, sset_n e1, h0.1 j e1 e2 (by omega)]; exact h.1 j hj
  · rw [sset_n (by decide), sset_n (by decide), sset_n (by decide), sset_n (by decide), h0.1 4 (by decide) (by decide) (by decide), h0.1 5 (by decide) (by decide) (by decide)]; exact h.2.1 t ht
  · rw [sset_n (by omega), sset_n (by omega)]
    by_cases e : j = 6
    · rw [e, h2 i hi]; exact h.2.2 6 (by omega) (by omega) i hi
    · rw [h0.1 j (by omega) (by omega) e]; exact h.2.2 j h6 h9 i hi
  · rw [sset_n g2, sset_n g1]
  · rw [sset_n (by decide), sset_e, sset_e]; exact h0.2
set_option maxRecDepth 20000 in
theorem cs_Mo_nth (S : SS) (σ : SM) (hI : RI S σ) (pl n i : Int) (sz : Nat) : Ct M_Mo_nth 3 0 0 [vR 8, vI pl, vI n, vI i] (hM σ) sz (QS (sp_nth S pl n i) sz) := by
  refine Ct.of rfl (Nat.le_of_ble_eq_true rfl) ?_
  dsimp only [lsOf]
  refine V.iload_n (pc := 0) 1 d_Mo_nth_0 rfl rfl ?_
  refine V.cS1 (pc := 1) (kc2 := 0) (ks2 := 0) ml_Mo_152 (ct_Mo_isPlace _ _ _) d_Mo_nth_1 (Nat.le_of_ble_eq_true rfl) (Nat.le_of_ble_eq_true rfl) (Nat.le_of_ble_eq_true rfl) (Nat.le_of_ble_eq_true rfl) ?_
  rintro _ _ _ ⟨rfl, rfl, rfl⟩
  dsimp only [Option.toList, List.cons_append, List.nil_append]
  refine V.ifB_eq (tgt := 19) (pc := 4) d_Mo_nth_4 (by decide) (fun c_4 => ?_) (fun c_4 => ?_)
  · skip
    refine V.ldc (pc := 19) (-1000001) ck_Mo_112 rfl ⟨by decide, by decide⟩ d_Mo_nth_19 ?_
    refine V.ret (pc := 21) (r := some (vI _)) d_Mo_nth_21 (Or.inl rfl) rfl ?_
    exact qs_of (by unfold sp_nth; rw [if_neg (by omega)]) hI
  · skip
    refine V.iload_n (pc := 7) 2 d_Mo_nth_7 rfl rfl ?_
    refine V.i2l (pc := 8) d_Mo_nth_8 ?_
    refine V.lconst1 (pc := 9) d_Mo_nth_9 ?_
    refine V.ldc2 (pc := 10) (12) ck_Mo_175 rfl ⟨by decide, by decide⟩ d_Mo_nth_10 ?_
    refine V.cS3 (pc := 13) (kc2 := 0) (ks2 := 0) ml_Mo_102 (ct_Mo_in _ _ _ _ _) d_Mo_nth_13 (Nat.le_of_ble_eq_true rfl) (Nat.le_of_ble_eq_true rfl) (Nat.le_of_ble_eq_true rfl) (Nat.le_of_ble_eq_true rfl) ?_
    rintro _ _ _ ⟨rfl, rfl, rfl⟩
    dsimp only [Option.toList, List.cons_append, List.nil_append]
    refine V.ifB_ne (tgt := 22) (pc := 16) d_Mo_nth_16 (by decide) (fun c_16 => ?_) (fun c_16 => ?_)
    · skip
      refine V.aload_n (pc := 22) 0 d_Mo_nth_22 rfl rfl ?_
      refine V.getf (pc := 23) 5 cl_Mo fl_Mo_25_Mo d_Mo_nth_23 (hM_o _) (Nat.le_of_ble_eq_true rfl) rfl ?_
      refine V.bipush (pc := 26) d_Mo_nth_26 ⟨by decide, by decide⟩ ?_
      refine V.iload_n (pc := 28) 2 d_Mo_nth_28 rfl rfl ?_
      refine V.iast (pc := 29) d_Mo_nth_29 (ar_many _).1 (by omega) (by omega) ?_
      rw [(ar_many _).2]
      refine V.aload_n (pc := 30) 0 d_Mo_nth_30 rfl rfl ?_
      refine V.aload_n (pc := 31) 0 d_Mo_nth_31 rfl rfl ?_
      refine V.getf (pc := 32) 6 cl_Mo fl_Mo_28_Mo d_Mo_nth_32 (hM_o _) (Nat.le_of_ble_eq_true rfl) rfl ?_
      refine V.sipush (pc := 35) d_Mo_nth_35 ⟨by decide, by decide⟩ ?_
      refine V.iload_n (pc := 38) 2 d_Mo_nth_38 rfl rfl ?_
      refine V.iload_n (pc := 39) 3 d_Mo_nth_39 rfl rfl ?_
      have en : (vI n : MV) = vI (n.toNat : Int) := by rw [show ((n.toNat : Nat) : Int) = n by omega]
      rw [en]
      have e4 : (vI 400 : MV) = vI ((400 : Nat) : Int) := rfl
      rw [e4]
      refine V.cV4 (pc := 40) (kc2 := 0) (ks2 := 0) ml_Mo_177 (hM_o _) (ct_Mo_tell ar_one (by decide) (by decide) (by decide) _ 400 n.toNat (by omega) (by omega) i (by rw [sset_n (by decide), sset_n (by decide)]; exact hI.2.2.2.1) _) d_Mo_nth_40 (Nat.le_of_ble_eq_true rfl) (Nat.le_of_ble_eq_true rfl) (Nat.le_of_ble_eq_true rfl) (Nat.le_of_ble_eq_true rfl) ?_
      rintro _ _ _ ⟨rfl, τ, rfl, h0, hc⟩
      have h5 : τ 5 10 = n := by rw [h0.1 5 (by decide) (by decide) (by decide), sset_e]; exact upf_e
      by_cases hi : 0 ≤ i ∧ i < En (2 * n.toNat) 0
      · skip
        rw [if_pos hi] at hc
        obtain ⟨rfl, ho, hf⟩ := hc
        dsimp only [Option.toList, List.cons_append, List.nil_append]
        obtain ⟨ρ, hkr, hen⟩ := (KN.upd5 (KN.rf σ) n).ek h0 (fun j hj => hf j (Or.inl hj)) hI.2.2.2.1
        refine V.if_eq (tgt := 55) (pc := 43) d_Mo_nth_43 (by decide) (fun c_43 => ?_) (fun c_43 => ?_)
        · skip
          exact absurd c_43 (by decide)
        · skip
          refine V.aload_n (pc := 46) 0 d_Mo_nth_46 rfl rfl ?_
          refine V.iload_n (pc := 47) 1 d_Mo_nth_47 rfl rfl ?_
          refine V.iconst (pc := 48) d_Mo_nth_48 ⟨by decide, by decide⟩ ?_
          have epl : (vI pl : MV) = vI (pl.toNat : Int) := by rw [show ((pl.toNat : Nat) : Int) = pl by omega]
          rw [epl]
          refine V.cV2 (pc := 49) (kc2 := 0) (ks2 := 0) ml_Mo_157 (hM_o _) (ct_Mo_keepR τ pl.toNat (by omega) _ n.toNat rfl (by rw [h5]; omega) (by omega) (fun q hq => by rw [ho q (by omega)]; exact tls_sg _ _ _) _) d_Mo_nth_49 (Nat.le_of_ble_eq_true rfl) (Nat.le_of_ble_eq_true rfl) (Nat.le_of_ble_eq_true rfl) (Nat.le_of_ble_eq_true rfl) ?_
          rintro r9 h9 s9 ⟨rfl, rfl, τ2, rfl, hkp, hone⟩
          have hc9 : ∀ q, q < 2 * n.toNat → (fun q => τ 6 (400 + q)) q = tls n.toNat i q := fun q hq => ho q (by omega)
          rw [rowKind_cong hc9]
          dsimp only [Option.toList, List.cons_append, List.nil_append]
          refine V.goto (tgt := 61) (pc := 52) d_Mo_nth_52 (by decide) ?_
          refine V.ret (pc := 61) (r := some (vI _)) d_Mo_nth_61 (Or.inl rfl) rfl ?_
          refine qs_of (S2 := sTh S pl.toNat (some (rowKind (tls n.toNat i) n.toNat, n.toNat, tls n.toNat i, fun _ => 0))) (by unfold sp_nth; rw [if_pos (by omega), if_pos hi]) (RI.put ((hI.en hen).kn hkr) (by omega) hkp (R_one_row hc9 hone))
      · skip
        rw [if_neg hi] at hc
        obtain ⟨rfl, hv6⟩ := hc
        dsimp only [Option.toList, List.cons_append, List.nil_append]
        obtain ⟨ρ, hkr, hen⟩ := (KN.upd5 (KN.rf σ) n).ek h0 (fun j hj => congrFun hv6 j) hI.2.2.2.1
        refine V.if_eq (tgt := 55) (pc := 43) d_Mo_nth_43 (by decide) (fun c_43 => ?_) (fun c_43 => ?_)
        · skip
          refine V.aload_n (pc := 55) 0 d_Mo_nth_55 rfl rfl ?_
          refine V.ldc (pc := 56) (-1000000) ck_Mo_136 rfl ⟨by decide, by decide⟩ d_Mo_nth_56 ?_
          refine V.cV1 (pc := 58) (kc2 := 0) (ks2 := 0) ml_Mo_117 (hM_o _) (ct_Mo_well _ _ _) d_Mo_nth_58 (Nat.le_of_ble_eq_true rfl) (Nat.le_of_ble_eq_true rfl) (Nat.le_of_ble_eq_true rfl) (Nat.le_of_ble_eq_true rfl) ?_
          rintro _ _ _ ⟨rfl, rfl, rfl⟩
          dsimp only [Option.toList, List.cons_append, List.nil_append]
          refine V.ret (pc := 61) (r := some (vI _)) d_Mo_nth_61 (Or.inl rfl) rfl ?_
          refine qs_of (S2 := sSt S 0) (by unfold sp_nth; rw [if_pos (by omega), if_neg hi]) (((hI.en hen).kn hkr).st 0)
        · skip
          exact absurd rfl c_43
    · skip
      refine V.ldc (pc := 19) (-1000001) ck_Mo_112 rfl ⟨by decide, by decide⟩ d_Mo_nth_19 ?_
      refine V.ret (pc := 21) (r := some (vI _)) d_Mo_nth_21 (Or.inl rfl) rfl ?_
      exact qs_of (by unfold sp_nth; rw [if_neg (by omega)]) hI
