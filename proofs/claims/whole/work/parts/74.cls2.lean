/-! THE CLASS: signs, arches, makings, printed by wip/whole/gen/cls2.py -/
set_option maxRecDepth 20000 in
theorem cc_RR_isPlus (N : Nat) (p : Int) (hN : N < 4611686018427387904) (hp : 0 ≤ p ∧ p < 63) (h : MH) (sz : Nat) : Ct M_RR_isPlus 0 0 0 [vL (N : Int), vI p] h sz (Det (some (vI (if N.testBit p.toNat = true then 1 else 0))) h sz) := by
  refine Ct.of rfl (Nat.le_of_ble_eq_true rfl) ?_
  dsimp only [lsOf]
  refine V.lload_n (pc := 0) 0 d_RR_isPlus_0 rfl rfl ?_
  refine V.iload_n (pc := 1) 2 d_RR_isPlus_1 rfl rfl ?_
  refine V.lshr (pc := 2) (((N / 2 ^ p.toNat : Nat) : Int)) d_RR_isPlus_2 (b_shr (by omega) (by omega) hN) ?_
  refine V.lconst1 (pc := 3) d_RR_isPlus_3 ?_
  refine V.land (pc := 4) (((N / 2 ^ p.toNat % 2 : Nat) : Int)) d_RR_isPlus_4 (b_and1 (by have := Nat.div_le_self N (2 ^ p.toNat); omega)) ?_
  refine V.lconst0 (pc := 5) d_RR_isPlus_5 ?_
  refine V.lcmp (pc := 6) d_RR_isPlus_6 ?_
  have htb := Nat.testBit_eq_decide_div_mod_eq (x := N) (i := p.toNat)
  have hm2 := Nat.mod_two_eq_zero_or_one (N / 2 ^ p.toNat)
  generalize N / 2 ^ p.toNat % 2 = z at htb hm2 ⊢
  refine V.if_eq (tgt := 14) (pc := 7) d_RR_isPlus_7 (by decide) (fun c_7 => ?_) (fun c_7 => ?_)
  · skip
    refine V.iconst (pc := 14) d_RR_isPlus_14 ⟨by decide, by decide⟩ ?_
    refine V.ret (pc := 15) (r := some (vI _)) d_RR_isPlus_15 (Or.inr ⟨rfl, by omega⟩) rfl ?_
    simp only [lc_eq, lc_ne] at *
    rw [htb]
    exact detF (by rw [decide_eq_true_eq]; omega)
  · skip
    refine V.iconst (pc := 10) d_RR_isPlus_10 ⟨by decide, by decide⟩ ?_
    refine V.goto (tgt := 15) (pc := 11) d_RR_isPlus_11 (by decide) ?_
    refine V.ret (pc := 15) (r := some (vI _)) d_RR_isPlus_15 (Or.inr ⟨rfl, by omega⟩) rfl ?_
    simp only [lc_eq, lc_ne] at *
    rw [htb]
    exact detT (by rw [decide_eq_true_eq]; omega)
set_option maxRecDepth 20000 in
theorem lq_RR_areArches (n N : Nat) (hn : 1 ≤ n ∧ n ≤ 20) (hN : N < 4611686018427387904) (a : Nat → Int) (hb : ∀ q, q < 2 * n → (N.testBit q = true ↔ 0 < a q)) (h : MH) (sz : Nat) : ∀ (c p : Nat) (op pp : Int), p + c = 2 * n → pp = p → op = ht a p → (∀ q, q ≤ p → 0 ≤ ht a q) →
    V M_RR_areArches 1 5 [some (vI (n : Nat)), some (vL (N : Int)), none, some (vI op), some (vI pp)] [] h sz 0 0 (Det (some (vI (if arch a n then 1 else 0))) h sz) := by
  intro c
  induction c with
  | zero =>
    intro p op pp hc hpp hop hh
    have hle := ht_le a p
    refine V.iload (pc := 5) d_RR_areArches_5 rfl ?_
    refine V.iconst (pc := 7) d_RR_areArches_7 ⟨by decide, by decide⟩ ?_
    refine V.iload_n (pc := 8) 0 d_RR_areArches_8 rfl rfl ?_
    refine V.imul (pc := 9) d_RR_areArches_9 ⟨by omega, by omega⟩ ?_
    refine V.icmp_ge (tgt := 42) (pc := 10) d_RR_areArches_10 (by decide) (fun c_10 => ?_) (fun c_10 => ?_)
    · skip
      refine V.iload_n (pc := 42) 3 d_RR_areArches_42 rfl rfl ?_
      refine V.if_ne (tgt := 50) (pc := 43) d_RR_areArches_43 (by decide) (fun c_43 => ?_) (fun c_43 => ?_)
      · skip
        refine V.iconst (pc := 50) d_RR_areArches_50 ⟨by decide, by decide⟩ ?_
        refine V.ret (pc := 51) (r := some (vI _)) d_RR_areArches_51 (Or.inr ⟨rfl, by omega⟩) rfl ?_
        exact detF (fun z => by have := (arch_iff.mp z).2; rw [show 2 * n = p by omega] at this; omega)
      · skip
        refine V.iconst (pc := 46) d_RR_areArches_46 ⟨by decide, by decide⟩ ?_
        refine V.goto (tgt := 51) (pc := 47) d_RR_areArches_47 (by decide) ?_
        refine V.ret (pc := 51) (r := some (vI _)) d_RR_areArches_51 (Or.inr ⟨rfl, by omega⟩) rfl ?_
        exact detT (arch_iff.mpr ⟨fun q hq => hh q (by omega), by rw [show 2 * n = p by omega]; omega⟩)
    · skip
      exfalso; omega
  | succ c ih =>
    intro p op pp hc hpp hop hh
    have hle := ht_le a p
    have hge := hh p (Nat.le_refl p)
    refine V.iload (pc := 5) d_RR_areArches_5 rfl ?_
    refine V.iconst (pc := 7) d_RR_areArches_7 ⟨by decide, by decide⟩ ?_
    refine V.iload_n (pc := 8) 0 d_RR_areArches_8 rfl rfl ?_
    refine V.imul (pc := 9) d_RR_areArches_9 ⟨by omega, by omega⟩ ?_
    refine V.icmp_ge (tgt := 42) (pc := 10) d_RR_areArches_10 (by decide) (fun c_10 => ?_) (fun c_10 => ?_)
    · skip
      exfalso; omega
    · skip
      by_cases hp : 0 < a p
      · skip
        refine V.iload_n (pc := 13) 3 d_RR_areArches_13 rfl rfl ?_
        refine V.lload_n (pc := 14) 1 d_RR_areArches_14 rfl rfl ?_
        refine V.iload (pc := 15) d_RR_areArches_15 rfl ?_
        refine V.cS2 (pc := 17) (kc2 := 0) (ks2 := 0) ml_RR_178 (cc_RR_isPlus _ _ (by omega) (by omega) _ _) d_RR_areArches_17 (Nat.le_of_ble_eq_true rfl) (Nat.le_of_ble_eq_true rfl) (Nat.le_of_ble_eq_true rfl) (Nat.le_of_ble_eq_true rfl) ?_
        rintro _ _ _ ⟨rfl, rfl, rfl⟩
        dsimp only [Option.toList, List.cons_append, List.nil_append]
        refine V.ifB_eq (tgt := 27) (pc := 20) d_RR_areArches_20 (by decide) (fun c_20 => ?_) (fun c_20 => ?_)
        · skip
          exact absurd ((hb p (by omega)).mpr hp) (by rw [show pp.toNat = p by omega] at c_20; exact c_20)
        · skip
          refine V.iconst (pc := 23) d_RR_areArches_23 ⟨by decide, by decide⟩ ?_
          refine V.goto (tgt := 28) (pc := 24) d_RR_areArches_24 (by decide) ?_
          refine V.iadd (pc := 28) d_RR_areArches_28 ⟨by omega, by omega⟩ ?_
          refine V.istore_n (pc := 29) 3 d_RR_areArches_29 rfl (Nat.le_of_ble_eq_true rfl) rfl ?_
          dsimp only [put]
          refine V.iload_n (pc := 30) 3 d_RR_areArches_30 rfl rfl ?_
          refine V.if_ge (tgt := 36) (pc := 31) d_RR_areArches_31 (by decide) (fun c_31 => ?_) (fun c_31 => ?_)
          · skip
            refine V.iinc (pc := 36) d_RR_areArches_36 rfl ⟨by omega, by omega⟩ (Nat.le_of_ble_eq_true rfl) rfl ?_
            dsimp only [put]
            refine V.goto (tgt := 5) (pc := 39) d_RR_areArches_39 (by decide) ?_
            refine ih (p + 1) _ _ (by omega) (by omega) ?_ (fun q hq => ?_)
            · show _ = ht a p + (if 0 < a p then 1 else -1)
              rw [if_pos hp]; omega
            · by_cases e : q = p + 1
              · have e2 : ht a (p + 1) = ht a p + (if 0 < a p then 1 else -1) := rfl
                rw [if_pos hp] at e2
                rw [e, e2]; omega
              · exact hh q (by omega)
          · skip
            exfalso; omega
      · skip
        refine V.iload_n (pc := 13) 3 d_RR_areArches_13 rfl rfl ?_
        refine V.lload_n (pc := 14) 1 d_RR_areArches_14 rfl rfl ?_
        refine V.iload (pc := 15) d_RR_areArches_15 rfl ?_
        refine V.cS2 (pc := 17) (kc2 := 0) (ks2 := 0) ml_RR_178 (cc_RR_isPlus _ _ (by omega) (by omega) _ _) d_RR_areArches_17 (Nat.le_of_ble_eq_true rfl) (Nat.le_of_ble_eq_true rfl) (Nat.le_of_ble_eq_true rfl) (Nat.le_of_ble_eq_true rfl) ?_
        rintro _ _ _ ⟨rfl, rfl, rfl⟩
        dsimp only [Option.toList, List.cons_append, List.nil_append]
        refine V.ifB_eq (tgt := 27) (pc := 20) d_RR_areArches_20 (by decide) (fun c_20 => ?_) (fun c_20 => ?_)
        · skip
          refine V.iconst (pc := 27) d_RR_areArches_27 ⟨by decide, by decide⟩ ?_
          refine V.iadd (pc := 28) d_RR_areArches_28 ⟨by omega, by omega⟩ ?_
          refine V.istore_n (pc := 29) 3 d_RR_areArches_29 rfl (Nat.le_of_ble_eq_true rfl) rfl ?_
          dsimp only [put]
          refine V.iload_n (pc := 30) 3 d_RR_areArches_30 rfl rfl ?_
          refine V.if_ge (tgt := 36) (pc := 31) d_RR_areArches_31 (by decide) (fun c_31 => ?_) (fun c_31 => ?_)
          · skip
            refine V.iinc (pc := 36) d_RR_areArches_36 rfl ⟨by omega, by omega⟩ (Nat.le_of_ble_eq_true rfl) rfl ?_
            dsimp only [put]
            refine V.goto (tgt := 5) (pc := 39) d_RR_areArches_39 (by decide) ?_
            refine ih (p + 1) _ _ (by omega) (by omega) ?_ (fun q hq => ?_)
            · show _ = ht a p + (if 0 < a p then 1 else -1)
              rw [if_neg hp]; omega
            · by_cases e : q = p + 1
              · have e2 : ht a (p + 1) = ht a p + (if 0 < a p then 1 else -1) := rfl
                rw [if_neg hp] at e2
                rw [e, e2]; omega
              · exact hh q (by omega)
          · skip
            refine V.iconst (pc := 34) d_RR_areArches_34 ⟨by decide, by decide⟩ ?_
            refine V.ret (pc := 35) (r := some (vI _)) d_RR_areArches_35 (Or.inr ⟨rfl, by omega⟩) rfl ?_
            exact detF (fun z => by have := (arch_iff.mp z).1 (p + 1) (by omega); have e : ht a (p + 1) = ht a p + (if 0 < a p then 1 else -1) := rfl; rw [if_neg hp] at e; omega)
        · skip
          exact absurd ((hb p (by omega)).mp (by rw [show pp.toNat = p by omega] at c_20; exact c_20)) hp
set_option maxRecDepth 20000 in
theorem cc_RR_areArches (n N : Nat) (hn : 1 ≤ n ∧ n ≤ 20) (hN : N < 4611686018427387904) (a : Nat → Int) (hb : ∀ q, q < 2 * n → (N.testBit q = true ↔ 0 < a q)) (h : MH) (sz : Nat) : Ct M_RR_areArches 1 0 0 [vI (n : Nat), vL (N : Int)] h sz (Det (some (vI (if arch a n then 1 else 0))) h sz) := by
  refine Ct.of rfl (Nat.le_of_ble_eq_true rfl) ?_
  dsimp only [lsOf]
  refine V.iconst (pc := 0) d_RR_areArches_0 ⟨by decide, by decide⟩ ?_
  refine V.istore_n (pc := 1) 3 d_RR_areArches_1 rfl (Nat.le_of_ble_eq_true rfl) rfl ?_
  dsimp only [put]
  refine V.iconst (pc := 2) d_RR_areArches_2 ⟨by decide, by decide⟩ ?_
  refine V.istore (pc := 3) d_RR_areArches_3 (Nat.le_of_ble_eq_true rfl) rfl ?_
  dsimp only [put]
  exact lq_RR_areArches n N hn hN a hb h sz (2 * n) 0 0 0 (by omega) rfl rfl (fun q hq => by rw [show q = 0 by omega]; exact Int.le_refl 0)
def hdI : List Nat → Int
  | [] => -1
  | s :: _ => s
/-- the + that are free, each telling the one ahead -/
def LKS (f : Nat → Int) : List Nat → Prop
  | [] => True
  | s :: r => f s = hdI r ∧ LKS f r
theorem LKS_upd {f : Nat → Int} {k : Nat} {x : Int} : ∀ {l : List Nat}, k ∉ l → LKS f l → LKS (upf f k x) l
  | [], _, _ => trivial
  | s :: r, hk, h => by
    have hk2 : ¬ (k = s ∨ k ∈ r) := fun z => hk (List.mem_cons.mpr z)
    exact ⟨by rw [upf_n (fun e => hk2 (Or.inl e.symm))]; exact h.1, LKS_upd (fun z => hk2 (Or.inr z)) h.2⟩
set_option maxRecDepth 20000 in
theorem lq_RR_partnersOf (n N : Nat) (hn : 1 ≤ n ∧ n ≤ 20) (hN : N < 4611686018427387904) (a : Nat → Int) (hb : ∀ q, q < 2 * n → (N.testBit q = true ↔ 0 < a q)) (ha : arch a n) (h : MH) (sz : Nat) : ∀ (c p : Nat) (lo pp : Int) (x : Option MV) (f : Nat → Int), p + c = 2 * n → pp = p → lo = hdI (stk a p) → LKS f (stk a p) → (∀ q, q < p → q ∉ stk a p → f q = jn a (fun _ => 0) p q) →
    V M_RR_partnersOf 1 12 [some (vI (n : Nat)), some (vL (N : Int)), none, some (vR sz), some (vI lo), some (vI pp), x] [] (hset h sz (kA 0 (2 * n) f)) (sz + 1) 0 0 (fun r h2 s => r = some (vR sz) ∧ s = sz + 1 ∧ ∃ f : Nat → Int, h2 = hset h sz (kA 0 (2 * n) f) ∧ ∀ q, q < 2 * n → f q = pt a n q) := by
  intro c
  induction c with
  | zero =>
    intro p lo pp x f hc hpp hlo hk hj
    refine V.iload (pc := 12) d_RR_partnersOf_12 rfl ?_
    refine V.iconst (pc := 14) d_RR_partnersOf_14 ⟨by decide, by decide⟩ ?_
    refine V.iload_n (pc := 15) 0 d_RR_partnersOf_15 rfl rfl ?_
    refine V.imul (pc := 16) d_RR_partnersOf_16 ⟨by omega, by omega⟩ ?_
    refine V.icmp_ge (tgt := 75) (pc := 17) d_RR_partnersOf_17 (by decide) (fun c_17 => ?_) (fun c_17 => ?_)
    · skip
      refine V.aload_n (pc := 75) 3 d_RR_partnersOf_75 rfl rfl ?_
      refine V.ret (pc := 76) (r := some (vR _)) d_RR_partnersOf_76 (Or.inl ⟨_, rfl⟩) rfl ?_
      refine ⟨rfl, rfl, f, rfl, fun q hq => ?_⟩
      have e := hj q (by omega) (by rw [show p = 2 * n by omega, ha.2]; exact List.not_mem_nil)
      rw [show p = 2 * n by omega] at e
      exact e
    · skip
      exfalso; omega
  | succ c ih =>
    intro p lo pp x f hc hpp hlo hk hj
    refine V.iload (pc := 12) d_RR_partnersOf_12 rfl ?_
    refine V.iconst (pc := 14) d_RR_partnersOf_14 ⟨by decide, by decide⟩ ?_
    refine V.iload_n (pc := 15) 0 d_RR_partnersOf_15 rfl rfl ?_
    refine V.imul (pc := 16) d_RR_partnersOf_16 ⟨by omega, by omega⟩ ?_
    refine V.icmp_ge (tgt := 75) (pc := 17) d_RR_partnersOf_17 (by decide) (fun c_17 => ?_) (fun c_17 => ?_)
    · skip
      exfalso; omega
    · skip
      by_cases hp : 0 < a p
      · skip
        refine V.lload_n (pc := 20) 1 d_RR_partnersOf_20 rfl rfl ?_
        refine V.iload (pc := 21) d_RR_partnersOf_21 rfl ?_
        refine V.cS2 (pc := 23) (kc2 := 0) (ks2 := 0) ml_RR_178 (cc_RR_isPlus _ _ (by omega) (by omega) _ _) d_RR_partnersOf_23 (Nat.le_of_ble_eq_true rfl) (Nat.le_of_ble_eq_true rfl) (Nat.le_of_ble_eq_true rfl) (Nat.le_of_ble_eq_true rfl) ?_
        rintro _ _ _ ⟨rfl, rfl, rfl⟩
        dsimp only [Option.toList, List.cons_append, List.nil_append]
        refine V.ifB_eq (tgt := 42) (pc := 26) d_RR_partnersOf_26 (by decide) (fun c_26 => ?_) (fun c_26 => ?_)
        · skip
          exact absurd ((hb p (by omega)).mpr hp) (by rw [show pp.toNat = p by omega] at c_26; exact c_26)
        · skip
          refine V.aload_n (pc := 29) 3 d_RR_partnersOf_29 rfl rfl ?_
          refine V.iload (pc := 30) d_RR_partnersOf_30 rfl ?_
          refine V.iload (pc := 32) d_RR_partnersOf_32 rfl ?_
          refine V.iast (pc := 34) d_RR_partnersOf_34 hset_s (by omega) (by omega) ?_
          refine V.iload (pc := 35) d_RR_partnersOf_35 rfl ?_
          refine V.istore (pc := 37) d_RR_partnersOf_37 (Nat.le_of_ble_eq_true rfl) rfl ?_
          dsimp only [put]
          refine V.goto (tgt := 69) (pc := 39) d_RR_partnersOf_39 (by decide) ?_
          refine V.iinc (pc := 69) d_RR_partnersOf_69 rfl ⟨by omega, by omega⟩ (Nat.le_of_ble_eq_true rfl) rfl ?_
          dsimp only [put]
          refine V.goto (tgt := 12) (pc := 72) d_RR_partnersOf_72 (by decide) ?_
          rw [hset_tw, show pp.toNat = p by omega]
          refine ih (p + 1) _ _ _ _ (by omega) (by omega) ?_ ?_ (fun q hq hm => ?_)
          · rw [stk_plus hp]; exact hpp
          · rw [stk_plus hp]
            refine ⟨by rw [upf_e]; exact hlo, LKS_upd (fun z => ?_) hk⟩
            have := (stk_lt z).1; omega
          · rw [stk_plus hp] at hm
            have hm2 : ¬ (q = p ∨ q ∈ stk a p) := fun z => hm (List.mem_cons.mpr z)
            rw [upf_n (fun e => hm2 (Or.inl e)), jn_plus hp]
            exact hj q (by omega) (fun z => hm2 (Or.inr z))
      · skip
        obtain ⟨s, r, hs⟩ := stk_ne ((ha.1 p (by omega)).resolve_left hp)
        have hsm : s ∈ stk a p := by rw [hs]; exact List.mem_cons_self
        have hsl := stk_lt hsm
        have hlo2 : lo = (s : Int) := by rw [hlo, hs]; rfl
        rw [hs] at hk
        have hnd := stk_nodup (a := a) p
        rw [hs] at hnd
        have hsr : s ∉ r := (List.nodup_cons.mp hnd).1
        have hpr : p ∉ r := fun z => by have := (stk_lt (show p ∈ stk a p by rw [hs]; exact List.mem_cons_of_mem _ z)).1; omega
        refine V.lload_n (pc := 20) 1 d_RR_partnersOf_20 rfl rfl ?_
        refine V.iload (pc := 21) d_RR_partnersOf_21 rfl ?_
        refine V.cS2 (pc := 23) (kc2 := 0) (ks2 := 0) ml_RR_178 (cc_RR_isPlus _ _ (by omega) (by omega) _ _) d_RR_partnersOf_23 (Nat.le_of_ble_eq_true rfl) (Nat.le_of_ble_eq_true rfl) (Nat.le_of_ble_eq_true rfl) (Nat.le_of_ble_eq_true rfl) ?_
        rintro _ _ _ ⟨rfl, rfl, rfl⟩
        dsimp only [Option.toList, List.cons_append, List.nil_append]
        refine V.ifB_eq (tgt := 42) (pc := 26) d_RR_partnersOf_26 (by decide) (fun c_26 => ?_) (fun c_26 => ?_)
        · skip
          refine V.iload (pc := 42) d_RR_partnersOf_42 rfl ?_
          refine V.if_lt (tgt := 69) (pc := 44) d_RR_partnersOf_44 (by decide) (fun c_44 => ?_) (fun c_44 => ?_)
          · skip
            exfalso; omega
          · skip
            refine V.iload (pc := 47) d_RR_partnersOf_47 rfl ?_
            refine V.istore (pc := 49) d_RR_partnersOf_49 (Nat.le_of_ble_eq_true rfl) rfl ?_
            dsimp only [put]
            refine V.aload_n (pc := 51) 3 d_RR_partnersOf_51 rfl rfl ?_
            refine V.iload (pc := 52) d_RR_partnersOf_52 rfl ?_
            refine V.iald (pc := 54) d_RR_partnersOf_54 hset_s (by omega) (by omega) ?_
            refine V.istore (pc := 55) d_RR_partnersOf_55 (Nat.le_of_ble_eq_true rfl) rfl ?_
            dsimp only [put]
            refine V.aload_n (pc := 57) 3 d_RR_partnersOf_57 rfl rfl ?_
            refine V.iload (pc := 58) d_RR_partnersOf_58 rfl ?_
            refine V.iload (pc := 60) d_RR_partnersOf_60 rfl ?_
            refine V.iast (pc := 62) d_RR_partnersOf_62 hset_s (by omega) (by omega) ?_
            refine V.aload_n (pc := 63) 3 d_RR_partnersOf_63 rfl rfl ?_
            refine V.iload (pc := 64) d_RR_partnersOf_64 rfl ?_
            refine V.iload (pc := 66) d_RR_partnersOf_66 rfl ?_
            refine V.iast (pc := 68) d_RR_partnersOf_68 hset_s (by omega) (by omega) ?_
            refine V.iinc (pc := 69) d_RR_partnersOf_69 rfl ⟨by omega, by omega⟩ (Nat.le_of_ble_eq_true rfl) rfl ?_
            dsimp only [put]
            refine V.goto (tgt := 12) (pc := 72) d_RR_partnersOf_72 (by decide) ?_
            rw [hset_tw, hset_tw, show pp.toNat = p by omega, show lo.toNat = s by omega]
            refine ih (p + 1) _ _ _ _ (by omega) (by omega) ?_ ?_ (fun q hq hm => ?_)
            · rw [stk_minus hp, hs, List.tail_cons]; exact hk.1
            · rw [stk_minus hp, hs, List.tail_cons]
              exact LKS_upd hpr (LKS_upd hsr hk.2)
            · rw [stk_minus hp, hs, List.tail_cons] at hm
              rw [jn_minus hp hs]
              by_cases e1 : q = p
              · rw [e1, upf_e, upf_n (by omega), upf_e, hlo2]
              · rw [upf_n e1]
                by_cases e2 : q = s
                · rw [e2, upf_e, upf_e, hpp]
                · rw [upf_n e2, upf_n e2, upf_n e1]
                  exact hj q (by omega) (fun z => by
                    rw [hs] at z
                    rcases List.mem_cons.mp z with z | z
                    · exact e2 z
                    · exact hm z)
        · skip
          exact absurd ((hb p (by omega)).mp (by rw [show pp.toNat = p by omega] at c_26; exact c_26)) hp
set_option maxRecDepth 20000 in
theorem cc_RR_partnersOf (n N : Nat) (hn : 1 ≤ n ∧ n ≤ 20) (hN : N < 4611686018427387904) (a : Nat → Int) (hb : ∀ q, q < 2 * n → (N.testBit q = true ↔ 0 < a q)) (ha : arch a n) (h : MH) (sz : Nat) : Ct M_RR_partnersOf 1 1 40 [vI (n : Nat), vL (N : Int)] h sz (fun r h2 s => r = some (vR sz) ∧ s = sz + 1 ∧ ∃ f : Nat → Int, h2 = hset h sz (kA 0 (2 * n) f) ∧ ∀ q, q < 2 * n → f q = pt a n q) := by
  refine Ct.of rfl (Nat.le_of_ble_eq_true rfl) ?_
  dsimp only [lsOf]
  refine V.iconst (pc := 0) d_RR_partnersOf_0 ⟨by decide, by decide⟩ ?_
  refine V.iload_n (pc := 1) 0 d_RR_partnersOf_1 rfl rfl ?_
  refine V.imul (pc := 2) d_RR_partnersOf_2 ⟨by omega, by omega⟩ ?_
  refine V.newi (pc := 3) 0 (kc2 := 0) (ks2 := 0) d_RR_partnersOf_3 (by omega) (by omega) (Nat.le_of_ble_eq_true rfl) (by omega) ?_
  refine V.astore_n (pc := 5) 3 d_RR_partnersOf_5 rfl (Nat.le_of_ble_eq_true rfl) rfl ?_
  dsimp only [put]
  refine V.iconst (pc := 6) d_RR_partnersOf_6 ⟨by decide, by decide⟩ ?_
  refine V.istore (pc := 7) d_RR_partnersOf_7 (Nat.le_of_ble_eq_true rfl) rfl ?_
  dsimp only [put]
  refine V.iconst (pc := 9) d_RR_partnersOf_9 ⟨by decide, by decide⟩ ?_
  refine V.istore (pc := 10) d_RR_partnersOf_10 (Nat.le_of_ble_eq_true rfl) rfl ?_
  dsimp only [put]
  refine V.pad ?_
  rw [show (2 * (n : Int)).toNat = 2 * n by omega]
  exact lq_RR_partnersOf n N hn hN a hb ha h sz (2 * n) 0 (-1) 0 none (fun _ => 0) (by omega) rfl rfl trivial (fun q hq => by omega)
