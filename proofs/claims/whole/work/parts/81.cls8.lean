/-! THE CLASS: folds sought, printed by wip/whole/gen/cls8.py -/
/-- the heap with what is tried -/
def hF (h : MH) (fs fp : Nat → Int) : MH := hset (hset h 6 (kA 0 8 fs)) 7 (kA 0 8 fp)
theorem hF_0 {h : MH} {fs fp : Nat → Int} {c : MC} (k : h 0 = some c) : hF h fs fp 0 = some c := hset_o (by decide) (hset_o (by decide) k)
theorem hF_6 {h : MH} {fs fp : Nat → Int} : hF h fs fp 6 = some (kA 0 8 fs) := hset_o (by decide) hset_s
theorem hF_7 {h : MH} {fs fp : Nat → Int} : hF h fs fp 7 = some (kA 0 8 fp) := hset_s
theorem hF_s7 {h : MH} {fs fp g : Nat → Int} : hset (hF h fs fp) 7 (kA 0 8 g) = hF h fs g := hset_tw
theorem hF_s6 {h : MH} {fs fp g : Nat → Int} : hset (hF h fs fp) 6 (kA 0 8 g) = hF h g fp := by
  funext a; unfold hF hset
  by_cases e : a = 6
  · rw [if_pos e, if_neg (by omega), if_pos e]
  · rw [if_neg e]
    by_cases e2 : a = 7
    · rw [if_pos e2, if_pos e2]
    · rw [if_neg e2, if_neg e2, if_neg e, if_neg e]
theorem hF_id {h : MH} {fs fp : Nat → Int} (h6 : h 6 = some (kA 0 8 fs)) (h7 : h 7 = some (kA 0 8 fp)) : hF h fs fp = h := by
  unfold hF
  rw [hset_id h6, hset_id h7]
theorem STF_put {n k F P s : Nat} {fs fp : Nat → Int} (hn : n ≤ 8) (hk : k < n) (hs : s < n) (h : STF n k F P fs fp) (hz : dg P s = 0) : STF n (k + 1) (Nat.lor F (Nat.shiftLeft s (Nat.mul 4 k))) (Nat.lor P (Nat.shiftLeft (Nat.succ k) (Nat.mul 4 s))) (upf fs k (s : Int)) (upf fp s (k : Int)) := by
  obtain ⟨h1, h2, h3, h4, h5⟩ := h
  have dF : ∀ j, j < 16 → dg (Nat.lor F (Nat.shiftLeft s (Nat.mul 4 k))) j = if j = k then s else dg F j := by
    intro j hj
    show dg (F ||| Nat.shiftLeft s (Nat.mul 4 k)) j = _
    rw [dg_or, dg_sh2 (by omega) (by omega) hj]
    by_cases e : j = k
    · rw [if_pos e, if_pos e, e, h5 k (Nat.le_refl k) (by omega)]; simp
    · rw [if_neg e, if_neg e]; simp
  have dP : ∀ j, j < 16 → dg (Nat.lor P (Nat.shiftLeft (Nat.succ k) (Nat.mul 4 s))) j = if j = s then k + 1 else dg P j := by
    intro j hj
    show dg (P ||| Nat.shiftLeft (k + 1) (Nat.mul 4 s)) j = _
    rw [dg_or, dg_sh2 (by omega) (by omega) hj]
    by_cases e : j = s
    · rw [if_pos e, if_pos e, e, hz]; simp
    · rw [if_neg e, if_neg e]; simp
  refine ⟨fun j hj => ?_, fun j hj => ?_, fun j hj => ?_, fun j hj => ?_, fun j hj hj2 => ?_⟩
  · rw [dF j (by omega)]
    by_cases e : j = k
    · rw [e, upf_e, if_pos rfl]
    · rw [upf_n e, if_neg e]; exact h1 j (by omega)
  · unfold plI
    rw [dP j (by omega)]
    by_cases e : j = s
    · rw [e, upf_e, if_pos rfl, if_neg (by omega)]; omega
    · rw [upf_n e, if_neg e]; exact h2 j hj
  · rw [dF j (by omega)]
    by_cases e : j = k
    · rw [if_pos e]; exact hs
    · rw [if_neg e]; exact h3 j (by omega)
  · rw [dP j (by omega)]
    by_cases e : j = s
    · rw [if_pos e]; omega
    · rw [if_neg e]; have := h4 j hj; omega
  · rw [dF j hj2, if_neg (by omega)]; exact h5 j (by omega) hj2
theorem STF_back {n k F P s : Nat} {fs fp fs2 fp2 : Nat → Int} (hn : n ≤ 8) (hk : k < n) (hs : s < n) (h : STF n k F P fs fp) (hz : dg P s = 0) (h2 : STF n (k + 1) (Nat.lor F (Nat.shiftLeft s (Nat.mul 4 k))) (Nat.lor P (Nat.shiftLeft (Nat.succ k) (Nat.mul 4 s))) fs2 fp2) : STF n k F P fs2 (upf fp2 s (-1000000)) := by
  obtain ⟨h1, h2a, h3, h4, h5⟩ := h
  obtain ⟨g1, g2, -, -, -⟩ := h2
  refine ⟨fun j hj => ?_, fun j hj => ?_, h3, h4, h5⟩
  · rw [g1 j (by omega)]
    show ((dg (F ||| Nat.shiftLeft s (Nat.mul 4 k)) j : Nat) : Int) = _
    rw [dg_or, dg_sh2 (by omega) (by omega) (by omega), if_neg (by omega)]; simp
  · by_cases e : j = s
    · rw [e, upf_e]; unfold plI; rw [if_pos hz]
    · rw [upf_n e, g2 j hj]
      unfold plI
      have e9 : dg (Nat.lor P (Nat.shiftLeft (Nat.succ k) (Nat.mul 4 s))) j = dg P j := by
        show dg (P ||| Nat.shiftLeft (k + 1) (Nat.mul 4 s)) j = _
        rw [dg_or, dg_sh2 (by omega) (by omega) (by omega), if_neg e]; simp
      rw [e9]
def QSk (n k F P : Nat) (D : List Nat) (left : Int) (h : MH) (sz : Nat) : QT := fun r h2 s => s = sz ∧ ∃ fs fp : Nat → Int, h2 = hF h fs fp ∧ ((∃ i : Nat, left = i ∧ ∃ G, D[i]? = some G ∧ r = some (vI (-1)) ∧ ∀ j, j < n → fs j = (dg G j : Int)) ∨ ((D.length : Int) ≤ left ∧ r = some (vI (left - D.length)) ∧ STF n k F P fs fp))
theorem itK_s (n k F P : Nat) (D : Nat → Nat → List Nat) (j : Nat) : itK n k F P D (j + 1) = cond (Nat.beq (dg P (n - (j + 1))) 0) (cond (clK n k F P (n - (j + 1)) 0) (cond (clK n k F P (n - (j + 1)) 1) (D (Nat.lor F (Nat.shiftLeft (n - (j + 1)) (Nat.mul 4 k))) (Nat.lor P (Nat.shiftLeft (Nat.succ k) (Nat.mul 4 (n - (j + 1))))) ++ itK n k F P D j) (itK n k F P D j)) (itK n k F P D j)) (itK n k F P D j) := rfl
set_option maxRecDepth 20000 in
theorem lq_RR_seekFold (n : Nat) (hn : 1 ≤ n ∧ n ≤ 8) (h : MH) (r k F P : Nat) (hkr : k + (r + 1) = n) (hk1 : 1 ≤ k) (left : Int) (hl : 0 ≤ left ∧ left ≤ 1000) (D : List Nat) (hrec : ∀ (F P : Nat) (left : Int) (fs fp : Nat → Int) (sz : Nat), STF n (k + 1) F P fs fp → (0 ≤ left ∧ left ≤ 1000) → Ct M_RR_seekFold (3 + r) 0 0 [vI (n : Int), vI ((k + 1 : Nat) : Int), vI left, vR 6, vR 7] (hF h fs fp) sz (QSk n (k + 1) F P (dfK n r (k + 1) F P) left h sz)) : ∀ (j stamp : Nat) (ss sl : Int) (fs fp : Nat → Int) (sz : Nat) (pre : List Nat), stamp + j = n → ss = stamp → STF n k F P fs fp → D = pre ++ itK n k F P (dfK n r (k + 1)) j → left = pre.length + sl → 0 ≤ sl →
    V M_RR_seekFold (3 + (r + 1)) 15 [some (vI (n : Int)), some (vI (k : Int)), some (vI left), some (vR 6), some (vR 7), some (vI sl), some (vI ss)] [] (hF h fs fp) sz 0 0 (QSk n k F P D left h sz) := by
  intro j
  induction j with
  | zero =>
    intro stamp ss sl fs fp sz pre hc hss hST hD hls hsl
    refine V.iload (pc := 15) d_RR_seekFold_15 rfl ?_
    refine V.iload_n (pc := 17) 0 d_RR_seekFold_17 rfl rfl ?_
    refine V.icmp_ge (tgt := 90) (pc := 18) d_RR_seekFold_18 (by decide) (fun c_18 => ?_) (fun c_18 => ?_)
    · skip
      refine V.iload (pc := 90) d_RR_seekFold_90 rfl ?_
      refine V.ret (pc := 92) (r := some (vI _)) d_RR_seekFold_92 (Or.inl rfl) rfl ?_
      have e9 : itK n k F P (dfK n r (k + 1)) 0 = [] := rfl
      rw [e9, List.append_nil] at hD
      exact ⟨rfl, fs, fp, rfl, Or.inr ⟨by rw [hD]; omega, by rw [hD]; congr 2; omega, hST⟩⟩
    · skip
      exfalso; omega
  | succ j ih =>
    intro stamp ss sl fs fp sz pre hc hss hST hD hls hsl
    refine V.iload (pc := 15) d_RR_seekFold_15 rfl ?_
    refine V.iload_n (pc := 17) 0 d_RR_seekFold_17 rfl rfl ?_
    refine V.icmp_ge (tgt := 90) (pc := 18) d_RR_seekFold_18 (by decide) (fun c_18 => ?_) (fun c_18 => ?_)
    · skip
      exfalso; omega
    · skip
      have hstj : n - (j + 1) = stamp := by omega
      have hit := itK_s n k F P (dfK n r (k + 1)) j
      rw [hstj] at hit
      have hpl := hST.2.1 stamp (by omega)
      unfold plI at hpl
      by_cases hz : dg P stamp = 0
      · skip
        rw [if_pos hz] at hpl
        rw [beq_t hz] at hit
        refine V.aload (pc := 21) d_RR_seekFold_21 rfl ?_
        refine V.iload (pc := 23) d_RR_seekFold_23 rfl ?_
        refine V.iald (pc := 25) d_RR_seekFold_25 hF_7 (by omega) (by omega) ?_
        refine V.ldc (pc := 26) (-1000000) ck_RR_117 rfl ⟨by decide, by decide⟩ d_RR_seekFold_26 ?_
        refine V.icmp_ne (tgt := 84) (pc := 28) d_RR_seekFold_28 (by decide) (fun c_28 => ?_) (fun c_28 => ?_)
        · skip
          rw [show ss.toNat = stamp by omega, hpl] at c_28; exact absurd rfl c_28
        · skip
          refine V.iload_n (pc := 31) 0 d_RR_seekFold_31 rfl rfl ?_
          refine V.iload_n (pc := 32) 1 d_RR_seekFold_32 rfl rfl ?_
          refine V.iload (pc := 33) d_RR_seekFold_33 rfl ?_
          refine V.aload_n (pc := 35) 3 d_RR_seekFold_35 rfl rfl ?_
          refine V.aload (pc := 36) d_RR_seekFold_36 rfl ?_
          have es : (vI ss : MV) = vI (stamp : Int) := by rw [hss]
          rw [es]
          refine V.cS5 (pc := 38) (kc2 := 0) (ks2 := 0) ml_RR_303 (cc_RR_fits n k F P stamp (by omega) (by omega) (by omega) fs fp hST _ hF_6 hF_7 _) d_RR_seekFold_38 (by omega) (Nat.le_of_ble_eq_true rfl) (Nat.le_of_ble_eq_true rfl) (Nat.le_of_ble_eq_true rfl) ?_
          rintro _ _ _ ⟨rfl, rfl, rfl⟩
          dsimp only [Option.toList, List.cons_append, List.nil_append]
          refine V.ifB_eq (tgt := 84) (pc := 41) d_RR_seekFold_41 (by decide) (fun c_41 => ?_) (fun c_41 => ?_)
          · skip
            refine V.iinc (pc := 84) d_RR_seekFold_84 rfl ⟨by omega, by omega⟩ (Nat.le_of_ble_eq_true rfl) rfl ?_
            dsimp only [put]
            refine V.goto (tgt := 15) (pc := 87) d_RR_seekFold_87 (by decide) ?_
            have hit2 : itK n k F P (dfK n r (k + 1)) (j + 1) = itK n k F P (dfK n r (k + 1)) j := by
              rw [hit]
              show cond (clK n k F P stamp 0) _ _ = _
              cases e0 : clK n k F P stamp 0 with
              | false => rfl
              | true =>
                show cond (clK n k F P stamp 1) _ _ = _
                cases e1 : clK n k F P stamp 1 with
                | false => rfl
                | true => exact absurd ⟨e0, e1⟩ c_41
            rw [hit2] at hD
            exact ih (stamp + 1) _ _ _ _ _ pre (by omega) (by omega) hST hD hls (by omega)
          · skip
            rw [← es]
            rw [c_41.1, c_41.2] at hit
            have hit : itK n k F P (dfK n r (k + 1)) (j + 1) = dfK n r (k + 1) (Nat.lor F (Nat.shiftLeft stamp (Nat.mul 4 k))) (Nat.lor P (Nat.shiftLeft (Nat.succ k) (Nat.mul 4 stamp))) ++ itK n k F P (dfK n r (k + 1)) j := hit
            refine V.aload_n (pc := 44) 3 d_RR_seekFold_44 rfl rfl ?_
            refine V.iload_n (pc := 45) 1 d_RR_seekFold_45 rfl rfl ?_
            refine V.iload (pc := 46) d_RR_seekFold_46 rfl ?_
            refine V.iast (pc := 48) d_RR_seekFold_48 hF_6 (by omega) (by omega) ?_
            rw [hF_s6]
            refine V.aload (pc := 49) d_RR_seekFold_49 rfl ?_
            refine V.iload (pc := 51) d_RR_seekFold_51 rfl ?_
            refine V.iload_n (pc := 53) 1 d_RR_seekFold_53 rfl rfl ?_
            refine V.iast (pc := 54) d_RR_seekFold_54 hF_7 (by omega) (by omega) ?_
            rw [hF_s7]
            refine V.iload_n (pc := 55) 0 d_RR_seekFold_55 rfl rfl ?_
            refine V.iload_n (pc := 56) 1 d_RR_seekFold_56 rfl rfl ?_
            refine V.iconst (pc := 57) d_RR_seekFold_57 ⟨by decide, by decide⟩ ?_
            refine V.iadd (pc := 58) d_RR_seekFold_58 ⟨by omega, by omega⟩ ?_
            refine V.iload (pc := 59) d_RR_seekFold_59 rfl ?_
            refine V.aload_n (pc := 61) 3 d_RR_seekFold_61 rfl rfl ?_
            refine V.aload (pc := 62) d_RR_seekFold_62 rfl ?_
            rw [show (k : Int).toNat = k by omega, show ss.toNat = stamp by omega, hss]
            have ek : (vI ((k : Int) + 1) : MV) = vI ((k + 1 : Nat) : Int) := by rw [show ((k + 1 : Nat) : Int) = (k : Int) + 1 by omega]
            rw [ek]
            refine V.cS5 (pc := 64) (kc2 := 0) (ks2 := 0) ml_RR_299 (hrec _ _ sl _ _ _ (STF_put hn.2 (by omega) (by omega) hST hz) (by omega)) d_RR_seekFold_64 (by omega) (Nat.le_of_ble_eq_true rfl) (Nat.le_of_ble_eq_true rfl) (Nat.le_of_ble_eq_true rfl) ?_
            rintro r9 _ _ ⟨rfl, fs2, fp2, rfl, hc⟩
            rcases hc with ⟨i, hi, G, hG, rfl, hgs⟩ | ⟨hlen, rfl, hST3⟩
            · skip
              dsimp only [Option.toList, List.cons_append, List.nil_append]
              refine V.istore (pc := 67) d_RR_seekFold_67 (Nat.le_of_ble_eq_true rfl) rfl ?_
              dsimp only [put]
              refine V.iload (pc := 69) d_RR_seekFold_69 rfl ?_
              refine V.if_ge (tgt := 77) (pc := 71) d_RR_seekFold_71 (by decide) (fun c_71 => ?_) (fun c_71 => ?_)
              · skip
                exfalso; omega
              · skip
                refine V.iload (pc := 74) d_RR_seekFold_74 rfl ?_
                refine V.ret (pc := 76) (r := some (vI _)) d_RR_seekFold_76 (Or.inl rfl) rfl ?_
                refine ⟨rfl, fs2, fp2, rfl, Or.inl ⟨pre.length + i, by omega, G, ?_, rfl, hgs⟩⟩
                have hil := (List.getElem?_eq_some_iff.mp hG).1
                rw [hD, hit, List.getElem?_append_right (by omega), Nat.add_sub_cancel_left, List.getElem?_append_left hil]
                exact hG
            · skip
              dsimp only [Option.toList, List.cons_append, List.nil_append]
              refine V.istore (pc := 67) d_RR_seekFold_67 (Nat.le_of_ble_eq_true rfl) rfl ?_
              dsimp only [put]
              refine V.iload (pc := 69) d_RR_seekFold_69 rfl ?_
              refine V.if_ge (tgt := 77) (pc := 71) d_RR_seekFold_71 (by decide) (fun c_71 => ?_) (fun c_71 => ?_)
              · skip
                refine V.aload (pc := 77) d_RR_seekFold_77 rfl ?_
                refine V.iload (pc := 79) d_RR_seekFold_79 rfl ?_
                refine V.ldc (pc := 81) (-1000000) ck_RR_117 rfl ⟨by decide, by decide⟩ d_RR_seekFold_81 ?_
                refine V.iast (pc := 83) d_RR_seekFold_83 hF_7 (by omega) (by omega) ?_
                rw [hF_s7]
                refine V.iinc (pc := 84) d_RR_seekFold_84 rfl ⟨by omega, by omega⟩ (Nat.le_of_ble_eq_true rfl) rfl ?_
                dsimp only [put]
                refine V.goto (tgt := 15) (pc := 87) d_RR_seekFold_87 (by decide) ?_
                try rw [show ss.toNat = stamp by omega]
                try rw [show (stamp : Int).toNat = stamp by omega]
                refine ih (stamp + 1) _ _ _ _ _ (pre ++ dfK n r (k + 1) (Nat.lor F (Nat.shiftLeft stamp (Nat.mul 4 k))) (Nat.lor P (Nat.shiftLeft (Nat.succ k) (Nat.mul 4 stamp)))) (by omega) (by omega) (STF_back hn.2 (by omega) (by omega) hST hz hST3) (by rw [hD, hit, List.append_assoc]) (by rw [List.length_append]; omega) (by omega)
              · skip
                exfalso; omega
      · skip
        rw [if_neg hz] at hpl
        rw [beq_f hz] at hit
        have hit2 : itK n k F P (dfK n r (k + 1)) (j + 1) = itK n k F P (dfK n r (k + 1)) j := hit
        rw [hit2] at hD
        refine V.aload (pc := 21) d_RR_seekFold_21 rfl ?_
        refine V.iload (pc := 23) d_RR_seekFold_23 rfl ?_
        refine V.iald (pc := 25) d_RR_seekFold_25 hF_7 (by omega) (by omega) ?_
        refine V.ldc (pc := 26) (-1000000) ck_RR_117 rfl ⟨by decide, by decide⟩ d_RR_seekFold_26 ?_
        refine V.icmp_ne (tgt := 84) (pc := 28) d_RR_seekFold_28 (by decide) (fun c_28 => ?_) (fun c_28 => ?_)
        · skip
          refine V.iinc (pc := 84) d_RR_seekFold_84 rfl ⟨by omega, by omega⟩ (Nat.le_of_ble_eq_true rfl) rfl ?_
          dsimp only [put]
          refine V.goto (tgt := 15) (pc := 87) d_RR_seekFold_87 (by decide) ?_
          exact ih (stamp + 1) _ _ _ _ _ pre (by omega) (by omega) hST hD hls (by omega)
        · skip
          rw [show ss.toNat = stamp by omega, hpl] at c_28; exfalso; omega
set_option maxRecDepth 20000 in
theorem cc_RR_seekFold (n : Nat) (hn : 1 ≤ n ∧ n ≤ 8) (h : MH) : ∀ (r k F P : Nat) (left : Int) (fs fp : Nat → Int) (sz : Nat), k + r = n → 1 ≤ k → STF n k F P fs fp → (0 ≤ left ∧ left ≤ 1000) → Ct M_RR_seekFold (3 + r) 0 0 [vI (n : Int), vI (k : Int), vI left, vR 6, vR 7] (hF h fs fp) sz (QSk n k F P (dfK n r k F P) left h sz) := by
  intro r
  induction r with
  | zero =>
    intro k F P left fs fp sz hkr hk1 hST hl
    refine Ct.of rfl (Nat.le_of_ble_eq_true rfl) ?_
    dsimp only [lsOf]
    refine V.iload_n (pc := 0) 1 d_RR_seekFold_0 rfl rfl ?_
    refine V.iload_n (pc := 1) 0 d_RR_seekFold_1 rfl rfl ?_
    refine V.icmp_lt (tgt := 9) (pc := 2) d_RR_seekFold_2 (by decide) (fun c_2 => ?_) (fun c_2 => ?_)
    · skip
      exfalso; omega
    · skip
      refine V.iload_n (pc := 5) 2 d_RR_seekFold_5 rfl rfl ?_
      refine V.iconst (pc := 6) d_RR_seekFold_6 ⟨by decide, by decide⟩ ?_
      refine V.isub (pc := 7) d_RR_seekFold_7 ⟨by omega, by omega⟩ ?_
      refine V.ret (pc := 8) (r := some (vI _)) d_RR_seekFold_8 (Or.inl rfl) rfl ?_
      refine ⟨rfl, fs, fp, rfl, ?_⟩
      by_cases e : left = 0
      · refine Or.inl ⟨0, e, F, rfl, by congr 2; omega, fun j hj => hST.1 j (by omega)⟩
      · refine Or.inr ⟨?_, rfl, hST⟩
        show (1 : Int) ≤ left
        omega
  | succ r ih =>
    intro k F P left fs fp sz hkr hk1 hST hl
    refine Ct.of rfl (Nat.le_of_ble_eq_true rfl) ?_
    dsimp only [lsOf]
    refine V.iload_n (pc := 0) 1 d_RR_seekFold_0 rfl rfl ?_
    refine V.iload_n (pc := 1) 0 d_RR_seekFold_1 rfl rfl ?_
    refine V.icmp_lt (tgt := 9) (pc := 2) d_RR_seekFold_2 (by decide) (fun c_2 => ?_) (fun c_2 => ?_)
    · skip
      refine V.iload_n (pc := 9) 2 d_RR_seekFold_9 rfl rfl ?_
      refine V.istore (pc := 10) d_RR_seekFold_10 (Nat.le_of_ble_eq_true rfl) rfl ?_
      dsimp only [put]
      refine V.iconst (pc := 12) d_RR_seekFold_12 ⟨by decide, by decide⟩ ?_
      refine V.istore (pc := 13) d_RR_seekFold_13 (Nat.le_of_ble_eq_true rfl) rfl ?_
      dsimp only [put]
      exact lq_RR_seekFold n hn h r k F P hkr hk1 left hl (dfK n (r + 1) k F P) (fun F P left fs fp sz a b => ih (k + 1) F P left fs fp sz (by omega) (by omega) a b) n 0 0 left fs fp sz [] (by omega) rfl hST rfl (by show left = ((0 : Nat) : Int) + left; omega) hl.1
    · skip
      exfalso; omega
theorem FD {n : Nat} (h1 : 1 ≤ n) (h8 : n ≤ 8) : catF n n = FLn n ∧ ∃ e : Nat, stV 3 (n - 1) = (e : Int) ∧ 1 ≤ e ∧ e ≤ 174 ∧ ∀ f, f < n → (DF n f).length = e := by
  match n, h1, h8 with
  | 1, _, _ => exact ⟨cat_1, 1, by decide +kernel, by omega, by omega, fun f hf => cal_1 ⟨f, hf⟩⟩
  | 2, _, _ => exact ⟨cat_2, 1, by decide +kernel, by omega, by omega, fun f hf => cal_2 ⟨f, hf⟩⟩
  | 3, _, _ => exact ⟨cat_3, 2, by decide +kernel, by omega, by omega, fun f hf => cal_3 ⟨f, hf⟩⟩
  | 4, _, _ => exact ⟨cat_4, 4, by decide +kernel, by omega, by omega, fun f hf => cal_4 ⟨f, hf⟩⟩
  | 5, _, _ => exact ⟨cat_5, 10, by decide +kernel, by omega, by omega, fun f hf => cal_5 ⟨f, hf⟩⟩
  | 6, _, _ => exact ⟨cat_6, 24, by decide +kernel, by omega, by omega, fun f hf => cal_6 ⟨f, hf⟩⟩
  | 7, _, _ => exact ⟨cat_7, 66, by decide +kernel, by omega, by omega, fun f hf => cal_7 ⟨f, hf⟩⟩
  | 8, _, _ => exact ⟨cat_8, 174, by decide +kernel, by omega, by omega, fun f hf => cal_8 ⟨f, hf⟩⟩
theorem catF_s (n m : Nat) : catF n (m + 1) = catF n m ++ DF n m := rfl
theorem cat_get {n e : Nat} (h : ∀ f, f < n → (DF n f).length = e) : ∀ m, m ≤ n → (catF n m).length = m * e ∧ ∀ f, f < m → ∀ l, l < e → (catF n m)[f * e + l]? = (DF n f)[l]?
  | 0, _ => ⟨by rw [Nat.zero_mul]; rfl, fun f hf => by omega⟩
  | m + 1, hm => by
    obtain ⟨h1, h2⟩ := cat_get h m (by omega)
    rw [catF_s]
    refine ⟨by rw [List.length_append, h1, h m (by omega), Nat.succ_mul], fun f hf l hl => ?_⟩
    by_cases e9 : f = m
    · rw [e9, List.getElem?_append_right (by rw [h1]; omega), h1, Nat.add_sub_cancel_left]
    · have h3 := Nat.mul_le_mul_right e (show f + 1 ≤ m by omega)
      rw [Nat.succ_mul] at h3
      rw [List.getElem?_append_left (by rw [h1]; omega)]
      exact h2 f (by omega) l hl
set_option maxRecDepth 20000 in
theorem dg_small : ∀ f j : Fin 16, dg f.val j.val = if j.val = 0 then f.val else 0 := by decide +kernel
theorem STF_one {n f : Nat} {fs g : Nat → Int} (hn : n ≤ 8) (hf : f < n) (hg : ∀ q, q < 8 → g q = -1000000) : STF n 1 f (Nat.shiftLeft 1 (Nat.mul 4 f)) (upf fs 0 (f : Int)) (upf g f 0) := by
  have d1 : ∀ j, j < 16 → dg f j = if j = 0 then f else 0 := fun j hj => dg_small ⟨f, by omega⟩ ⟨j, hj⟩
  have d2 : ∀ j, j < 16 → dg (Nat.shiftLeft 1 (Nat.mul 4 f)) j = if j = f then 1 else 0 := fun j hj => dg_sh2 (by omega) (by omega) hj
  refine ⟨fun j hj => ?_, fun j hj => ?_, fun j hj => ?_, fun j hj => ?_, fun j hj hj2 => ?_⟩
  · rw [show j = 0 by omega, upf_e, d1 0 (by omega), if_pos rfl]
  · unfold plI
    rw [d2 j (by omega)]
    by_cases e : j = f
    · rw [e, upf_e, if_pos rfl, if_neg (by omega)]; rfl
    · rw [upf_n e, if_neg e, if_pos rfl]; exact hg j (by omega)
  · rw [show j = 0 by omega, d1 0 (by omega), if_pos rfl]; exact hf
  · rw [d2 j (by omega)]; split <;> omega
  · rw [d1 j hj2, if_neg (by omega)]
def QNF (n : Nat) (i : Int) (h : MH) (sz : Nat) : QT := fun r h2 s => s = sz ∧ ((r = some (vI 0) ∧ ((FLn n).length : Int) ≤ i ∧ ∃ fs fp, h2 = hF h fs fp) ∨ (r = some (vI 1) ∧ i < (FLn n).length ∧ ∃ fs fp G, h2 = hF h fs fp ∧ (FLn n)[i.toNat]? = some G ∧ ∀ j, j < n → fs j = (dg G j : Int)))
set_option maxRecDepth 20000 in
theorem lq_RR_seekNth (n : Nat) (hn : 1 ≤ n ∧ n ≤ 8) (i : Int) (x : Int) (h : MH) (h0 : h 0 = some (oRR x)) (fs fp : Nat → Int) (sz : Nat) (e : Nat) (he : 1 ≤ e ∧ e ≤ 174) (hel : ∀ f, f < n → (DF n f).length = e) (hcat : catF n n = FLn n) : ∀ (c f : Nat) (lf ff : Int), f + c = n → ff = f → lf = i - ((f * e : Nat) : Int) → 0 ≤ lf →
    V M_RR_seekNthFold 11 14 [some (vR 0), some (vI (n : Int)), some (vI i), some (vI (e : Int)), some (vI lf), some (vI ff)] [] (hF h fs fp) sz 0 0 (QNF n i h sz) := by
  intro c
  induction c with
  | zero =>
    intro f lf ff hc hff hlf hl0
    refine V.iload (pc := 14) d_RR_seekNthFold_14 rfl ?_
    refine V.iload_n (pc := 16) 1 d_RR_seekNthFold_16 rfl rfl ?_
    refine V.icmp_ge (tgt := 38) (pc := 17) d_RR_seekNthFold_17 (by decide) (fun c_17 => ?_) (fun c_17 => ?_)
    · skip
      refine V.iload (pc := 38) d_RR_seekNthFold_38 rfl ?_
      refine V.iload_n (pc := 40) 1 d_RR_seekNthFold_40 rfl rfl ?_
      refine V.icmp_ne (tgt := 46) (pc := 41) d_RR_seekNthFold_41 (by decide) (fun c_41 => ?_) (fun c_41 => ?_)
      · skip
        exfalso; omega
      · skip
        refine V.iconst (pc := 44) d_RR_seekNthFold_44 ⟨by decide, by decide⟩ ?_
        refine V.ret (pc := 45) (r := some (vI _)) d_RR_seekNthFold_45 (Or.inr ⟨rfl, Or.inl rfl⟩) rfl ?_
        have hcg := cat_get hel n (Nat.le_refl n)
        have hL : (FLn n).length = n * e := by rw [← hcat]; exact hcg.1
        rw [show f = n by omega] at hlf
        exact ⟨rfl, Or.inl ⟨rfl, by rw [hL]; omega, fs, fp, rfl⟩⟩
    · skip
      exfalso; omega
  | succ c ih =>
    intro f lf ff hc hff hlf hl0
    refine V.iload (pc := 14) d_RR_seekNthFold_14 rfl ?_
    refine V.iload_n (pc := 16) 1 d_RR_seekNthFold_16 rfl rfl ?_
    refine V.icmp_ge (tgt := 38) (pc := 17) d_RR_seekNthFold_17 (by decide) (fun c_17 => ?_) (fun c_17 => ?_)
    · skip
      exfalso; omega
    · skip
      refine V.iload (pc := 20) d_RR_seekNthFold_20 rfl ?_
      refine V.iload_n (pc := 22) 3 d_RR_seekNthFold_22 rfl rfl ?_
      refine V.icmp_lt (tgt := 38) (pc := 23) d_RR_seekNthFold_23 (by decide) (fun c_23 => ?_) (fun c_23 => ?_)
      · skip
        refine V.iload (pc := 38) d_RR_seekNthFold_38 rfl ?_
        refine V.iload_n (pc := 40) 1 d_RR_seekNthFold_40 rfl rfl ?_
        refine V.icmp_ne (tgt := 46) (pc := 41) d_RR_seekNthFold_41 (by decide) (fun c_41 => ?_) (fun c_41 => ?_)
        · skip
          refine V.aload_n (pc := 46) 0 d_RR_seekNthFold_46 rfl rfl ?_
          refine V.getf (pc := 47) 5 cl_RR fl_RR_39_RR d_RR_seekNthFold_47 (hF_0 h0) (Nat.le_of_ble_eq_true rfl) rfl ?_
          refine V.ldc (pc := 50) (-1000000) ck_RR_117 rfl ⟨by decide, by decide⟩ d_RR_seekNthFold_50 ?_
          refine V.cS2 (pc := 52) (kc2 := 0) (ks2 := 0) ml_RR_270 (cc_JA_fill 7 0 8 _ fp _ hF_7 _ (by omega)) d_RR_seekNthFold_52 (Nat.le_of_ble_eq_true rfl) (Nat.le_of_ble_eq_true rfl) (Nat.le_of_ble_eq_true rfl) (Nat.le_of_ble_eq_true rfl) ?_
          rintro _ _ _ ⟨rfl, rfl, g, rfl, hg⟩
          dsimp only [Option.toList, List.cons_append, List.nil_append]
          rw [hF_s7]
          refine V.aload_n (pc := 55) 0 d_RR_seekNthFold_55 rfl rfl ?_
          refine V.getf (pc := 56) 4 cl_RR fl_RR_36_RR d_RR_seekNthFold_56 (hF_0 h0) (Nat.le_of_ble_eq_true rfl) rfl ?_
          refine V.iconst (pc := 59) d_RR_seekNthFold_59 ⟨by decide, by decide⟩ ?_
          refine V.iload (pc := 60) d_RR_seekNthFold_60 rfl ?_
          refine V.iast (pc := 62) d_RR_seekNthFold_62 hF_6 (by omega) (by omega) ?_
          rw [hF_s6]
          refine V.aload_n (pc := 63) 0 d_RR_seekNthFold_63 rfl rfl ?_
          refine V.getf (pc := 64) 5 cl_RR fl_RR_39_RR d_RR_seekNthFold_64 (hF_0 h0) (Nat.le_of_ble_eq_true rfl) rfl ?_
          refine V.iload (pc := 67) d_RR_seekNthFold_67 rfl ?_
          refine V.iconst (pc := 69) d_RR_seekNthFold_69 ⟨by decide, by decide⟩ ?_
          refine V.iast (pc := 70) d_RR_seekNthFold_70 hF_7 (by omega) (by omega) ?_
          rw [hF_s7]
          rw [show (0 : Int).toNat = 0 from rfl, show ff.toNat = f by omega]
          have ef : (ff : Int) = (f : Int) := hff
          rw [ef]
          refine V.iload_n (pc := 71) 1 d_RR_seekNthFold_71 rfl rfl ?_
          refine V.iconst (pc := 72) d_RR_seekNthFold_72 ⟨by decide, by decide⟩ ?_
          refine V.iload (pc := 73) d_RR_seekNthFold_73 rfl ?_
          refine V.aload_n (pc := 75) 0 d_RR_seekNthFold_75 rfl rfl ?_
          refine V.getf (pc := 76) 4 cl_RR fl_RR_36_RR d_RR_seekNthFold_76 (hF_0 h0) (Nat.le_of_ble_eq_true rfl) rfl ?_
          refine V.aload_n (pc := 79) 0 d_RR_seekNthFold_79 rfl rfl ?_
          refine V.getf (pc := 80) 5 cl_RR fl_RR_39_RR d_RR_seekNthFold_80 (hF_0 h0) (Nat.le_of_ble_eq_true rfl) rfl ?_
          have e1 : (vI 1 : MV) = vI ((1 : Nat) : Int) := rfl
          rw [e1]
          refine V.cS5 (pc := 83) (kc2 := 0) (ks2 := 0) ml_RR_299 (cc_RR_seekFold n hn h (n - 1) 1 f (Nat.shiftLeft 1 (Nat.mul 4 f)) lf _ _ _ (by omega) (by omega) (STF_one hn.2 (by omega) hg) (by omega)) d_RR_seekNthFold_83 (by omega) (Nat.le_of_ble_eq_true rfl) (Nat.le_of_ble_eq_true rfl) (Nat.le_of_ble_eq_true rfl) ?_
          rintro r9 _ _ ⟨rfl, fs2, fp2, rfl, hc⟩
          rcases hc with ⟨l, hl, G, hG, rfl, hgs⟩ | ⟨hlen, rfl, hST3⟩
          rotate_left
          · have hlen2 := hel f (by omega)
            have hlen3 : ((DF n f).length : Int) ≤ lf := hlen
            exfalso; omega
          dsimp only [Option.toList, List.cons_append, List.nil_append]
          refine V.if_ge (tgt := 93) (pc := 86) d_RR_seekNthFold_86 (by decide) (fun c_86 => ?_) (fun c_86 => ?_)
          · skip
            exfalso; omega
          · skip
            refine V.iconst (pc := 89) d_RR_seekNthFold_89 ⟨by decide, by decide⟩ ?_
            refine V.goto (tgt := 94) (pc := 90) d_RR_seekNthFold_90 (by decide) ?_
            refine V.ret (pc := 94) (r := some (vI _)) d_RR_seekNthFold_94 (Or.inr ⟨rfl, Or.inr rfl⟩) rfl ?_
            have hcg := cat_get hel n (Nat.le_refl n)
            have h3 := Nat.mul_le_mul_right e (show f + 1 ≤ n by omega)
            rw [Nat.succ_mul] at h3
            have hL : (FLn n).length = n * e := by rw [← hcat]; exact hcg.1
            refine ⟨rfl, Or.inr ⟨rfl, by rw [hL]; omega, fs2, fp2, G, rfl, ?_, hgs⟩⟩
            rw [← hcat, show i.toNat = f * e + l by omega, hcg.2 f (by omega) l (by omega)]
            exact hG
        · skip
          exfalso; omega
      · skip
        refine V.lrng 2 rfl (fun hri => ?_)
        obtain ⟨hri1, hri2⟩ := hri
        refine V.iload (pc := 26) d_RR_seekNthFold_26 rfl ?_
        refine V.iload_n (pc := 28) 3 d_RR_seekNthFold_28 rfl rfl ?_
        refine V.isub (pc := 29) d_RR_seekNthFold_29 ⟨by omega, by omega⟩ ?_
        refine V.istore (pc := 30) d_RR_seekNthFold_30 (Nat.le_of_ble_eq_true rfl) rfl ?_
        dsimp only [put]
        refine V.iinc (pc := 32) d_RR_seekNthFold_32 rfl ⟨by omega, by omega⟩ (Nat.le_of_ble_eq_true rfl) rfl ?_
        dsimp only [put]
        refine V.goto (tgt := 14) (pc := 35) d_RR_seekNthFold_35 (by decide) ?_
        refine ih (f + 1) _ _ (by omega) (by omega) ?_ (by omega)
        rw [Nat.succ_mul]; omega
set_option maxRecDepth 20000 in
theorem cc_RR_seekNthFold (n : Nat) (hn : 1 ≤ n ∧ n ≤ 8) (i : Int) (hi : 0 ≤ i) (x : Int) (h : MH) (h0 : h 0 = some (oRR x)) (fs fp : Nat → Int) (sz : Nat) : Ct M_RR_seekNthFold 11 0 0 [vR 0, vI (n : Int), vI i] (hF h fs fp) sz (QNF n i h sz) := by
  refine Ct.of rfl (Nat.le_of_ble_eq_true rfl) ?_
  dsimp only [lsOf]
  refine V.gets (pc := 0) 3 (by decide) (by decide) fs_RR_217 d_RR_seekNthFold_0 ?_
  refine V.iload_n (pc := 3) 1 d_RR_seekNthFold_3 rfl rfl ?_
  refine V.iconst (pc := 4) d_RR_seekNthFold_4 ⟨by decide, by decide⟩ ?_
  refine V.isub (pc := 5) d_RR_seekNthFold_5 ⟨by omega, by omega⟩ ?_
  have hL3 : stL 3 = 8 := rfl
  refine V.sald (pc := 6) 3 (by decide) (by decide) d_RR_seekNthFold_6 (by omega) (by omega) ?_
  obtain ⟨hcat, e, hse, he1, he2, hel⟩ := FD hn.1 hn.2
  rw [show ((n : Int) - 1).toNat = n - 1 by omega, hse]
  refine V.istore_n (pc := 7) 3 d_RR_seekNthFold_7 rfl (Nat.le_of_ble_eq_true rfl) rfl ?_
  dsimp only [put]
  refine V.iload_n (pc := 8) 2 d_RR_seekNthFold_8 rfl rfl ?_
  refine V.istore (pc := 9) d_RR_seekNthFold_9 (Nat.le_of_ble_eq_true rfl) rfl ?_
  dsimp only [put]
  refine V.iconst (pc := 11) d_RR_seekNthFold_11 ⟨by decide, by decide⟩ ?_
  refine V.istore (pc := 12) d_RR_seekNthFold_12 (Nat.le_of_ble_eq_true rfl) rfl ?_
  dsimp only [put]
  exact lq_RR_seekNth n hn i x h h0 fs fp sz e ⟨he1, he2⟩ hel hcat n 0 _ 0 (by omega) rfl (by rw [Nat.zero_mul]; omega) hi
