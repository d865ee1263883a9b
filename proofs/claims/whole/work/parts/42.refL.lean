/-! THE REFERENCE: mark and ask, printed by wip/whole/gen/refL.py -/
def mkV (kd : Int) (n : Nat) (a b : Nat → Int) : Int := if kd = 4 then 2 * (n + 3) + wthV 4 n a b else if isOf kd 2 then 2 * (n + 3) else if kd = 8 then n + 3 - 1 else szV kd n + 3
def mkL (kd : Int) : List Int := if kd = 4 then [32, 31, 30, 10, 21] else if isOf kd 2 then [31, 30, 10] else if kd = 8 then [33, 30, 10] else 30 :: szL kd
theorem szVn {kd : Int} (n : Int) (h : ¬ isOf kd 5) : szV kd n = n := by unfold szV; rw [if_neg h]
theorem szLn {kd : Int} (h : ¬ isOf kd 5) : szL kd = [10] := by unfold szL; rw [if_neg h]
theorem szV_rng {kd n : Int} (h : 1 ≤ n ∧ n ≤ 20) : 1 ≤ szV kd n ∧ szV kd n ≤ 40 := by unfold szV; split <;> omega
theorem wth4 (n : Nat) (a b : Nat → Int) : wthV 4 n a b = cn (nxt a n) (2 * n - 1) := rfl
theorem wthL4 : wthL 4 = [21] := rfl
set_option maxRecDepth 20000 in
theorem ct_Mo_mark (σ τ : SM) (l : List Int) (htr : TR σ τ l) (hl : l.length < 4) (t : Int) (ht : 0 ≤ t ∧ t ≤ 9) (kd : Int) (n : Nat) (a b : Nat → Int) (hone : R_one (kd, n, a, b) t.toNat (σ 4) (σ 5) (σ 6) (σ 7) (σ 8) (σ 9)) (sz : Nat) : Ct M_Mo_mark 3 0 0 [vR 8, vI t] (hM τ) sz (QZ σ (mkV kd n a b) (l ++ mkL kd) sz) := by
  obtain ⟨hw, hk, hn, h3, h4, h5, h6⟩ := id hone
  have hwk := wf_kind hw
  refine Ct.of rfl (Nat.le_of_ble_eq_true rfl) ?_
  dsimp only [lsOf]
  refine V.aload_n (pc := 0) 0 d_Mo_mark_0 rfl rfl ?_
  refine V.getf (pc := 1) 4 cl_Mo fl_Mo_22_Mo d_Mo_mark_1 (hM_o _) (Nat.le_of_ble_eq_true rfl) rfl ?_
  refine V.iload_n (pc := 4) 1 d_Mo_mark_4 rfl rfl ?_
  refine V.iald (pc := 5) d_Mo_mark_5 (ar_kinds _).1 (by omega) (by omega) ?_
  try simp (disch := omega) only [sset_n, sset_e]
  rw [htr.1 4 (by omega) (by omega) (by omega)]
  rw [hk]
  refine V.istore_n (pc := 6) 2 d_Mo_mark_6 rfl (Nat.le_of_ble_eq_true rfl) rfl ?_
  dsimp only [put]
  refine V.iload_n (pc := 7) 2 d_Mo_mark_7 rfl rfl ?_
  refine V.iconst (pc := 8) d_Mo_mark_8 ⟨by decide, by decide⟩ ?_
  refine V.cS2 (pc := 9) (kc2 := 0) (ks2 := 0) ml_Mo_161 (ct_Mo_isOf _ _ _ _) d_Mo_mark_9 (Nat.le_of_ble_eq_true rfl) (Nat.le_of_ble_eq_true rfl) (Nat.le_of_ble_eq_true rfl) (Nat.le_of_ble_eq_true rfl) ?_
  rintro _ _ _ ⟨rfl, rfl, rfl⟩
  dsimp only [Option.toList, List.cons_append, List.nil_append]
  rcases Classical.em (kd = 4) with hk4 | hk4
  rotate_left
  rcases Classical.em (isOf kd 2) with h2 | h2
  rotate_left
  rcases Classical.em (kd = 8) with h8 | h8
  · skip
    rw [if_neg h2]
    refine V.istore_n (pc := 12) 3 d_Mo_mark_12 rfl (Nat.le_of_ble_eq_true rfl) rfl ?_
    dsimp only [put]
    refine V.iload_n (pc := 13) 2 d_Mo_mark_13 rfl rfl ?_
    refine V.iconst (pc := 14) d_Mo_mark_14 ⟨by decide, by decide⟩ ?_
    refine V.icmp_ne (tgt := 24) (pc := 15) d_Mo_mark_15 (by decide) (fun c_15 => ?_) (fun c_15 => ?_)
    · skip
      refine V.iload_n (pc := 24) 3 d_Mo_mark_24 rfl rfl ?_
      refine V.if_eq (tgt := 34) (pc := 25) d_Mo_mark_25 (by decide) (fun c_25 => ?_) (fun c_25 => ?_)
      · skip
        refine V.iload_n (pc := 34) 2 d_Mo_mark_34 rfl rfl ?_
        refine V.bipush (pc := 35) d_Mo_mark_35 ⟨by decide, by decide⟩ ?_
        refine V.icmp_ne (tgt := 46) (pc := 37) d_Mo_mark_37 (by decide) (fun c_37 => ?_) (fun c_37 => ?_)
        · skip
          exfalso; omega
        · skip
          refine V.aload_n (pc := 40) 0 d_Mo_mark_40 rfl rfl ?_
          refine V.bipush (pc := 41) d_Mo_mark_41 ⟨by decide, by decide⟩ ?_
          refine V.cV1 (pc := 43) (kc2 := 0) (ks2 := 0) ml_Mo_193 (hM_o _) (ct_Mo_begins _ _ (by rw [htr.2.1]; omega) _) d_Mo_mark_43 (Nat.le_of_ble_eq_true rfl) (Nat.le_of_ble_eq_true rfl) (Nat.le_of_ble_eq_true rfl) (Nat.le_of_ble_eq_true rfl) ?_
          rintro _ _ _ ⟨rfl, rfl, rfl⟩
          dsimp only [Option.toList, List.cons_append, List.nil_append]
          have htr := htr.step 33 (by first | omega | (simp only [List.length_append, List.length_cons, List.length_nil]; omega))
          generalize tr1 τ 33 = τ at htr ⊢
          refine V.aload_n (pc := 46) 0 d_Mo_mark_46 rfl rfl ?_
          refine V.bipush (pc := 47) d_Mo_mark_47 ⟨by decide, by decide⟩ ?_
          refine V.cV1 (pc := 49) (kc2 := 0) (ks2 := 0) ml_Mo_193 (hM_o _) (ct_Mo_begins _ _ (by rw [htr.2.1]; omega) _) d_Mo_mark_49 (Nat.le_of_ble_eq_true rfl) (Nat.le_of_ble_eq_true rfl) (Nat.le_of_ble_eq_true rfl) (Nat.le_of_ble_eq_true rfl) ?_
          rintro _ _ _ ⟨rfl, rfl, rfl⟩
          dsimp only [Option.toList, List.cons_append, List.nil_append]
          have htr := htr.step 30 (by first | omega | (simp only [List.length_append, List.length_cons, List.length_nil]; omega))
          generalize tr1 τ 30 = τ at htr ⊢
          refine V.aload_n (pc := 52) 0 d_Mo_mark_52 rfl rfl ?_
          refine V.iload_n (pc := 53) 1 d_Mo_mark_53 rfl rfl ?_
          refine V.cV1 (pc := 54) (kc2 := 0) (ks2 := 0) ml_Mo_197 (hM_o _) (ct_Mo_sizeOf σ τ _ htr (by first | omega | (simp only [List.length_append, List.length_cons, List.length_nil]; omega)) t ht (by rw [hn]; omega) _) d_Mo_mark_54 (Nat.le_of_ble_eq_true rfl) (Nat.le_of_ble_eq_true rfl) (Nat.le_of_ble_eq_true rfl) (Nat.le_of_ble_eq_true rfl) ?_
          rintro _ _ _ ⟨rfl, rfl, τ, rfl, htr⟩
          dsimp only [Option.toList, List.cons_append, List.nil_append]
          rw [hk] at htr ⊢
          rw [hn]
          have hsr := szV_rng (kd := kd) (n := n) (by omega)
          refine V.iconst (pc := 57) d_Mo_mark_57 ⟨by decide, by decide⟩ ?_
          refine V.iadd (pc := 58) d_Mo_mark_58 ⟨by omega, by omega⟩ ?_
          refine V.istore (pc := 59) d_Mo_mark_59 (Nat.le_of_ble_eq_true rfl) rfl ?_
          dsimp only [put]
          refine V.iload_n (pc := 61) 3 d_Mo_mark_61 rfl rfl ?_
          refine V.if_eq (tgt := 72) (pc := 62) d_Mo_mark_62 (by decide) (fun c_62 => ?_) (fun c_62 => ?_)
          · skip
            refine V.iload_n (pc := 72) 2 d_Mo_mark_72 rfl rfl ?_
            refine V.bipush (pc := 73) d_Mo_mark_73 ⟨by decide, by decide⟩ ?_
            refine V.icmp_ne (tgt := 85) (pc := 75) d_Mo_mark_75 (by decide) (fun c_75 => ?_) (fun c_75 => ?_)
            · skip
              exfalso; omega
            · skip
              refine V.iload (pc := 78) d_Mo_mark_78 rfl ?_
              refine V.iconst (pc := 80) d_Mo_mark_80 ⟨by decide, by decide⟩ ?_
              refine V.isub (pc := 81) d_Mo_mark_81 ⟨by omega, by omega⟩ ?_
              refine V.goto (tgt := 87) (pc := 82) d_Mo_mark_82 (by decide) ?_
              refine V.istore (pc := 87) d_Mo_mark_87 (Nat.le_of_ble_eq_true rfl) rfl ?_
              dsimp only [put]
              refine V.iload_n (pc := 89) 2 d_Mo_mark_89 rfl rfl ?_
              refine V.iconst (pc := 90) d_Mo_mark_90 ⟨by decide, by decide⟩ ?_
              refine V.icmp_ne (tgt := 105) (pc := 91) d_Mo_mark_91 (by decide) (fun c_91 => ?_) (fun c_91 => ?_)
              · skip
                refine V.iload (pc := 105) d_Mo_mark_105 rfl ?_
                rw [szVn _ (show ¬ isOf kd 5 by omega)]
                rw [szLn (show ¬ isOf kd 5 by omega)] at htr
                refine V.ret (pc := 107) (r := some (vI _)) d_Mo_mark_107 (Or.inl rfl) rfl ?_
                refine ⟨rfl, ?_, τ, rfl, ?_⟩
                · unfold mkV; rw [if_neg hk4, if_neg h2, if_pos h8]
                · unfold mkL; rw [if_neg hk4, if_neg h2, if_pos h8]; simp only [List.append_assoc, List.cons_append, List.nil_append] at htr; exact htr
              · skip
                exfalso; omega
          · skip
            exact absurd rfl c_62
      · skip
        exact absurd rfl c_25
    · skip
      exfalso; omega
  · skip
    rw [if_neg h2]
    refine V.istore_n (pc := 12) 3 d_Mo_mark_12 rfl (Nat.le_of_ble_eq_true rfl) rfl ?_
    dsimp only [put]
    refine V.iload_n (pc := 13) 2 d_Mo_mark_13 rfl rfl ?_
    refine V.iconst (pc := 14) d_Mo_mark_14 ⟨by decide, by decide⟩ ?_
    refine V.icmp_ne (tgt := 24) (pc := 15) d_Mo_mark_15 (by decide) (fun c_15 => ?_) (fun c_15 => ?_)
    · skip
      refine V.iload_n (pc := 24) 3 d_Mo_mark_24 rfl rfl ?_
      refine V.if_eq (tgt := 34) (pc := 25) d_Mo_mark_25 (by decide) (fun c_25 => ?_) (fun c_25 => ?_)
      · skip
        refine V.iload_n (pc := 34) 2 d_Mo_mark_34 rfl rfl ?_
        refine V.bipush (pc := 35) d_Mo_mark_35 ⟨by decide, by decide⟩ ?_
        refine V.icmp_ne (tgt := 46) (pc := 37) d_Mo_mark_37 (by decide) (fun c_37 => ?_) (fun c_37 => ?_)
        · skip
          refine V.aload_n (pc := 46) 0 d_Mo_mark_46 rfl rfl ?_
          refine V.bipush (pc := 47) d_Mo_mark_47 ⟨by decide, by decide⟩ ?_
          refine V.cV1 (pc := 49) (kc2 := 0) (ks2 := 0) ml_Mo_193 (hM_o _) (ct_Mo_begins _ _ (by rw [htr.2.1]; omega) _) d_Mo_mark_49 (Nat.le_of_ble_eq_true rfl) (Nat.le_of_ble_eq_true rfl) (Nat.le_of_ble_eq_true rfl) (Nat.le_of_ble_eq_true rfl) ?_
          rintro _ _ _ ⟨rfl, rfl, rfl⟩
          dsimp only [Option.toList, List.cons_append, List.nil_append]
          have htr := htr.step 30 (by first | omega | (simp only [List.length_append, List.length_cons, List.length_nil]; omega))
          generalize tr1 τ 30 = τ at htr ⊢
          refine V.aload_n (pc := 52) 0 d_Mo_mark_52 rfl rfl ?_
          refine V.iload_n (pc := 53) 1 d_Mo_mark_53 rfl rfl ?_
          refine V.cV1 (pc := 54) (kc2 := 0) (ks2 := 0) ml_Mo_197 (hM_o _) (ct_Mo_sizeOf σ τ _ htr (by first | omega | (simp only [List.length_append, List.length_cons, List.length_nil]; omega)) t ht (by rw [hn]; omega) _) d_Mo_mark_54 (Nat.le_of_ble_eq_true rfl) (Nat.le_of_ble_eq_true rfl) (Nat.le_of_ble_eq_true rfl) (Nat.le_of_ble_eq_true rfl) ?_
          rintro _ _ _ ⟨rfl, rfl, τ, rfl, htr⟩
          dsimp only [Option.toList, List.cons_append, List.nil_append]
          rw [hk] at htr ⊢
          rw [hn]
          have hsr := szV_rng (kd := kd) (n := n) (by omega)
          refine V.iconst (pc := 57) d_Mo_mark_57 ⟨by decide, by decide⟩ ?_
          refine V.iadd (pc := 58) d_Mo_mark_58 ⟨by omega, by omega⟩ ?_
          refine V.istore (pc := 59) d_Mo_mark_59 (Nat.le_of_ble_eq_true rfl) rfl ?_
          dsimp only [put]
          refine V.iload_n (pc := 61) 3 d_Mo_mark_61 rfl rfl ?_
          refine V.if_eq (tgt := 72) (pc := 62) d_Mo_mark_62 (by decide) (fun c_62 => ?_) (fun c_62 => ?_)
          · skip
            refine V.iload_n (pc := 72) 2 d_Mo_mark_72 rfl rfl ?_
            refine V.bipush (pc := 73) d_Mo_mark_73 ⟨by decide, by decide⟩ ?_
            refine V.icmp_ne (tgt := 85) (pc := 75) d_Mo_mark_75 (by decide) (fun c_75 => ?_) (fun c_75 => ?_)
            · skip
              refine V.iload (pc := 85) d_Mo_mark_85 rfl ?_
              refine V.istore (pc := 87) d_Mo_mark_87 (Nat.le_of_ble_eq_true rfl) rfl ?_
              dsimp only [put]
              refine V.iload_n (pc := 89) 2 d_Mo_mark_89 rfl rfl ?_
              refine V.iconst (pc := 90) d_Mo_mark_90 ⟨by decide, by decide⟩ ?_
              refine V.icmp_ne (tgt := 105) (pc := 91) d_Mo_mark_91 (by decide) (fun c_91 => ?_) (fun c_91 => ?_)
              · skip
                refine V.iload (pc := 105) d_Mo_mark_105 rfl ?_
                refine V.ret (pc := 107) (r := some (vI _)) d_Mo_mark_107 (Or.inl rfl) rfl ?_
                refine ⟨rfl, ?_, τ, rfl, ?_⟩
                · unfold mkV; rw [if_neg hk4, if_neg h2, if_neg h8]
                · unfold mkL; rw [if_neg hk4, if_neg h2, if_neg h8]; simp only [List.append_assoc, List.cons_append, List.nil_append] at htr; exact htr
              · skip
                exfalso; omega
            · skip
              exfalso; omega
          · skip
            exact absurd rfl c_62
        · skip
          exfalso; omega
      · skip
        exact absurd rfl c_25
    · skip
      exfalso; omega
  · skip
    rw [if_pos (show isOf kd 2 by omega)]
    refine V.istore_n (pc := 12) 3 d_Mo_mark_12 rfl (Nat.le_of_ble_eq_true rfl) rfl ?_
    dsimp only [put]
    refine V.iload_n (pc := 13) 2 d_Mo_mark_13 rfl rfl ?_
    refine V.iconst (pc := 14) d_Mo_mark_14 ⟨by decide, by decide⟩ ?_
    refine V.icmp_ne (tgt := 24) (pc := 15) d_Mo_mark_15 (by decide) (fun c_15 => ?_) (fun c_15 => ?_)
    · skip
      exfalso; omega
    · skip
      refine V.aload_n (pc := 18) 0 d_Mo_mark_18 rfl rfl ?_
      refine V.bipush (pc := 19) d_Mo_mark_19 ⟨by decide, by decide⟩ ?_
      refine V.cV1 (pc := 21) (kc2 := 0) (ks2 := 0) ml_Mo_193 (hM_o _) (ct_Mo_begins _ _ (by rw [htr.2.1]; omega) _) d_Mo_mark_21 (Nat.le_of_ble_eq_true rfl) (Nat.le_of_ble_eq_true rfl) (Nat.le_of_ble_eq_true rfl) (Nat.le_of_ble_eq_true rfl) ?_
      rintro _ _ _ ⟨rfl, rfl, rfl⟩
      dsimp only [Option.toList, List.cons_append, List.nil_append]
      have htr := htr.step 32 (by first | omega | (simp only [List.length_append, List.length_cons, List.length_nil]; omega))
      generalize tr1 τ 32 = τ at htr ⊢
      refine V.iload_n (pc := 24) 3 d_Mo_mark_24 rfl rfl ?_
      refine V.if_eq (tgt := 34) (pc := 25) d_Mo_mark_25 (by decide) (fun c_25 => ?_) (fun c_25 => ?_)
      · skip
        exact absurd c_25 (by decide)
      · skip
        refine V.aload_n (pc := 28) 0 d_Mo_mark_28 rfl rfl ?_
        refine V.bipush (pc := 29) d_Mo_mark_29 ⟨by decide, by decide⟩ ?_
        refine V.cV1 (pc := 31) (kc2 := 0) (ks2 := 0) ml_Mo_193 (hM_o _) (ct_Mo_begins _ _ (by rw [htr.2.1]; omega) _) d_Mo_mark_31 (Nat.le_of_ble_eq_true rfl) (Nat.le_of_ble_eq_true rfl) (Nat.le_of_ble_eq_true rfl) (Nat.le_of_ble_eq_true rfl) ?_
        rintro _ _ _ ⟨rfl, rfl, rfl⟩
        dsimp only [Option.toList, List.cons_append, List.nil_append]
        have htr := htr.step 31 (by first | omega | (simp only [List.length_append, List.length_cons, List.length_nil]; omega))
        generalize tr1 τ 31 = τ at htr ⊢
        refine V.iload_n (pc := 34) 2 d_Mo_mark_34 rfl rfl ?_
        refine V.bipush (pc := 35) d_Mo_mark_35 ⟨by decide, by decide⟩ ?_
        refine V.icmp_ne (tgt := 46) (pc := 37) d_Mo_mark_37 (by decide) (fun c_37 => ?_) (fun c_37 => ?_)
        · skip
          refine V.aload_n (pc := 46) 0 d_Mo_mark_46 rfl rfl ?_
          refine V.bipush (pc := 47) d_Mo_mark_47 ⟨by decide, by decide⟩ ?_
          refine V.cV1 (pc := 49) (kc2 := 0) (ks2 := 0) ml_Mo_193 (hM_o _) (ct_Mo_begins _ _ (by rw [htr.2.1]; omega) _) d_Mo_mark_49 (Nat.le_of_ble_eq_true rfl) (Nat.le_of_ble_eq_true rfl) (Nat.le_of_ble_eq_true rfl) (Nat.le_of_ble_eq_true rfl) ?_
          rintro _ _ _ ⟨rfl, rfl, rfl⟩
          dsimp only [Option.toList, List.cons_append, List.nil_append]
          have htr := htr.step 30 (by first | omega | (simp only [List.length_append, List.length_cons, List.length_nil]; omega))
          generalize tr1 τ 30 = τ at htr ⊢
          refine V.aload_n (pc := 52) 0 d_Mo_mark_52 rfl rfl ?_
          refine V.iload_n (pc := 53) 1 d_Mo_mark_53 rfl rfl ?_
          refine V.cV1 (pc := 54) (kc2 := 0) (ks2 := 0) ml_Mo_197 (hM_o _) (ct_Mo_sizeOf σ τ _ htr (by first | omega | (simp only [List.length_append, List.length_cons, List.length_nil]; omega)) t ht (by rw [hn]; omega) _) d_Mo_mark_54 (Nat.le_of_ble_eq_true rfl) (Nat.le_of_ble_eq_true rfl) (Nat.le_of_ble_eq_true rfl) (Nat.le_of_ble_eq_true rfl) ?_
          rintro _ _ _ ⟨rfl, rfl, τ, rfl, htr⟩
          dsimp only [Option.toList, List.cons_append, List.nil_append]
          rw [hk] at htr ⊢
          rw [hn]
          have hsr := szV_rng (kd := kd) (n := n) (by omega)
          refine V.iconst (pc := 57) d_Mo_mark_57 ⟨by decide, by decide⟩ ?_
          refine V.iadd (pc := 58) d_Mo_mark_58 ⟨by omega, by omega⟩ ?_
          refine V.istore (pc := 59) d_Mo_mark_59 (Nat.le_of_ble_eq_true rfl) rfl ?_
          dsimp only [put]
          refine V.iload_n (pc := 61) 3 d_Mo_mark_61 rfl rfl ?_
          refine V.if_eq (tgt := 72) (pc := 62) d_Mo_mark_62 (by decide) (fun c_62 => ?_) (fun c_62 => ?_)
          · skip
            exact absurd c_62 (by decide)
          · skip
            refine V.iconst (pc := 65) d_Mo_mark_65 ⟨by decide, by decide⟩ ?_
            refine V.iload (pc := 66) d_Mo_mark_66 rfl ?_
            refine V.imul (pc := 68) d_Mo_mark_68 ⟨by omega, by omega⟩ ?_
            refine V.goto (tgt := 87) (pc := 69) d_Mo_mark_69 (by decide) ?_
            refine V.istore (pc := 87) d_Mo_mark_87 (Nat.le_of_ble_eq_true rfl) rfl ?_
            dsimp only [put]
            refine V.iload_n (pc := 89) 2 d_Mo_mark_89 rfl rfl ?_
            refine V.iconst (pc := 90) d_Mo_mark_90 ⟨by decide, by decide⟩ ?_
            refine V.icmp_ne (tgt := 105) (pc := 91) d_Mo_mark_91 (by decide) (fun c_91 => ?_) (fun c_91 => ?_)
            · skip
              exfalso; omega
            · skip
              refine V.iload (pc := 94) d_Mo_mark_94 rfl ?_
              refine V.aload_n (pc := 96) 0 d_Mo_mark_96 rfl rfl ?_
              refine V.iload_n (pc := 97) 1 d_Mo_mark_97 rfl rfl ?_
              rw [szVn _ (show ¬ isOf kd 5 by omega)]
              rw [szLn (show ¬ isOf kd 5 by omega)] at htr
              refine V.cV1 (pc := 98) (kc2 := 0) (ks2 := 0) ml_Mo_200 (hM_o _) (ct_Mo_worth σ τ _ htr (by first | omega | (simp only [List.length_append, List.length_cons, List.length_nil]; omega)) t ht kd n a b hone _) d_Mo_mark_98 (Nat.le_of_ble_eq_true rfl) (Nat.le_of_ble_eq_true rfl) (Nat.le_of_ble_eq_true rfl) (Nat.le_of_ble_eq_true rfl) ?_
              rintro _ _ _ ⟨rfl, rfl, τ, rfl, htr⟩
              dsimp only [Option.toList, List.cons_append, List.nil_append]
              rw [show wthV kd n a b = cn (nxt a n) (2 * n - 1) by rw [hk4]; rfl]
              rw [show wthL kd = [21] by rw [hk4]; rfl] at htr
              have hrg := cn_rng (nxt_rng a n) (2 * n - 1)
              refine V.iadd (pc := 101) d_Mo_mark_101 ⟨by omega, by omega⟩ ?_
              refine V.goto (tgt := 107) (pc := 102) d_Mo_mark_102 (by decide) ?_
              refine V.ret (pc := 107) (r := some (vI _)) d_Mo_mark_107 (Or.inl rfl) rfl ?_
              refine ⟨rfl, ?_, τ, rfl, ?_⟩
              · unfold mkV; rw [if_pos hk4, wth4]
              · unfold mkL; rw [if_pos hk4]; simp only [List.append_assoc, List.cons_append, List.nil_append] at htr; exact htr
        · skip
          exfalso; omega
  · skip
    rw [if_pos h2]
    refine V.istore_n (pc := 12) 3 d_Mo_mark_12 rfl (Nat.le_of_ble_eq_true rfl) rfl ?_
    dsimp only [put]
    refine V.iload_n (pc := 13) 2 d_Mo_mark_13 rfl rfl ?_
    refine V.iconst (pc := 14) d_Mo_mark_14 ⟨by decide, by decide⟩ ?_
    refine V.icmp_ne (tgt := 24) (pc := 15) d_Mo_mark_15 (by decide) (fun c_15 => ?_) (fun c_15 => ?_)
    · skip
      refine V.iload_n (pc := 24) 3 d_Mo_mark_24 rfl rfl ?_
      refine V.if_eq (tgt := 34) (pc := 25) d_Mo_mark_25 (by decide) (fun c_25 => ?_) (fun c_25 => ?_)
      · skip
        exact absurd c_25 (by decide)
      · skip
        refine V.aload_n (pc := 28) 0 d_Mo_mark_28 rfl rfl ?_
        refine V.bipush (pc := 29) d_Mo_mark_29 ⟨by decide, by decide⟩ ?_
        refine V.cV1 (pc := 31) (kc2 := 0) (ks2 := 0) ml_Mo_193 (hM_o _) (ct_Mo_begins _ _ (by rw [htr.2.1]; omega) _) d_Mo_mark_31 (Nat.le_of_ble_eq_true rfl) (Nat.le_of_ble_eq_true rfl) (Nat.le_of_ble_eq_true rfl) (Nat.le_of_ble_eq_true rfl) ?_
        rintro _ _ _ ⟨rfl, rfl, rfl⟩
        dsimp only [Option.toList, List.cons_append, List.nil_append]
        have htr := htr.step 31 (by first | omega | (simp only [List.length_append, List.length_cons, List.length_nil]; omega))
        generalize tr1 τ 31 = τ at htr ⊢
        refine V.iload_n (pc := 34) 2 d_Mo_mark_34 rfl rfl ?_
        refine V.bipush (pc := 35) d_Mo_mark_35 ⟨by decide, by decide⟩ ?_
        refine V.icmp_ne (tgt := 46) (pc := 37) d_Mo_mark_37 (by decide) (fun c_37 => ?_) (fun c_37 => ?_)
        · skip
          refine V.aload_n (pc := 46) 0 d_Mo_mark_46 rfl rfl ?_
          refine V.bipush (pc := 47) d_Mo_mark_47 ⟨by decide, by decide⟩ ?_
          refine V.cV1 (pc := 49) (kc2 := 0) (ks2 := 0) ml_Mo_193 (hM_o _) (ct_Mo_begins _ _ (by rw [htr.2.1]; omega) _) d_Mo_mark_49 (Nat.le_of_ble_eq_true rfl) (Nat.le_of_ble_eq_true rfl) (Nat.le_of_ble_eq_true rfl) (Nat.le_of_ble_eq_true rfl) ?_
          rintro _ _ _ ⟨rfl, rfl, rfl⟩
          dsimp only [Option.toList, List.cons_append, List.nil_append]
          have htr := htr.step 30 (by first | omega | (simp only [List.length_append, List.length_cons, List.length_nil]; omega))
          generalize tr1 τ 30 = τ at htr ⊢
          refine V.aload_n (pc := 52) 0 d_Mo_mark_52 rfl rfl ?_
          refine V.iload_n (pc := 53) 1 d_Mo_mark_53 rfl rfl ?_
          refine V.cV1 (pc := 54) (kc2 := 0) (ks2 := 0) ml_Mo_197 (hM_o _) (ct_Mo_sizeOf σ τ _ htr (by first | omega | (simp only [List.length_append, List.length_cons, List.length_nil]; omega)) t ht (by rw [hn]; omega) _) d_Mo_mark_54 (Nat.le_of_ble_eq_true rfl) (Nat.le_of_ble_eq_true rfl) (Nat.le_of_ble_eq_true rfl) (Nat.le_of_ble_eq_true rfl) ?_
          rintro _ _ _ ⟨rfl, rfl, τ, rfl, htr⟩
          dsimp only [Option.toList, List.cons_append, List.nil_append]
          rw [hk] at htr ⊢
          rw [hn]
          have hsr := szV_rng (kd := kd) (n := n) (by omega)
          refine V.iconst (pc := 57) d_Mo_mark_57 ⟨by decide, by decide⟩ ?_
          refine V.iadd (pc := 58) d_Mo_mark_58 ⟨by omega, by omega⟩ ?_
          refine V.istore (pc := 59) d_Mo_mark_59 (Nat.le_of_ble_eq_true rfl) rfl ?_
          dsimp only [put]
          refine V.iload_n (pc := 61) 3 d_Mo_mark_61 rfl rfl ?_
          refine V.if_eq (tgt := 72) (pc := 62) d_Mo_mark_62 (by decide) (fun c_62 => ?_) (fun c_62 => ?_)
          · skip
            exact absurd c_62 (by decide)
          · skip
            refine V.iconst (pc := 65) d_Mo_mark_65 ⟨by decide, by decide⟩ ?_
            refine V.iload (pc := 66) d_Mo_mark_66 rfl ?_
            refine V.imul (pc := 68) d_Mo_mark_68 ⟨by omega, by omega⟩ ?_
            refine V.goto (tgt := 87) (pc := 69) d_Mo_mark_69 (by decide) ?_
            refine V.istore (pc := 87) d_Mo_mark_87 (Nat.le_of_ble_eq_true rfl) rfl ?_
            dsimp only [put]
            refine V.iload_n (pc := 89) 2 d_Mo_mark_89 rfl rfl ?_
            refine V.iconst (pc := 90) d_Mo_mark_90 ⟨by decide, by decide⟩ ?_
            refine V.icmp_ne (tgt := 105) (pc := 91) d_Mo_mark_91 (by decide) (fun c_91 => ?_) (fun c_91 => ?_)
            · skip
              refine V.iload (pc := 105) d_Mo_mark_105 rfl ?_
              rw [szVn _ (show ¬ isOf kd 5 by omega)]
              rw [szLn (show ¬ isOf kd 5 by omega)] at htr
              refine V.ret (pc := 107) (r := some (vI _)) d_Mo_mark_107 (Or.inl rfl) rfl ?_
              refine ⟨rfl, ?_, τ, rfl, ?_⟩
              · unfold mkV; rw [if_neg hk4, if_pos h2]
              · unfold mkL; rw [if_neg hk4, if_pos h2]; simp only [List.append_assoc, List.cons_append, List.nil_append] at htr; exact htr
            · skip
              exfalso; omega
        · skip
          exfalso; omega
    · skip
      exfalso; omega
