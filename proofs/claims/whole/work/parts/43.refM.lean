/-! THE REFERENCE: ask, printed by wip/whole/gen/refM.py -/
def sTr (S : SS) (l : List Int) : SS := (S.1, S.2.1, 0, l.length, fun i => (l[i]?).getD 0)
def sp_ask (S : SS) (p w : Int) : Int × SS := if (0 ≤ p ∧ p ≤ 9) ∧ (0 ≤ w ∧ w ≤ 2) then (match S.2.1 p.toNat with
  | none => (-1000011, (S.1, S.2.1, 1, 0, S.2.2.2.2))
  | some (kd, n, a, b) => if w = 0 then (szV kd n, sTr S (szL kd)) else if w = 1 then (wthV kd n a b, sTr S (wthL kd)) else (mkV kd n a b, sTr S (mkL kd))) else (-1000001, S)
theorem RI.tr {S : SS} {σ τ : SM} {l : List Int} (hI : RI S σ) (h : TR (sset σ 12 (fun _ => 0)) τ l) (hl : l.length ≤ 16) : RI (sTr S l) (sset τ 10 (fun _ => 0)) := by
  obtain ⟨h1, h2, h3, h4, h5, h6, h7⟩ := hI
  have e : ∀ j, j ≠ 10 → j ≠ 11 → j ≠ 12 → j ≠ 14 → sset τ 10 (fun _ => 0) j = σ j := fun j g0 g1 g2 g3 => by
    rw [sset_n g0, h.1 j g1 g2 g3, sset_n g2]
  refine ⟨?_, ?_, ⟨rfl, h.2.1, hl, h.2.2⟩, ?_, ?_, ?_, ?_⟩
  · rw [e 0 (by omega) (by omega) (by omega) (by omega), e 1 (by omega) (by omega) (by omega) (by omega), e 2 (by omega) (by omega) (by omega) (by omega)]; exact h1
  · rw [e 4 (by omega) (by omega) (by omega) (by omega), e 5 (by omega) (by omega) (by omega) (by omega), e 6 (by omega) (by omega) (by omega) (by omega), e 7 (by omega) (by omega) (by omega) (by omega), e 8 (by omega) (by omega) (by omega) (by omega), e 9 (by omega) (by omega) (by omega) (by omega)]; exact h2
  · rw [e 19 (by omega) (by omega) (by omega) (by omega), e 20 (by omega) (by omega) (by omega) (by omega)]; exact h4
  · rw [e 24 (by omega) (by omega) (by omega) (by omega), e 25 (by omega) (by omega) (by omega) (by omega)]; exact h5
  · rw [e 26 (by omega) (by omega) (by omega) (by omega)]; exact h6
  · rw [e 27 (by omega) (by omega) (by omega) (by omega)]; exact h7
theorem RI.tr0 {S : SS} {σ : SM} (hI : RI S σ) : RI (S.1, S.2.1, 1, 0, S.2.2.2.2) (sset (sset σ 12 (fun _ => 0)) 10 (fun _ => 1)) := by
  obtain ⟨h1, h2, h3, h4⟩ := hI
  exact ⟨h1, h2, ⟨rfl, rfl, Nat.zero_le _, fun i hi => absurd hi (Nat.not_lt_zero i)⟩, h4⟩
theorem szL_len (kd : Int) : (szL kd).length ≤ 2 := by unfold szL; split <;> decide
theorem wthL_len (kd : Int) : (wthL kd).length ≤ 4 := by unfold wthL; repeat (first | decide | split)
theorem mkL_len (kd : Int) : (mkL kd).length ≤ 5 := by
  have := szL_len kd
  unfold mkL
  split
  · decide
  · split
    · decide
    · split
      · decide
      · rw [List.length_cons]; omega
set_option maxRecDepth 20000 in
theorem cs_Mo_ask (S : SS) (σ : SM) (hI : RI S σ) (p w : Int) (sz : Nat) : Ct M_Mo_ask 4 0 0 [vR 8, vI p, vI w] (hM σ) sz (QS (sp_ask S p w) sz) := by
  refine Ct.of rfl (Nat.le_of_ble_eq_true rfl) ?_
  dsimp only [lsOf]
  refine V.iload_n (pc := 0) 1 d_Mo_ask_0 rfl rfl ?_
  refine V.cS1 (pc := 1) (kc2 := 0) (ks2 := 0) ml_Mo_152 (ct_Mo_isPlace _ _ _) d_Mo_ask_1 (Nat.le_of_ble_eq_true rfl) (Nat.le_of_ble_eq_true rfl) (Nat.le_of_ble_eq_true rfl) (Nat.le_of_ble_eq_true rfl) ?_
  rintro _ _ _ ⟨rfl, rfl, rfl⟩
  dsimp only [Option.toList, List.cons_append, List.nil_append]
  refine V.ifB_eq (tgt := 19) (pc := 4) d_Mo_ask_4 (by decide) (fun c_4 => ?_) (fun c_4 => ?_)
  · skip
    refine V.ldc (pc := 19) (-1000001) ck_Mo_112 rfl ⟨by decide, by decide⟩ d_Mo_ask_19 ?_
    refine V.ret (pc := 21) (r := some (vI _)) d_Mo_ask_21 (Or.inl rfl) rfl ?_
    exact qs_of (by unfold sp_ask; rw [if_neg (by omega)]) hI
  · skip
    refine V.iload_n (pc := 7) 2 d_Mo_ask_7 rfl rfl ?_
    refine V.i2l (pc := 8) d_Mo_ask_8 ?_
    refine V.lconst0 (pc := 9) d_Mo_ask_9 ?_
    refine V.ldc2 (pc := 10) (2) ck_Mo_110 rfl ⟨by decide, by decide⟩ d_Mo_ask_10 ?_
    refine V.cS3 (pc := 13) (kc2 := 0) (ks2 := 0) ml_Mo_102 (ct_Mo_in _ _ _ _ _) d_Mo_ask_13 (Nat.le_of_ble_eq_true rfl) (Nat.le_of_ble_eq_true rfl) (Nat.le_of_ble_eq_true rfl) (Nat.le_of_ble_eq_true rfl) ?_
    rintro _ _ _ ⟨rfl, rfl, rfl⟩
    dsimp only [Option.toList, List.cons_append, List.nil_append]
    refine V.ifB_ne (tgt := 22) (pc := 16) d_Mo_ask_16 (by decide) (fun c_16 => ?_) (fun c_16 => ?_)
    · skip
      refine V.aload_n (pc := 22) 0 d_Mo_ask_22 rfl rfl ?_
      refine V.iconst (pc := 23) d_Mo_ask_23 ⟨by decide, by decide⟩ ?_
      refine V.putf (pc := 24) 12 cl_Mo fl_Mo_190_Mo d_Mo_ask_24 (hM_o _) (Nat.le_of_ble_eq_true rfl) (Nat.le_of_ble_eq_true rfl) rfl (fun _ => ⟨rfl, rfl⟩) ?_
      rw [pu_traced]
      rcases th_cases hI.2.1 (show p.toNat < 10 by omega) with ⟨hS, hk⟩ | ⟨kd, n, a, b, hS, hone⟩
      · skip
        refine V.aload_n (pc := 27) 0 d_Mo_ask_27 rfl rfl ?_
        refine V.getf (pc := 28) 4 cl_Mo fl_Mo_22_Mo d_Mo_ask_28 (hM_o _) (Nat.le_of_ble_eq_true rfl) rfl ?_
        refine V.iload_n (pc := 31) 1 d_Mo_ask_31 rfl rfl ?_
        refine V.iald (pc := 32) d_Mo_ask_32 (ar_kinds _).1 (by omega) (by omega) ?_
        try simp (disch := omega) only [sset_n, sset_e]
        refine V.if_ne (tgt := 42) (pc := 33) d_Mo_ask_33 (by decide) (fun c_33 => ?_) (fun c_33 => ?_)
        · skip
          exfalso; omega
        · skip
          refine V.aload_n (pc := 36) 0 d_Mo_ask_36 rfl rfl ?_
          refine V.iconst (pc := 37) d_Mo_ask_37 ⟨by decide, by decide⟩ ?_
          refine V.cV1 (pc := 38) (kc2 := 0) (ks2 := 0) ml_Mo_113 (hM_o _) (ct_Mo_finds _ (by omega) _ _) d_Mo_ask_38 (Nat.le_of_ble_eq_true rfl) (Nat.le_of_ble_eq_true rfl) (Nat.le_of_ble_eq_true rfl) (Nat.le_of_ble_eq_true rfl) ?_
          rintro _ _ _ ⟨rfl, rfl, rfl⟩
          dsimp only [Option.toList, List.cons_append, List.nil_append]
          first | rw [fi1] | rw [fi2] | rw [fi3] | rw [fi4] | rw [fi5]
          refine V.ret (pc := 41) (r := some (vI _)) d_Mo_ask_41 (Or.inl rfl) rfl ?_
          exact qs_of (by unfold sp_ask; rw [if_pos (by omega)]; simp only [hS]) hI.tr0
      · skip
        obtain ⟨hw, hk, hn, h3, h4, h5, h6⟩ := id hone
        have hwk := wf_kind hw
        have htr : TR (sset σ 12 (fun _ => 0)) (sset σ 12 (fun _ => 0)) [] := ⟨fun _ _ _ _ => rfl, rfl, fun i hi => absurd hi (Nat.not_lt_zero i)⟩
        refine V.aload_n (pc := 27) 0 d_Mo_ask_27 rfl rfl ?_
        refine V.getf (pc := 28) 4 cl_Mo fl_Mo_22_Mo d_Mo_ask_28 (hM_o _) (Nat.le_of_ble_eq_true rfl) rfl ?_
        refine V.iload_n (pc := 31) 1 d_Mo_ask_31 rfl rfl ?_
        refine V.iald (pc := 32) d_Mo_ask_32 (ar_kinds _).1 (by omega) (by omega) ?_
        try simp (disch := omega) only [sset_n, sset_e]
        refine V.if_ne (tgt := 42) (pc := 33) d_Mo_ask_33 (by decide) (fun c_33 => ?_) (fun c_33 => ?_)
        · skip
          refine V.aload_n (pc := 42) 0 d_Mo_ask_42 rfl rfl ?_
          refine V.iload_n (pc := 43) 2 d_Mo_ask_43 rfl rfl ?_
          refine V.if_ne (tgt := 55) (pc := 44) d_Mo_ask_44 (by decide) (fun c_44 => ?_) (fun c_44 => ?_)
          · skip
            refine V.iload_n (pc := 55) 2 d_Mo_ask_55 rfl rfl ?_
            refine V.iconst (pc := 56) d_Mo_ask_56 ⟨by decide, by decide⟩ ?_
            refine V.icmp_ne (tgt := 68) (pc := 57) d_Mo_ask_57 (by decide) (fun c_57 => ?_) (fun c_57 => ?_)
            · skip
              refine V.aload_n (pc := 68) 0 d_Mo_ask_68 rfl rfl ?_
              refine V.iload_n (pc := 69) 1 d_Mo_ask_69 rfl rfl ?_
              refine V.cV1 (pc := 70) (kc2 := 0) (ks2 := 0) ml_Mo_203 (hM_o _) (ct_Mo_mark (sset σ 12 (fun _ => 0)) (sset σ 12 (fun _ => 0)) [] htr (by decide) p (by omega) kd n a b hone _) d_Mo_ask_70 (Nat.le_of_ble_eq_true rfl) (Nat.le_of_ble_eq_true rfl) (Nat.le_of_ble_eq_true rfl) (Nat.le_of_ble_eq_true rfl) ?_
              rintro _ _ _ ⟨rfl, rfl, t2, rfl, htr2⟩
              dsimp only [Option.toList, List.cons_append, List.nil_append]
              rw [List.nil_append] at htr2
              refine V.cV1 (pc := 73) (kc2 := 0) (ks2 := 0) ml_Mo_117 (hM_o _) (ct_Mo_well _ _ _) d_Mo_ask_73 (Nat.le_of_ble_eq_true rfl) (Nat.le_of_ble_eq_true rfl) (Nat.le_of_ble_eq_true rfl) (Nat.le_of_ble_eq_true rfl) ?_
              rintro _ _ _ ⟨rfl, rfl, rfl⟩
              dsimp only [Option.toList, List.cons_append, List.nil_append]
              refine V.ret (pc := 76) (r := some (vI _)) d_Mo_ask_76 (Or.inl rfl) rfl ?_
              refine qs_of (by unfold sp_ask; rw [if_pos (by omega)]; simp only [hS]; rw [if_neg (by omega), if_neg (by omega)]) (hI.tr htr2 (by have := mkL_len kd; omega))
            · skip
              refine V.aload_n (pc := 60) 0 d_Mo_ask_60 rfl rfl ?_
              refine V.iload_n (pc := 61) 1 d_Mo_ask_61 rfl rfl ?_
              refine V.cV1 (pc := 62) (kc2 := 0) (ks2 := 0) ml_Mo_200 (hM_o _) (ct_Mo_worth (sset σ 12 (fun _ => 0)) (sset σ 12 (fun _ => 0)) [] htr (by decide) p (by omega) kd n a b hone _) d_Mo_ask_62 (Nat.le_of_ble_eq_true rfl) (Nat.le_of_ble_eq_true rfl) (Nat.le_of_ble_eq_true rfl) (Nat.le_of_ble_eq_true rfl) ?_
              rintro _ _ _ ⟨rfl, rfl, t2, rfl, htr2⟩
              dsimp only [Option.toList, List.cons_append, List.nil_append]
              rw [List.nil_append] at htr2
              refine V.goto (tgt := 73) (pc := 65) d_Mo_ask_65 (by decide) ?_
              refine V.cV1 (pc := 73) (kc2 := 0) (ks2 := 0) ml_Mo_117 (hM_o _) (ct_Mo_well _ _ _) d_Mo_ask_73 (Nat.le_of_ble_eq_true rfl) (Nat.le_of_ble_eq_true rfl) (Nat.le_of_ble_eq_true rfl) (Nat.le_of_ble_eq_true rfl) ?_
              rintro _ _ _ ⟨rfl, rfl, rfl⟩
              dsimp only [Option.toList, List.cons_append, List.nil_append]
              refine V.ret (pc := 76) (r := some (vI _)) d_Mo_ask_76 (Or.inl rfl) rfl ?_
              refine qs_of (by unfold sp_ask; rw [if_pos (by omega)]; simp only [hS]; rw [if_neg (by omega), if_pos (by omega)]) (hI.tr htr2 (by have := wthL_len kd; omega))
          · skip
            refine V.aload_n (pc := 47) 0 d_Mo_ask_47 rfl rfl ?_
            refine V.iload_n (pc := 48) 1 d_Mo_ask_48 rfl rfl ?_
            refine V.cV1 (pc := 49) (kc2 := 0) (ks2 := 0) ml_Mo_197 (hM_o _) (ct_Mo_sizeOf (sset σ 12 (fun _ => 0)) (sset σ 12 (fun _ => 0)) [] htr (by decide) p (by omega) (by show 1 ≤ σ 5 p.toNat ∧ σ 5 p.toNat ≤ 20; rw [hn]; omega) _) d_Mo_ask_49 (Nat.le_of_ble_eq_true rfl) (Nat.le_of_ble_eq_true rfl) (Nat.le_of_ble_eq_true rfl) (Nat.le_of_ble_eq_true rfl) ?_
            rintro _ _ _ ⟨rfl, rfl, t2, rfl, htr2⟩
            dsimp only [Option.toList, List.cons_append, List.nil_append]
            rw [List.nil_append] at htr2
            rw [show szV ((sset σ 12 (fun _ => 0)) 4 p.toNat) ((sset σ 12 (fun _ => 0)) 5 p.toNat) = szV kd n by rw [sset_n (by omega), sset_n (by omega), hk, hn]]
            rw [show szL ((sset σ 12 (fun _ => 0)) 4 p.toNat) = szL kd by rw [sset_n (by omega), hk]] at htr2
            refine V.goto (tgt := 73) (pc := 52) d_Mo_ask_52 (by decide) ?_
            refine V.cV1 (pc := 73) (kc2 := 0) (ks2 := 0) ml_Mo_117 (hM_o _) (ct_Mo_well _ _ _) d_Mo_ask_73 (Nat.le_of_ble_eq_true rfl) (Nat.le_of_ble_eq_true rfl) (Nat.le_of_ble_eq_true rfl) (Nat.le_of_ble_eq_true rfl) ?_
            rintro _ _ _ ⟨rfl, rfl, rfl⟩
            dsimp only [Option.toList, List.cons_append, List.nil_append]
            refine V.ret (pc := 76) (r := some (vI _)) d_Mo_ask_76 (Or.inl rfl) rfl ?_
            refine qs_of (by unfold sp_ask; rw [if_pos (by omega)]; simp only [hS]; rw [if_pos (by omega)]) (hI.tr htr2 (by have := szL_len kd; omega))
        · skip
          exfalso; omega
    · skip
      refine V.ldc (pc := 19) (-1000001) ck_Mo_112 rfl ⟨by decide, by decide⟩ d_Mo_ask_19 ?_
      refine V.ret (pc := 21) (r := some (vI _)) d_Mo_ask_21 (Or.inl rfl) rfl ?_
      exact qs_of (by unfold sp_ask; rw [if_neg (by omega)]) hI
