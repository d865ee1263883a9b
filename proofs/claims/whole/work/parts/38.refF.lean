/-! THE REFERENCE: ask, printed by wip/whole/gen/refF.py -/
def TR (σ τ : SM) (l : List Int) : Prop := (∀ j, j ≠ 11 → j ≠ 12 → j ≠ 14 → τ j = σ j) ∧ τ 12 0 = (l.length : Int) ∧ ∀ i, i < l.length → τ 11 i = (l[i]?).getD 0
theorem TR.step {σ τ : SM} {l : List Int} (h : TR σ τ l) (b : Int) (hl : l.length < 16) : TR σ (tr1 τ b) (l ++ [b]) := by
  have h1 := h.2.1
  unfold tr1
  rw [if_pos (by rw [h1]; omega)]
  refine ⟨fun j g1 g2 g3 => by rw [sset_n g2, sset_n g1]; exact h.1 j g1 g2 g3, ?_, fun i hi => ?_⟩
  · rw [sset_e, h1, List.length_append]; rfl
  · rw [sset_n (by decide), sset_e, h1, Int.toNat_natCast]
    by_cases e : i = l.length
    · rw [e, upf_e, List.getElem?_concat_length]; rfl
    · have hi2 : i < l.length := by
        rw [List.length_append] at hi
        have : ([b] : List Int).length = 1 := rfl
        omega
      rw [upf_n e, List.getElem?_append_left hi2]
      exact h.2.2 i hi2
def QZ (σ : SM) (v : Int) (l : List Int) (sz : Nat) : QT := fun r h s => s = sz ∧ r = some (vI v) ∧ ∃ t, h = hM t ∧ TR σ t l
def szL (kd : Int) : List Int := if isOf kd 5 then [11, 10] else [10]
def szV (kd n : Int) : Int := if isOf kd 5 then 2 * n else n
set_option maxRecDepth 20000 in
theorem ct_Mo_sizeOf (σ τ : SM) (l : List Int) (htr : TR σ τ l) (hl : l.length < 14) (t : Int) (ht : 0 ≤ t ∧ t ≤ 9) (hm : 1 ≤ σ 5 t.toNat ∧ σ 5 t.toNat ≤ 20) (sz : Nat) : Ct M_Mo_sizeOf 1 0 0 [vR 8, vI t] (hM τ) sz (QZ σ (szV (σ 4 t.toNat) (σ 5 t.toNat)) (l ++ szL (σ 4 t.toNat)) sz) := by
  refine Ct.of rfl (Nat.le_of_ble_eq_true rfl) ?_
  dsimp only [lsOf]
  refine V.aload_n (pc := 0) 0 d_Mo_sizeOf_0 rfl rfl ?_
  refine V.getf (pc := 1) 4 cl_Mo fl_Mo_22_Mo d_Mo_sizeOf_1 (hM_o _) (Nat.le_of_ble_eq_true rfl) rfl ?_
  refine V.iload_n (pc := 4) 1 d_Mo_sizeOf_4 rfl rfl ?_
  refine V.iald (pc := 5) d_Mo_sizeOf_5 (ar_kinds _).1 (by omega) (by omega) ?_
  try simp (disch := omega) only [sset_n, sset_e]
  rw [htr.1 4 (by omega) (by omega) (by omega)]
  refine V.iconst (pc := 6) d_Mo_sizeOf_6 ⟨by decide, by decide⟩ ?_
  refine V.cS2 (pc := 7) (kc2 := 0) (ks2 := 0) ml_Mo_161 (ct_Mo_isOf _ _ _ _) d_Mo_sizeOf_7 (Nat.le_of_ble_eq_true rfl) (Nat.le_of_ble_eq_true rfl) (Nat.le_of_ble_eq_true rfl) (Nat.le_of_ble_eq_true rfl) ?_
  rintro _ _ _ ⟨rfl, rfl, rfl⟩
  dsimp only [Option.toList, List.cons_append, List.nil_append]
  by_cases hof : isOf (σ 4 t.toNat) 5
  · skip
    rw [if_pos hof]
    refine V.istore_n (pc := 10) 2 d_Mo_sizeOf_10 rfl (Nat.le_of_ble_eq_true rfl) rfl ?_
    dsimp only [put]
    refine V.iload_n (pc := 11) 2 d_Mo_sizeOf_11 rfl rfl ?_
    refine V.if_eq (tgt := 21) (pc := 12) d_Mo_sizeOf_12 (by decide) (fun c_12 => ?_) (fun c_12 => ?_)
    · skip
      exact absurd c_12 (by decide)
    · skip
      refine V.aload_n (pc := 15) 0 d_Mo_sizeOf_15 rfl rfl ?_
      refine V.bipush (pc := 16) d_Mo_sizeOf_16 ⟨by decide, by decide⟩ ?_
      refine V.cV1 (pc := 18) (kc2 := 0) (ks2 := 0) ml_Mo_193 (hM_o _) (ct_Mo_begins _ _ (by rw [htr.2.1]; omega) _) d_Mo_sizeOf_18 (Nat.le_of_ble_eq_true rfl) (Nat.le_of_ble_eq_true rfl) (Nat.le_of_ble_eq_true rfl) (Nat.le_of_ble_eq_true rfl) ?_
      rintro _ _ _ ⟨rfl, rfl, rfl⟩
      dsimp only [Option.toList, List.cons_append, List.nil_append]
      have htr := htr.step 11 (by first | omega | (simp only [List.length_append, List.length_cons, List.length_nil]; omega))
      generalize tr1 τ 11 = τ at htr ⊢
      refine V.aload_n (pc := 21) 0 d_Mo_sizeOf_21 rfl rfl ?_
      refine V.bipush (pc := 22) d_Mo_sizeOf_22 ⟨by decide, by decide⟩ ?_
      refine V.cV1 (pc := 24) (kc2 := 0) (ks2 := 0) ml_Mo_193 (hM_o _) (ct_Mo_begins _ _ (by rw [htr.2.1]; omega) _) d_Mo_sizeOf_24 (Nat.le_of_ble_eq_true rfl) (Nat.le_of_ble_eq_true rfl) (Nat.le_of_ble_eq_true rfl) (Nat.le_of_ble_eq_true rfl) ?_
      rintro _ _ _ ⟨rfl, rfl, rfl⟩
      dsimp only [Option.toList, List.cons_append, List.nil_append]
      have htr := htr.step 10 (by first | omega | (simp only [List.length_append, List.length_cons, List.length_nil]; omega))
      generalize tr1 τ 10 = τ at htr ⊢
      refine V.iload_n (pc := 27) 2 d_Mo_sizeOf_27 rfl rfl ?_
      refine V.if_eq (tgt := 42) (pc := 28) d_Mo_sizeOf_28 (by decide) (fun c_28 => ?_) (fun c_28 => ?_)
      · skip
        exact absurd c_28 (by decide)
      · skip
        refine V.iconst (pc := 31) d_Mo_sizeOf_31 ⟨by decide, by decide⟩ ?_
        refine V.aload_n (pc := 32) 0 d_Mo_sizeOf_32 rfl rfl ?_
        refine V.getf (pc := 33) 5 cl_Mo fl_Mo_25_Mo d_Mo_sizeOf_33 (hM_o _) (Nat.le_of_ble_eq_true rfl) rfl ?_
        refine V.iload_n (pc := 36) 1 d_Mo_sizeOf_36 rfl rfl ?_
        refine V.iald (pc := 37) d_Mo_sizeOf_37 (ar_many _).1 (by omega) (by omega) ?_
        try simp (disch := omega) only [sset_n, sset_e]
        rw [htr.1 5 (by omega) (by omega) (by omega)]
        refine V.imul (pc := 38) d_Mo_sizeOf_38 ⟨by omega, by omega⟩ ?_
        refine V.goto (tgt := 48) (pc := 39) d_Mo_sizeOf_39 (by decide) ?_
        try rw [htr.1 5 (by omega) (by omega) (by omega)]
        refine V.ret (pc := 48) (r := some (vI _)) d_Mo_sizeOf_48 (Or.inl rfl) rfl ?_
        refine ⟨rfl, by unfold szV; rw [if_pos hof], τ, rfl, ?_⟩
        unfold szL; rw [if_pos hof]; rw [List.append_assoc] at htr; exact htr
  · skip
    rw [if_neg hof]
    refine V.istore_n (pc := 10) 2 d_Mo_sizeOf_10 rfl (Nat.le_of_ble_eq_true rfl) rfl ?_
    dsimp only [put]
    refine V.iload_n (pc := 11) 2 d_Mo_sizeOf_11 rfl rfl ?_
    refine V.if_eq (tgt := 21) (pc := 12) d_Mo_sizeOf_12 (by decide) (fun c_12 => ?_) (fun c_12 => ?_)
    · skip
      refine V.aload_n (pc := 21) 0 d_Mo_sizeOf_21 rfl rfl ?_
      refine V.bipush (pc := 22) d_Mo_sizeOf_22 ⟨by decide, by decide⟩ ?_
      refine V.cV1 (pc := 24) (kc2 := 0) (ks2 := 0) ml_Mo_193 (hM_o _) (ct_Mo_begins _ _ (by rw [htr.2.1]; omega) _) d_Mo_sizeOf_24 (Nat.le_of_ble_eq_true rfl) (Nat.le_of_ble_eq_true rfl) (Nat.le_of_ble_eq_true rfl) (Nat.le_of_ble_eq_true rfl) ?_
      rintro _ _ _ ⟨rfl, rfl, rfl⟩
      dsimp only [Option.toList, List.cons_append, List.nil_append]
      have htr := htr.step 10 (by first | omega | (simp only [List.length_append, List.length_cons, List.length_nil]; omega))
      generalize tr1 τ 10 = τ at htr ⊢
      refine V.iload_n (pc := 27) 2 d_Mo_sizeOf_27 rfl rfl ?_
      refine V.if_eq (tgt := 42) (pc := 28) d_Mo_sizeOf_28 (by decide) (fun c_28 => ?_) (fun c_28 => ?_)
      · skip
        refine V.aload_n (pc := 42) 0 d_Mo_sizeOf_42 rfl rfl ?_
        refine V.getf (pc := 43) 5 cl_Mo fl_Mo_25_Mo d_Mo_sizeOf_43 (hM_o _) (Nat.le_of_ble_eq_true rfl) rfl ?_
        refine V.iload_n (pc := 46) 1 d_Mo_sizeOf_46 rfl rfl ?_
        refine V.iald (pc := 47) d_Mo_sizeOf_47 (ar_many _).1 (by omega) (by omega) ?_
        try simp (disch := omega) only [sset_n, sset_e]
        try rw [htr.1 5 (by omega) (by omega) (by omega)]
        refine V.ret (pc := 48) (r := some (vI _)) d_Mo_sizeOf_48 (Or.inl rfl) rfl ?_
        refine ⟨rfl, by unfold szV; rw [if_neg hof], τ, rfl, ?_⟩
        unfold szL; rw [if_neg hof]; exact htr
      · skip
        exact absurd rfl c_28
    · skip
      exact absurd rfl c_12
