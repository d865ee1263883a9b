/-! THE CLASS: calls, printed by wip/whole/gen/cls10.py -/
set_option maxRecDepth 20000 in
theorem cc_RR_notThatN (p x : Int) (hp : 0 ≤ p ∧ p ≤ 9) (gt : Nat → Option Nat) (h : MH) (h0 : h 0 = some (oRR x)) (h2 : h 2 = some (kR 1 10 gt)) (hg : gt p.toNat = none) (sz : Nat) : Ct M_RR_notThat 1 0 0 [vR 0, vI p] h sz (Det (some (vI (-1000011))) (hset h 0 (oRR 1)) sz) := by
  refine Ct.of rfl (Nat.le_of_ble_eq_true rfl) ?_
  dsimp only [lsOf]
  refine V.aload_n (pc := 0) 0 d_RR_notThat_0 rfl rfl ?_
  refine V.aload_n (pc := 1) 0 d_RR_notThat_1 rfl rfl ?_
  refine V.getf (pc := 2) 1 cl_RR fl_RR_17_RR d_RR_notThat_2 h0 (Nat.le_of_ble_eq_true rfl) rfl ?_
  refine V.iload_n (pc := 5) 1 d_RR_notThat_5 rfl rfl ?_
  refine V.aald1 (pc := 6) d_RR_notThat_6 h2 (by omega) (by omega) ?_
  rw [hg]
  refine V.ifnonnull (tgt := 14) (pc := 7) d_RR_notThat_7 (by decide) (fun a_7 c_7 => ?_) (fun c_7 => ?_)
  · skip
    cases c_7
  · skip
    refine V.iconst (pc := 10) d_RR_notThat_10 ⟨by decide, by decide⟩ ?_
    refine V.goto (tgt := 15) (pc := 11) d_RR_notThat_11 (by decide) ?_
    refine V.cV1 (pc := 15) (kc2 := 0) (ks2 := 0) ml_RR_51 h0 (cc_RR_found _ _ (by omega) _ h0 _) d_RR_notThat_15 (Nat.le_of_ble_eq_true rfl) (Nat.le_of_ble_eq_true rfl) (Nat.le_of_ble_eq_true rfl) (Nat.le_of_ble_eq_true rfl) ?_
    rintro _ _ _ ⟨rfl, rfl, rfl⟩
    dsimp only [Option.toList, List.cons_append, List.nil_append]
    first | rw [fi1] | rw [fi2] | rw [fi3] | rw [fi4] | rw [fi5]
    refine V.ret (pc := 18) (r := some (vI _)) d_RR_notThat_18 (Or.inl rfl) rfl ?_
    exact detR
set_option maxRecDepth 20000 in
theorem cc_RR_notThatK (p x : Int) (hp : 0 ≤ p ∧ p ≤ 9) (gt : Nat → Option Nat) (a : Nat) (h : MH) (h0 : h 0 = some (oRR x)) (h2 : h 2 = some (kR 1 10 gt)) (hg : gt p.toNat = some a) (sz : Nat) : Ct M_RR_notThat 1 0 0 [vR 0, vI p] h sz (Det (some (vI (-1000013))) (hset h 0 (oRR 3)) sz) := by
  refine Ct.of rfl (Nat.le_of_ble_eq_true rfl) ?_
  dsimp only [lsOf]
  refine V.aload_n (pc := 0) 0 d_RR_notThat_0 rfl rfl ?_
  refine V.aload_n (pc := 1) 0 d_RR_notThat_1 rfl rfl ?_
  refine V.getf (pc := 2) 1 cl_RR fl_RR_17_RR d_RR_notThat_2 h0 (Nat.le_of_ble_eq_true rfl) rfl ?_
  refine V.iload_n (pc := 5) 1 d_RR_notThat_5 rfl rfl ?_
  refine V.aald1 (pc := 6) d_RR_notThat_6 h2 (by omega) (by omega) ?_
  rw [hg]
  refine V.ifnonnull (tgt := 14) (pc := 7) d_RR_notThat_7 (by decide) (fun a_7 c_7 => ?_) (fun c_7 => ?_)
  · skip
    refine V.iconst (pc := 14) d_RR_notThat_14 ⟨by decide, by decide⟩ ?_
    refine V.cV1 (pc := 15) (kc2 := 0) (ks2 := 0) ml_RR_51 h0 (cc_RR_found _ _ (by omega) _ h0 _) d_RR_notThat_15 (Nat.le_of_ble_eq_true rfl) (Nat.le_of_ble_eq_true rfl) (Nat.le_of_ble_eq_true rfl) (Nat.le_of_ble_eq_true rfl) ?_
    rintro _ _ _ ⟨rfl, rfl, rfl⟩
    dsimp only [Option.toList, List.cons_append, List.nil_append]
    first | rw [fi1] | rw [fi2] | rw [fi3] | rw [fi4] | rw [fi5]
    refine V.ret (pc := 18) (r := some (vI _)) d_RR_notThat_18 (Or.inl rfl) rfl ?_
    exact detR
  · skip
    cases c_7
set_option maxRecDepth 20000 in
theorem cc_RR_shelve (S : SS) (h : MH) (hI : CI S h) (p : Int) (hp : 0 ≤ p ∧ p ≤ 9) (a : Nat) (k : Int) (n : Nat) (s sb : Nat → Int) (hT : Th h a (k, n, s, sb)) (sz : Nat) : Ct M_RR_shelve 2 0 0 [vR 0, vI p, vR a] h sz (fun r h2 s9 => s9 = sz ∧ r = some (vI k) ∧ CI (sTh S p.toNat (some (k, n, s, sb))) h2) := by
  refine Ct.of rfl (Nat.le_of_ble_eq_true rfl) ?_
  dsimp only [lsOf]
  obtain ⟨gs, gt, tr, en, fs, fp, hB, hcc⟩ := id hI
  obtain ⟨b0, b1, b2, b3, b4, b5, b6, b7⟩ := id hB
  obtain ⟨ha37, ci, N, T, ty, fs9, hC, hob⟩ := hT.ob
  have hwk := wf_kind hT.1
  refine V.aload_n (pc := 0) 0 d_RR_shelve_0 rfl rfl ?_
  refine V.getf (pc := 1) 1 cl_RR fl_RR_17_RR d_RR_shelve_1 b0 (Nat.le_of_ble_eq_true rfl) rfl ?_
  refine V.iload_n (pc := 4) 1 d_RR_shelve_4 rfl rfl ?_
  refine V.aload_n (pc := 5) 2 d_RR_shelve_5 rfl rfl ?_
  refine V.aast1 (pc := 6) hC (Or.inr (ins_th (by omega))) d_RR_shelve_6 b2 hob (by omega) (by omega) ?_
  refine V.aload_n (pc := 7) 0 d_RR_shelve_7 rfl rfl ?_
  refine V.aload_n (pc := 8) 2 d_RR_shelve_8 rfl rfl ?_
  obtain ⟨C2, M2, ci2, N2, T2, ty2, fs2, hlk, hob2, htd⟩ := hT.told
  refine V.cU0 (pc := 9) (kc2 := 0) (ks2 := 0) hlk (hset_o (by omega) hob2) (htd _ _) d_RR_shelve_9 (Nat.le_of_ble_eq_true rfl) (Nat.le_of_ble_eq_true rfl) (Nat.le_of_ble_eq_true rfl) (Nat.le_of_ble_eq_true rfl) ?_
  rintro _ _ _ ⟨rfl, rfl, rfl⟩
  dsimp only [Option.toList, List.cons_append, List.nil_append]
  refine V.cV1 (pc := 12) (kc2 := 0) (ks2 := 0) ml_RR_58 (hset_o (by omega) b0) (cc_RR_settled _ _ _ (hset_o (by omega) b0) _) d_RR_shelve_12 (Nat.le_of_ble_eq_true rfl) (Nat.le_of_ble_eq_true rfl) (Nat.le_of_ble_eq_true rfl) (Nat.le_of_ble_eq_true rfl) ?_
  rintro _ _ _ ⟨rfl, rfl, rfl⟩
  dsimp only [Option.toList, List.cons_append, List.nil_append]
  refine V.ret (pc := 15) (r := some (vI _)) d_RR_shelve_15 (Or.inl rfl) rfl ?_
  exact ⟨rfl, rfl, CI.put hB hcc (by omega) hT⟩
set_option maxRecDepth 20000 in
theorem cs_RR_status (S : SS) (h : MH) (hI : CI S h)  (sz : Nat) (hsz : 37 ≤ sz) : Ct M_RR_status 0 0 0 [vR 0] h sz (QCI (sp_status S) sz) := by
  refine Ct.of rfl (Nat.le_of_ble_eq_true rfl) ?_
  dsimp only [lsOf]
  obtain ⟨gs, gt, tr, en, fs, fp, hB, hcc⟩ := id hI
  obtain ⟨b0, b1, b2, b3, b4, b5, b6, b7⟩ := id hB
  refine V.aload_n (pc := 0) 0 d_RR_status_0 rfl rfl ?_
  refine V.getf (pc := 1) 6 cl_RR fl_RR_42_RR d_RR_status_1 b0 (Nat.le_of_ble_eq_true rfl) rfl ?_
  refine V.ret (pc := 4) (r := some (vI _)) d_RR_status_4 (Or.inl rfl) rfl ?_
  exact qc_of (Nat.le_refl _) rfl hI
set_option maxRecDepth 20000 in
theorem cs_RR_trace (S : SS) (h : MH) (hI : CI S h) (i : Int) (sz : Nat) (hsz : 37 ≤ sz) : Ct M_RR_trace 0 0 0 [vR 0, vI i] h sz (QCI (sp_trace S i) sz) := by
  refine Ct.of rfl (Nat.le_of_ble_eq_true rfl) ?_
  dsimp only [lsOf]
  obtain ⟨gs, gt, tr, en, fs, fp, hB, hcc⟩ := id hI
  obtain ⟨b0, b1, b2, b3, b4, b5, b6, b7⟩ := id hB
  have ht16 := hcc.2.2.1.1
  refine V.iload_n (pc := 0) 1 d_RR_trace_0 rfl rfl ?_
  refine V.if_lt (tgt := 15) (pc := 1) d_RR_trace_1 (by decide) (fun c_1 => ?_) (fun c_1 => ?_)
  · skip
    refine V.ldc (pc := 15) (-1000000) ck_RR_117 rfl ⟨by decide, by decide⟩ d_RR_trace_15 ?_
    refine V.goto (tgt := 29) (pc := 17) d_RR_trace_17 (by decide) ?_
    refine V.ret (pc := 29) (r := some (vI _)) d_RR_trace_29 (Or.inl rfl) rfl ?_
    exact qc_of (Nat.le_refl _) (by unfold sp_trace; rw [if_neg (by omega)]) hI
  · skip
    refine V.iload_n (pc := 4) 1 d_RR_trace_4 rfl rfl ?_
    refine V.aload_n (pc := 5) 0 d_RR_trace_5 rfl rfl ?_
    refine V.getf (pc := 6) 2 cl_RR fl_RR_24_RR d_RR_trace_6 b0 (Nat.le_of_ble_eq_true rfl) rfl ?_
    refine V.getf (pc := 9) 1 cl_Tr fl_RR_155_Tr d_RR_trace_9 b3 (Nat.le_of_ble_eq_true rfl) rfl ?_
    refine V.icmp_lt (tgt := 20) (pc := 12) d_RR_trace_12 (by decide) (fun c_12 => ?_) (fun c_12 => ?_)
    · skip
      refine V.aload_n (pc := 20) 0 d_RR_trace_20 rfl rfl ?_
      refine V.getf (pc := 21) 2 cl_RR fl_RR_24_RR d_RR_trace_21 b0 (Nat.le_of_ble_eq_true rfl) rfl ?_
      refine V.getf (pc := 24) 0 cl_Tr fl_RR_168_Tr d_RR_trace_24 b3 (Nat.le_of_ble_eq_true rfl) rfl ?_
      refine V.iload_n (pc := 27) 1 d_RR_trace_27 rfl rfl ?_
      refine V.iald (pc := 28) d_RR_trace_28 b4 (by omega) (by omega) ?_
      refine V.ret (pc := 29) (r := some (vI _)) d_RR_trace_29 (Or.inl rfl) rfl ?_
      exact qc_of (Nat.le_refl _) (by unfold sp_trace; rw [if_pos (by omega), hcc.2.2.1.2 i.toNat (by omega)]) hI
    · skip
      refine V.ldc (pc := 15) (-1000000) ck_RR_117 rfl ⟨by decide, by decide⟩ d_RR_trace_15 ?_
      refine V.goto (tgt := 29) (pc := 17) d_RR_trace_17 (by decide) ?_
      refine V.ret (pc := 29) (r := some (vI _)) d_RR_trace_29 (Or.inl rfl) rfl ?_
      exact qc_of (Nat.le_refl _) (by unfold sp_trace; rw [if_neg (by omega)]) hI
set_option maxRecDepth 20000 in
theorem cs_RR_clear (S : SS) (h : MH) (hI : CI S h) (p : Int) (sz : Nat) (hsz : 37 ≤ sz) : Ct M_RR_clear 1 0 0 [vR 0, vI p] h sz (QCI (sp_clear S p) sz) := by
  refine Ct.of rfl (Nat.le_of_ble_eq_true rfl) ?_
  dsimp only [lsOf]
  obtain ⟨gs, gt, tr, en, fs, fp, hB, hcc⟩ := id hI
  obtain ⟨b0, b1, b2, b3, b4, b5, b6, b7⟩ := id hB
  refine V.iload_n (pc := 0) 1 d_RR_clear_0 rfl rfl ?_
  refine V.cS1 (pc := 1) (kc2 := 0) (ks2 := 0) ml_RR_80 (cc_RR_isPlace _ _ _) d_RR_clear_1 (Nat.le_of_ble_eq_true rfl) (Nat.le_of_ble_eq_true rfl) (Nat.le_of_ble_eq_true rfl) (Nat.le_of_ble_eq_true rfl) ?_
  rintro _ _ _ ⟨rfl, rfl, rfl⟩
  dsimp only [Option.toList, List.cons_append, List.nil_append]
  refine V.ifB_ne (tgt := 10) (pc := 4) d_RR_clear_4 (by decide) (fun c_4 => ?_) (fun c_4 => ?_)
  · skip
    rcases cth_cases (hcc.2.2.2.2 p.toNat (by omega)) with ⟨hS, hgt⟩ | ⟨kd, n, s, sb, a, hS, hgt, hth⟩
    rotate_left
    have hwk := wf_kind hth.1
    · skip
      refine V.aload_n (pc := 10) 0 d_RR_clear_10 rfl rfl ?_
      refine V.getf (pc := 11) 1 cl_RR fl_RR_17_RR d_RR_clear_11 b0 (Nat.le_of_ble_eq_true rfl) rfl ?_
      refine V.iload_n (pc := 14) 1 d_RR_clear_14 rfl rfl ?_
      refine V.aald1 (pc := 15) d_RR_clear_15 b2 (by omega) (by omega) ?_
      rw [hgt]
      refine V.ifnonnull (tgt := 23) (pc := 16) d_RR_clear_16 (by decide) (fun a_16 c_16 => ?_) (fun c_16 => ?_)
      · skip
        refine V.iconst (pc := 23) d_RR_clear_23 ⟨by decide, by decide⟩ ?_
        refine V.istore_n (pc := 24) 2 d_RR_clear_24 rfl (Nat.le_of_ble_eq_true rfl) rfl ?_
        dsimp only [put]
        refine V.aload_n (pc := 25) 0 d_RR_clear_25 rfl rfl ?_
        refine V.getf (pc := 26) 1 cl_RR fl_RR_17_RR d_RR_clear_26 b0 (Nat.le_of_ble_eq_true rfl) rfl ?_
        refine V.iload_n (pc := 29) 1 d_RR_clear_29 rfl rfl ?_
        refine V.anull (pc := 30) d_RR_clear_30 ?_
        refine V.aastN1 (pc := 31) d_RR_clear_31 b2 (by omega) (by omega) ?_
        refine V.iload_n (pc := 32) 2 d_RR_clear_32 rfl rfl ?_
        refine V.ret (pc := 33) (r := some (vI _)) d_RR_clear_33 (Or.inl rfl) rfl ?_
        refine qc_of (S2 := (S.1, ups S.2.1 p.toNat none, S.2.2)) (Nat.le_refl _) ?_ ?_
        · unfold sp_clear; rw [if_pos (by omega)]; simp only [hS]
        · have e9 : upq gt p.toNat none p.toNat = none := by unfold upq; rw [if_pos rfl]
          have := hcc.put (show p.toNat < 10 by omega) (o := none) (v := none) S.2.2.1 e9 (kR 1 10 (upq gt p.toNat none))
          exact ⟨gs, _, tr, en, fs, fp, ⟨hset_o (by decide) b0, hset_o (by decide) b1, hset_s, hset_o (by decide) b3, hset_o (by decide) b4, hset_o (by decide) b5, hset_o (by decide) b6, hset_o (by decide) b7⟩, this⟩
      · skip
        cases c_16
    · skip
      refine V.aload_n (pc := 10) 0 d_RR_clear_10 rfl rfl ?_
      refine V.getf (pc := 11) 1 cl_RR fl_RR_17_RR d_RR_clear_11 b0 (Nat.le_of_ble_eq_true rfl) rfl ?_
      refine V.iload_n (pc := 14) 1 d_RR_clear_14 rfl rfl ?_
      refine V.aald1 (pc := 15) d_RR_clear_15 b2 (by omega) (by omega) ?_
      rw [hgt]
      refine V.ifnonnull (tgt := 23) (pc := 16) d_RR_clear_16 (by decide) (fun a_16 c_16 => ?_) (fun c_16 => ?_)
      · skip
        cases c_16
      · skip
        refine V.iconst (pc := 19) d_RR_clear_19 ⟨by decide, by decide⟩ ?_
        refine V.goto (tgt := 24) (pc := 20) d_RR_clear_20 (by decide) ?_
        refine V.istore_n (pc := 24) 2 d_RR_clear_24 rfl (Nat.le_of_ble_eq_true rfl) rfl ?_
        dsimp only [put]
        refine V.aload_n (pc := 25) 0 d_RR_clear_25 rfl rfl ?_
        refine V.getf (pc := 26) 1 cl_RR fl_RR_17_RR d_RR_clear_26 b0 (Nat.le_of_ble_eq_true rfl) rfl ?_
        refine V.iload_n (pc := 29) 1 d_RR_clear_29 rfl rfl ?_
        refine V.anull (pc := 30) d_RR_clear_30 ?_
        refine V.aastN1 (pc := 31) d_RR_clear_31 b2 (by omega) (by omega) ?_
        refine V.iload_n (pc := 32) 2 d_RR_clear_32 rfl rfl ?_
        refine V.ret (pc := 33) (r := some (vI _)) d_RR_clear_33 (Or.inl rfl) rfl ?_
        refine qc_of (S2 := S) (Nat.le_refl _) ?_ ?_
        · unfold sp_clear; rw [if_pos (by omega)]; simp only [hS]
        · rw [upq_id hgt, hset_id b2]; exact hI
  · skip
    refine V.ldc (pc := 7) (-1000001) ck_RR_50 rfl ⟨by decide, by decide⟩ d_RR_clear_7 ?_
    refine V.ret (pc := 9) (r := some (vI _)) d_RR_clear_9 (Or.inl rfl) rfl ?_
    exact qc_of (Nat.le_refl _) (by unfold sp_clear; rw [if_neg (by omega)]) hI
set_option maxRecDepth 20000 in
theorem cs_RR_kind (S : SS) (h : MH) (hI : CI S h) (p : Int) (sz : Nat) (hsz : 37 ≤ sz) : Ct M_RR_kind 2 0 0 [vR 0, vI p] h sz (QCI (sp_kind S p) sz) := by
  refine Ct.of rfl (Nat.le_of_ble_eq_true rfl) ?_
  dsimp only [lsOf]
  obtain ⟨gs, gt, tr, en, fs, fp, hB, hcc⟩ := id hI
  obtain ⟨b0, b1, b2, b3, b4, b5, b6, b7⟩ := id hB
  refine V.iload_n (pc := 0) 1 d_RR_kind_0 rfl rfl ?_
  refine V.cS1 (pc := 1) (kc2 := 0) (ks2 := 0) ml_RR_80 (cc_RR_isPlace _ _ _) d_RR_kind_1 (Nat.le_of_ble_eq_true rfl) (Nat.le_of_ble_eq_true rfl) (Nat.le_of_ble_eq_true rfl) (Nat.le_of_ble_eq_true rfl) ?_
  rintro _ _ _ ⟨rfl, rfl, rfl⟩
  dsimp only [Option.toList, List.cons_append, List.nil_append]
  refine V.ifB_ne (tgt := 10) (pc := 4) d_RR_kind_4 (by decide) (fun c_4 => ?_) (fun c_4 => ?_)
  · skip
    rcases cth_cases (hcc.2.2.2.2 p.toNat (by omega)) with ⟨hS, hgt⟩ | ⟨kd, n, s, sb, a, hS, hgt, hth⟩
    rotate_left
    have hwk := wf_kind hth.1
    · skip
      obtain ⟨C2, M2, ci2, N2, T2, ty2, fs2, hlk, hob2, htd⟩ := hth.told
      refine V.aload_n (pc := 10) 0 d_RR_kind_10 rfl rfl ?_
      refine V.getf (pc := 11) 1 cl_RR fl_RR_17_RR d_RR_kind_11 b0 (Nat.le_of_ble_eq_true rfl) rfl ?_
      refine V.iload_n (pc := 14) 1 d_RR_kind_14 rfl rfl ?_
      refine V.aald1 (pc := 15) d_RR_kind_15 b2 (by omega) (by omega) ?_
      rw [hgt]
      refine V.astore_n (pc := 16) 2 d_RR_kind_16 rfl (Nat.le_of_ble_eq_true rfl) rfl ?_
      dsimp only [put]
      refine V.aload_n (pc := 17) 2 d_RR_kind_17 rfl rfl ?_
      refine V.ifnonnull (tgt := 29) (pc := 18) d_RR_kind_18 (by decide) (fun a_18 c_18 => ?_) (fun c_18 => ?_)
      · skip
        refine V.aload_n (pc := 29) 0 d_RR_kind_29 rfl rfl ?_
        refine V.aload_n (pc := 30) 2 d_RR_kind_30 rfl rfl ?_
        refine V.cU0 (pc := 31) (kc2 := 0) (ks2 := 0) hlk hob2 (htd _ _) d_RR_kind_31 (Nat.le_of_ble_eq_true rfl) (Nat.le_of_ble_eq_true rfl) (Nat.le_of_ble_eq_true rfl) (Nat.le_of_ble_eq_true rfl) ?_
        rintro _ _ _ ⟨rfl, rfl, rfl⟩
        dsimp only [Option.toList, List.cons_append, List.nil_append]
        refine V.cV1 (pc := 34) (kc2 := 0) (ks2 := 0) ml_RR_58 b0 (cc_RR_settled _ _ _ b0 _) d_RR_kind_34 (Nat.le_of_ble_eq_true rfl) (Nat.le_of_ble_eq_true rfl) (Nat.le_of_ble_eq_true rfl) (Nat.le_of_ble_eq_true rfl) ?_
        rintro _ _ _ ⟨rfl, rfl, rfl⟩
        dsimp only [Option.toList, List.cons_append, List.nil_append]
        refine V.ret (pc := 37) (r := some (vI _)) d_RR_kind_37 (Or.inl rfl) rfl ?_
        refine qc_of (S2 := sSt S 0) (Nat.le_refl _) ?_ (hI.st 0)
        unfold sp_kind; rw [if_pos (by omega)]; simp only [hS]
      · skip
        cases c_18
    · skip
      refine V.aload_n (pc := 10) 0 d_RR_kind_10 rfl rfl ?_
      refine V.getf (pc := 11) 1 cl_RR fl_RR_17_RR d_RR_kind_11 b0 (Nat.le_of_ble_eq_true rfl) rfl ?_
      refine V.iload_n (pc := 14) 1 d_RR_kind_14 rfl rfl ?_
      refine V.aald1 (pc := 15) d_RR_kind_15 b2 (by omega) (by omega) ?_
      rw [hgt]
      refine V.astore_n (pc := 16) 2 d_RR_kind_16 rfl (Nat.le_of_ble_eq_true rfl) rfl ?_
      dsimp only [put]
      refine V.aload_n (pc := 17) 2 d_RR_kind_17 rfl rfl ?_
      refine V.ifnonnull (tgt := 29) (pc := 18) d_RR_kind_18 (by decide) (fun a_18 c_18 => ?_) (fun c_18 => ?_)
      · skip
        cases c_18
      · skip
        refine V.aload_n (pc := 21) 0 d_RR_kind_21 rfl rfl ?_
        refine V.iconst (pc := 22) d_RR_kind_22 ⟨by decide, by decide⟩ ?_
        refine V.cV1 (pc := 23) (kc2 := 0) (ks2 := 0) ml_RR_51 b0 (cc_RR_found _ _ (by omega) _ b0 _) d_RR_kind_23 (Nat.le_of_ble_eq_true rfl) (Nat.le_of_ble_eq_true rfl) (Nat.le_of_ble_eq_true rfl) (Nat.le_of_ble_eq_true rfl) ?_
        rintro _ _ _ ⟨rfl, rfl, rfl⟩
        dsimp only [Option.toList, List.cons_append, List.nil_append]
        first | rw [fi1] | rw [fi2] | rw [fi3] | rw [fi4] | rw [fi5]
        refine V.goto (tgt := 37) (pc := 26) d_RR_kind_26 (by decide) ?_
        refine V.ret (pc := 37) (r := some (vI _)) d_RR_kind_37 (Or.inl rfl) rfl ?_
        refine qc_of (S2 := sSt S 1) (Nat.le_refl _) ?_ (hI.st 1)
        unfold sp_kind; rw [if_pos (by omega)]; simp only [hS]
  · skip
    refine V.ldc (pc := 7) (-1000001) ck_RR_50 rfl ⟨by decide, by decide⟩ d_RR_kind_7 ?_
    refine V.ret (pc := 9) (r := some (vI _)) d_RR_kind_9 (Or.inl rfl) rfl ?_
    exact qc_of (Nat.le_refl _) (by unfold sp_kind; rw [if_neg (by omega)]) hI
set_option maxRecDepth 20000 in
theorem cs_RR_is (S : SS) (h : MH) (hI : CI S h) (p k : Int) (sz : Nat) (hsz : 37 ≤ sz) : Ct M_RR_is 1 0 0 [vR 0, vI p, vI k] h sz (QCI (sp_is S p k) sz) := by
  refine Ct.of rfl (Nat.le_of_ble_eq_true rfl) ?_
  dsimp only [lsOf]
  obtain ⟨gs, gt, tr, en, fs, fp, hB, hcc⟩ := id hI
  obtain ⟨b0, b1, b2, b3, b4, b5, b6, b7⟩ := id hB
  refine V.iload_n (pc := 0) 1 d_RR_is_0 rfl rfl ?_
  refine V.cS1 (pc := 1) (kc2 := 0) (ks2 := 0) ml_RR_80 (cc_RR_isPlace _ _ _) d_RR_is_1 (Nat.le_of_ble_eq_true rfl) (Nat.le_of_ble_eq_true rfl) (Nat.le_of_ble_eq_true rfl) (Nat.le_of_ble_eq_true rfl) ?_
  rintro _ _ _ ⟨rfl, rfl, rfl⟩
  dsimp only [Option.toList, List.cons_append, List.nil_append]
  refine V.ifB_eq (tgt := 17) (pc := 4) d_RR_is_4 (by decide) (fun c_4 => ?_) (fun c_4 => ?_)
  · skip
    refine V.ldc (pc := 17) (-1000001) ck_RR_50 rfl ⟨by decide, by decide⟩ d_RR_is_17 ?_
    refine V.ret (pc := 19) (r := some (vI _)) d_RR_is_19 (Or.inl rfl) rfl ?_
    exact qc_of (Nat.le_refl _) (by unfold sp_is; rw [if_neg (by omega)]) hI
  · skip
    refine V.iload_n (pc := 7) 2 d_RR_is_7 rfl rfl ?_
    refine V.if_lt (tgt := 17) (pc := 8) d_RR_is_8 (by decide) (fun c_8 => ?_) (fun c_8 => ?_)
    · skip
      refine V.ldc (pc := 17) (-1000001) ck_RR_50 rfl ⟨by decide, by decide⟩ d_RR_is_17 ?_
      refine V.ret (pc := 19) (r := some (vI _)) d_RR_is_19 (Or.inl rfl) rfl ?_
      exact qc_of (Nat.le_refl _) (by unfold sp_is; rw [if_neg (by omega)]) hI
    · skip
      refine V.iload_n (pc := 11) 2 d_RR_is_11 rfl rfl ?_
      refine V.bipush (pc := 12) d_RR_is_12 ⟨by decide, by decide⟩ ?_
      refine V.icmp_lt (tgt := 20) (pc := 14) d_RR_is_14 (by decide) (fun c_14 => ?_) (fun c_14 => ?_)
      · skip
        rcases cth_cases (hcc.2.2.2.2 p.toNat (by omega)) with ⟨hS, hgt⟩ | ⟨kd, n, s, sb, a, hS, hgt, hth⟩
        rotate_left
        have hwk := wf_kind hth.1
        · skip
          obtain ⟨ha37, ci, N, T, ty, fs9, hC, hob, hfl, hN0, hf0⟩ := hth.ob2
          refine V.aload_n (pc := 20) 0 d_RR_is_20 rfl rfl ?_
          refine V.getf (pc := 21) 1 cl_RR fl_RR_17_RR d_RR_is_21 b0 (Nat.le_of_ble_eq_true rfl) rfl ?_
          refine V.iload_n (pc := 24) 1 d_RR_is_24 rfl rfl ?_
          refine V.aald1 (pc := 25) d_RR_is_25 b2 (by omega) (by omega) ?_
          rw [hgt]
          refine V.iload_n (pc := 26) 2 d_RR_is_26 rfl rfl ?_
          refine V.cS2 (pc := 27) (kc2 := 0) (ks2 := 0) ml_RR_150 (cc_RR_isOfKind _ kd _ (by omega) _ ⟨⟨by omega, by omega⟩, ci, N, T, ty, fs9, hC, hob⟩ _) d_RR_is_27 (Nat.le_of_ble_eq_true rfl) (Nat.le_of_ble_eq_true rfl) (Nat.le_of_ble_eq_true rfl) (Nat.le_of_ble_eq_true rfl) ?_
          rintro _ _ _ ⟨rfl, rfl, rfl⟩
          dsimp only [Option.toList, List.cons_append, List.nil_append]
          refine V.ifB_eq (tgt := 37) (pc := 30) d_RR_is_30 (by decide) (fun c_30 => ?_) (fun c_30 => ?_)
          · skip
            refine V.iconst (pc := 37) d_RR_is_37 ⟨by decide, by decide⟩ ?_
            refine V.ret (pc := 38) (r := some (vI _)) d_RR_is_38 (Or.inl rfl) rfl ?_
            refine qc_of (S2 := S) (Nat.le_refl _) ?_ hI
            unfold sp_is; rw [if_pos (by omega)]; simp only [hS]; rw [if_neg c_30]
          · skip
            refine V.iconst (pc := 33) d_RR_is_33 ⟨by decide, by decide⟩ ?_
            refine V.goto (tgt := 38) (pc := 34) d_RR_is_34 (by decide) ?_
            refine V.ret (pc := 38) (r := some (vI _)) d_RR_is_38 (Or.inl rfl) rfl ?_
            refine qc_of (S2 := S) (Nat.le_refl _) ?_ hI
            unfold sp_is; rw [if_pos (by omega)]; simp only [hS]; rw [if_pos c_30]
        · skip
          refine V.aload_n (pc := 20) 0 d_RR_is_20 rfl rfl ?_
          refine V.getf (pc := 21) 1 cl_RR fl_RR_17_RR d_RR_is_21 b0 (Nat.le_of_ble_eq_true rfl) rfl ?_
          refine V.iload_n (pc := 24) 1 d_RR_is_24 rfl rfl ?_
          refine V.aald1 (pc := 25) d_RR_is_25 b2 (by omega) (by omega) ?_
          rw [hgt]
          refine V.iload_n (pc := 26) 2 d_RR_is_26 rfl rfl ?_
          refine V.cS2 (pc := 27) (kc2 := 0) (ks2 := 0) ml_RR_150 (cc_RR_isOfKindN _ (by omega) _ _) d_RR_is_27 (Nat.le_of_ble_eq_true rfl) (Nat.le_of_ble_eq_true rfl) (Nat.le_of_ble_eq_true rfl) (Nat.le_of_ble_eq_true rfl) ?_
          rintro _ _ _ ⟨rfl, rfl, rfl⟩
          dsimp only [Option.toList, List.cons_append, List.nil_append]
          refine V.if_eq (tgt := 37) (pc := 30) d_RR_is_30 (by decide) (fun c_30 => ?_) (fun c_30 => ?_)
          · skip
            refine V.iconst (pc := 37) d_RR_is_37 ⟨by decide, by decide⟩ ?_
            refine V.ret (pc := 38) (r := some (vI _)) d_RR_is_38 (Or.inl rfl) rfl ?_
            refine qc_of (S2 := S) (Nat.le_refl _) ?_ hI
            unfold sp_is; rw [if_pos (by omega)]; simp only [hS]
          · skip
            exact absurd rfl c_30
      · skip
        refine V.ldc (pc := 17) (-1000001) ck_RR_50 rfl ⟨by decide, by decide⟩ d_RR_is_17 ?_
        refine V.ret (pc := 19) (r := some (vI _)) d_RR_is_19 (Or.inl rfl) rfl ?_
        exact qc_of (Nat.le_refl _) (by unfold sp_is; rw [if_neg (by omega)]) hI
set_option maxRecDepth 20000 in
theorem cs_RR_as (S : SS) (h : MH) (hI : CI S h) (p k : Int) (sz : Nat) (hsz : 37 ≤ sz) : Ct M_RR_as 1 0 0 [vR 0, vI p, vI k] h sz (QCI (sp_as S p k) sz) := by
  refine Ct.of rfl (Nat.le_of_ble_eq_true rfl) ?_
  dsimp only [lsOf]
  obtain ⟨gs, gt, tr, en, fs, fp, hB, hcc⟩ := id hI
  obtain ⟨b0, b1, b2, b3, b4, b5, b6, b7⟩ := id hB
  refine V.iload_n (pc := 0) 1 d_RR_as_0 rfl rfl ?_
  refine V.cS1 (pc := 1) (kc2 := 0) (ks2 := 0) ml_RR_80 (cc_RR_isPlace _ _ _) d_RR_as_1 (Nat.le_of_ble_eq_true rfl) (Nat.le_of_ble_eq_true rfl) (Nat.le_of_ble_eq_true rfl) (Nat.le_of_ble_eq_true rfl) ?_
  rintro _ _ _ ⟨rfl, rfl, rfl⟩
  dsimp only [Option.toList, List.cons_append, List.nil_append]
  refine V.ifB_eq (tgt := 17) (pc := 4) d_RR_as_4 (by decide) (fun c_4 => ?_) (fun c_4 => ?_)
  · skip
    refine V.ldc (pc := 17) (-1000001) ck_RR_50 rfl ⟨by decide, by decide⟩ d_RR_as_17 ?_
    refine V.ret (pc := 19) (r := some (vI _)) d_RR_as_19 (Or.inl rfl) rfl ?_
    exact qc_of (Nat.le_refl _) (by unfold sp_as; rw [if_neg (by omega)]) hI
  · skip
    refine V.iload_n (pc := 7) 2 d_RR_as_7 rfl rfl ?_
    refine V.if_lt (tgt := 17) (pc := 8) d_RR_as_8 (by decide) (fun c_8 => ?_) (fun c_8 => ?_)
    · skip
      refine V.ldc (pc := 17) (-1000001) ck_RR_50 rfl ⟨by decide, by decide⟩ d_RR_as_17 ?_
      refine V.ret (pc := 19) (r := some (vI _)) d_RR_as_19 (Or.inl rfl) rfl ?_
      exact qc_of (Nat.le_refl _) (by unfold sp_as; rw [if_neg (by omega)]) hI
    · skip
      refine V.iload_n (pc := 11) 2 d_RR_as_11 rfl rfl ?_
      refine V.bipush (pc := 12) d_RR_as_12 ⟨by decide, by decide⟩ ?_
      refine V.icmp_lt (tgt := 20) (pc := 14) d_RR_as_14 (by decide) (fun c_14 => ?_) (fun c_14 => ?_)
      · skip
        rcases cth_cases (hcc.2.2.2.2 p.toNat (by omega)) with ⟨hS, hgt⟩ | ⟨kd, n, s, sb, a, hS, hgt, hth⟩
        rotate_left
        have hwk := wf_kind hth.1
        · skip
          obtain ⟨ha37, ci, N, T, ty, fs9, hC, hob, hfl, hN0, hf0⟩ := hth.ob2
          refine V.aload_n (pc := 20) 0 d_RR_as_20 rfl rfl ?_
          refine V.getf (pc := 21) 1 cl_RR fl_RR_17_RR d_RR_as_21 b0 (Nat.le_of_ble_eq_true rfl) rfl ?_
          refine V.iload_n (pc := 24) 1 d_RR_as_24 rfl rfl ?_
          refine V.aald1 (pc := 25) d_RR_as_25 b2 (by omega) (by omega) ?_
          rw [hgt]
          refine V.astore_n (pc := 26) 3 d_RR_as_26 rfl (Nat.le_of_ble_eq_true rfl) rfl ?_
          dsimp only [put]
          refine V.aload_n (pc := 27) 3 d_RR_as_27 rfl rfl ?_
          refine V.ifnonnull (tgt := 37) (pc := 28) d_RR_as_28 (by decide) (fun a_28 c_28 => ?_) (fun c_28 => ?_)
          · skip
            refine V.aload_n (pc := 37) 3 d_RR_as_37 rfl rfl ?_
            refine V.iload_n (pc := 38) 2 d_RR_as_38 rfl rfl ?_
            refine V.cS2 (pc := 39) (kc2 := 0) (ks2 := 0) ml_RR_150 (cc_RR_isOfKind _ kd _ (by omega) _ ⟨⟨by omega, by omega⟩, ci, N, T, ty, fs9, hC, hob⟩ _) d_RR_as_39 (Nat.le_of_ble_eq_true rfl) (Nat.le_of_ble_eq_true rfl) (Nat.le_of_ble_eq_true rfl) (Nat.le_of_ble_eq_true rfl) ?_
            rintro _ _ _ ⟨rfl, rfl, rfl⟩
            dsimp only [Option.toList, List.cons_append, List.nil_append]
            refine V.ifB_eq (tgt := 56) (pc := 42) d_RR_as_42 (by decide) (fun c_42 => ?_) (fun c_42 => ?_)
            · skip
              refine V.aload_n (pc := 56) 0 d_RR_as_56 rfl rfl ?_
              refine V.iconst (pc := 57) d_RR_as_57 ⟨by decide, by decide⟩ ?_
              refine V.cV1 (pc := 58) (kc2 := 0) (ks2 := 0) ml_RR_51 b0 (cc_RR_found _ _ (by omega) _ b0 _) d_RR_as_58 (Nat.le_of_ble_eq_true rfl) (Nat.le_of_ble_eq_true rfl) (Nat.le_of_ble_eq_true rfl) (Nat.le_of_ble_eq_true rfl) ?_
              rintro _ _ _ ⟨rfl, rfl, rfl⟩
              dsimp only [Option.toList, List.cons_append, List.nil_append]
              first | rw [fi1] | rw [fi2] | rw [fi3] | rw [fi4] | rw [fi5]
              refine V.ret (pc := 61) (r := some (vI _)) d_RR_as_61 (Or.inl rfl) rfl ?_
              refine qc_of (S2 := sSt S 3) (Nat.le_refl _) ?_ (hI.st 3)
              unfold sp_as; rw [if_pos (by omega)]; simp only [hS]; rw [if_neg c_42]
            · skip
              refine V.aload_n (pc := 45) 0 d_RR_as_45 rfl rfl ?_
              refine V.aload_n (pc := 46) 3 d_RR_as_46 rfl rfl ?_
              refine V.getf (pc := 47) 0 hC hfl d_RR_as_47 hob hN0 hf0 ?_
              refine V.cV1 (pc := 50) (kc2 := 0) (ks2 := 0) ml_RR_58 b0 (cc_RR_settled _ _ _ b0 _) d_RR_as_50 (Nat.le_of_ble_eq_true rfl) (Nat.le_of_ble_eq_true rfl) (Nat.le_of_ble_eq_true rfl) (Nat.le_of_ble_eq_true rfl) ?_
              rintro _ _ _ ⟨rfl, rfl, rfl⟩
              dsimp only [Option.toList, List.cons_append, List.nil_append]
              refine V.goto (tgt := 61) (pc := 53) d_RR_as_53 (by decide) ?_
              refine V.ret (pc := 61) (r := some (vI _)) d_RR_as_61 (Or.inl rfl) rfl ?_
              refine qc_of (S2 := sSt S 0) (Nat.le_refl _) ?_ (hI.st 0)
              unfold sp_as; rw [if_pos (by omega)]; simp only [hS]; rw [if_pos c_42]
          · skip
            cases c_28
        · skip
          refine V.aload_n (pc := 20) 0 d_RR_as_20 rfl rfl ?_
          refine V.getf (pc := 21) 1 cl_RR fl_RR_17_RR d_RR_as_21 b0 (Nat.le_of_ble_eq_true rfl) rfl ?_
          refine V.iload_n (pc := 24) 1 d_RR_as_24 rfl rfl ?_
          refine V.aald1 (pc := 25) d_RR_as_25 b2 (by omega) (by omega) ?_
          rw [hgt]
          refine V.astore_n (pc := 26) 3 d_RR_as_26 rfl (Nat.le_of_ble_eq_true rfl) rfl ?_
          dsimp only [put]
          refine V.aload_n (pc := 27) 3 d_RR_as_27 rfl rfl ?_
          refine V.ifnonnull (tgt := 37) (pc := 28) d_RR_as_28 (by decide) (fun a_28 c_28 => ?_) (fun c_28 => ?_)
          · skip
            cases c_28
          · skip
            refine V.aload_n (pc := 31) 0 d_RR_as_31 rfl rfl ?_
            refine V.iconst (pc := 32) d_RR_as_32 ⟨by decide, by decide⟩ ?_
            refine V.cV1 (pc := 33) (kc2 := 0) (ks2 := 0) ml_RR_51 b0 (cc_RR_found _ _ (by omega) _ b0 _) d_RR_as_33 (Nat.le_of_ble_eq_true rfl) (Nat.le_of_ble_eq_true rfl) (Nat.le_of_ble_eq_true rfl) (Nat.le_of_ble_eq_true rfl) ?_
            rintro _ _ _ ⟨rfl, rfl, rfl⟩
            dsimp only [Option.toList, List.cons_append, List.nil_append]
            first | rw [fi1] | rw [fi2] | rw [fi3] | rw [fi4] | rw [fi5]
            refine V.ret (pc := 36) (r := some (vI _)) d_RR_as_36 (Or.inl rfl) rfl ?_
            refine qc_of (S2 := sSt S 1) (Nat.le_refl _) ?_ (hI.st 1)
            unfold sp_as; rw [if_pos (by omega)]; simp only [hS]
      · skip
        refine V.ldc (pc := 17) (-1000001) ck_RR_50 rfl ⟨by decide, by decide⟩ d_RR_as_17 ?_
        refine V.ret (pc := 19) (r := some (vI _)) d_RR_as_19 (Or.inl rfl) rfl ?_
        exact qc_of (Nat.le_refl _) (by unfold sp_as; rw [if_neg (by omega)]) hI
theorem Th.row {h : MH} {a : Nat} {k : Int} {n : Nat} {s b : Nat → Int} (g : Th h a (k, n, s, b)) (hof : isOf k 1) : ∃ (ci N : Nat) (T : u_T) (ty : Nat → FieldType) (fs : List MV), Cls ci (cnm k) T N ty ∧ h a = some (kO ci fs) ∧ FL "RiverRoad" 173 T 0 ∧ FL "RiverRoad" 177 T 1 ∧ 1 < N ∧ fs[0]? = some (vI (n : Int)) ∧ fs[1]? = some (vL (pls s (2 * n) : Int)) ∧ ∀ p, p < 2 * n → s p = 1 ∨ s p = -1 := by
  obtain ⟨w, g⟩ := g
  have hw := wf_kind w
  have hsg : ∀ p, p < 2 * n → s p = 1 ∨ s p = -1 := by
    obtain ⟨-, -, h3⟩ := w
    rcases h3 with h3 | h3 | h3
    · exact h3.2.2.1
    · have := h3.1; omega
    · have := h3.1; omega
  rcases g with ⟨g1, g2, g3⟩ | g | g | g
  · have e : k = 1 := g1
    subst e
    exact ⟨3, 2, F_Row, t_Row, _, cl_Row, g3, fl_RR_173_Row, fl_RR_177_Row, by decide, rfl, rfl, hsg⟩
  · obtain ⟨g1, g2, c, f, g3, g4, g5, g6⟩ := g
    exact ⟨_, _, _, _, _, cl_rci g1, g4, fl_RR_173_Ar, fl_RR_177_Ar, by decide, rfl, rfl, hsg⟩
  · have : k = 5 ∨ k = 6 := g.1
    omega
  · have : k = 7 ∨ k = 8 := g.1
    omega
set_option maxRecDepth 20000 in
theorem cs_RR_sign (S : SS) (h : MH) (hI : CI S h) (p q : Int) (sz : Nat) (hsz : 37 ≤ sz) : Ct M_RR_sign 2 0 0 [vR 0, vI p, vI q] h sz (QCI (sp_sign S p q) sz) := by
  refine Ct.of rfl (Nat.le_of_ble_eq_true rfl) ?_
  dsimp only [lsOf]
  obtain ⟨gs, gt, tr, en, fs, fp, hB, hcc⟩ := id hI
  obtain ⟨b0, b1, b2, b3, b4, b5, b6, b7⟩ := id hB
  refine V.iload_n (pc := 0) 1 d_RR_sign_0 rfl rfl ?_
  refine V.cS1 (pc := 1) (kc2 := 0) (ks2 := 0) ml_RR_80 (cc_RR_isPlace _ _ _) d_RR_sign_1 (Nat.le_of_ble_eq_true rfl) (Nat.le_of_ble_eq_true rfl) (Nat.le_of_ble_eq_true rfl) (Nat.le_of_ble_eq_true rfl) ?_
  rintro _ _ _ ⟨rfl, rfl, rfl⟩
  dsimp only [Option.toList, List.cons_append, List.nil_append]
  refine V.ifB_ne (tgt := 10) (pc := 4) d_RR_sign_4 (by decide) (fun c_4 => ?_) (fun c_4 => ?_)
  · skip
    rcases cth_cases (hcc.2.2.2.2 p.toNat (by omega)) with ⟨hS, hgt⟩ | ⟨kd, n, s, sb, a, hS, hgt, hth⟩
    rotate_left
    have hwk := wf_kind hth.1
    by_cases hof : isOf kd 1
    · skip
      obtain ⟨ci, N, T, ty, fs9, hC, hob, hf0, hf1, hN1, hv0, hv1, hsg⟩ := hth.row hof
      refine V.aload_n (pc := 10) 0 d_RR_sign_10 rfl rfl ?_
      refine V.getf (pc := 11) 1 cl_RR fl_RR_17_RR d_RR_sign_11 b0 (Nat.le_of_ble_eq_true rfl) rfl ?_
      refine V.iload_n (pc := 14) 1 d_RR_sign_14 rfl rfl ?_
      refine V.aald1 (pc := 15) d_RR_sign_15 b2 (by omega) (by omega) ?_
      rw [hgt]
      refine V.astore (pc := 16) d_RR_sign_16 (Nat.le_of_ble_eq_true rfl) rfl ?_
      dsimp only [put]
      refine V.aload (pc := 18) d_RR_sign_18 rfl ?_
      refine V.instY (pc := 20) "RiverRoad$Row" hC (ins_y (k := kd) (j := 1) (by omega) (by decide) hof) cl_RR_171 d_RR_sign_20 hob ?_
      refine V.if_eq (tgt := 35) (pc := 23) d_RR_sign_23 (by decide) (fun c_23 => ?_) (fun c_23 => ?_)
      · skip
        exact absurd c_23 (by decide)
      · skip
        refine V.aload (pc := 26) d_RR_sign_26 rfl ?_
        refine V.castY (pc := 28) "RiverRoad$Row" hC (ins_y (k := kd) (j := 1) (by omega) (by decide) hof) cl_RR_171 d_RR_sign_28 hob ?_
        refine V.astore_n (pc := 31) 3 d_RR_sign_31 rfl (Nat.le_of_ble_eq_true rfl) rfl ?_
        dsimp only [put]
        refine V.goto (tgt := 41) (pc := 32) d_RR_sign_32 (by decide) ?_
        refine V.aload_n (pc := 41) 3 d_RR_sign_41 rfl rfl ?_
        refine V.getf (pc := 42) 0 hC hf0 d_RR_sign_42 hob (by omega) hv0 ?_
        refine V.iload_n (pc := 45) 2 d_RR_sign_45 rfl rfl ?_
        refine V.cS2 (pc := 46) (kc2 := 0) (ks2 := 0) ml_RR_174 (cc_RR_isCrossing _ _ (by omega) _ _) d_RR_sign_46 (Nat.le_of_ble_eq_true rfl) (Nat.le_of_ble_eq_true rfl) (Nat.le_of_ble_eq_true rfl) (Nat.le_of_ble_eq_true rfl) ?_
        rintro _ _ _ ⟨rfl, rfl, rfl⟩
        dsimp only [Option.toList, List.cons_append, List.nil_append]
        refine V.ifB_ne (tgt := 55) (pc := 49) d_RR_sign_49 (by decide) (fun c_49 => ?_) (fun c_49 => ?_)
        · skip
          refine V.aload_n (pc := 55) 0 d_RR_sign_55 rfl rfl ?_
          refine V.aload_n (pc := 56) 3 d_RR_sign_56 rfl rfl ?_
          refine V.getf (pc := 57) 1 hC hf1 d_RR_sign_57 hob hN1 hv1 ?_
          have hp40 := pls_40 s (show 2 * n ≤ 40 by omega)
          refine V.iload_n (pc := 60) 2 d_RR_sign_60 rfl rfl ?_
          refine V.cS2 (pc := 61) (kc2 := 0) (ks2 := 0) ml_RR_178 (cc_RR_isPlus _ _ (by omega) (by omega) _ _) d_RR_sign_61 (Nat.le_of_ble_eq_true rfl) (Nat.le_of_ble_eq_true rfl) (Nat.le_of_ble_eq_true rfl) (Nat.le_of_ble_eq_true rfl) ?_
          rintro _ _ _ ⟨rfl, rfl, rfl⟩
          dsimp only [Option.toList, List.cons_append, List.nil_append]
          refine V.ifB_eq (tgt := 71) (pc := 64) d_RR_sign_64 (by decide) (fun c_64 => ?_) (fun c_64 => ?_)
          · skip
            refine V.iconst (pc := 71) d_RR_sign_71 ⟨by decide, by decide⟩ ?_
            refine V.cV1 (pc := 72) (kc2 := 0) (ks2 := 0) ml_RR_58 b0 (cc_RR_settled _ _ _ b0 _) d_RR_sign_72 (Nat.le_of_ble_eq_true rfl) (Nat.le_of_ble_eq_true rfl) (Nat.le_of_ble_eq_true rfl) (Nat.le_of_ble_eq_true rfl) ?_
            rintro _ _ _ ⟨rfl, rfl, rfl⟩
            dsimp only [Option.toList, List.cons_append, List.nil_append]
            refine V.ret (pc := 75) (r := some (vI _)) d_RR_sign_75 (Or.inl rfl) rfl ?_
            refine qc_of (S2 := sSt S 0) (Nat.le_refl _) ?_ (hI.st 0)
            unfold sp_sign; rw [if_pos (by omega)]; simp only [hS]; rw [if_pos hof, if_pos (by omega)]
            have hpb := pls_bit s (2 * n) q.toNat
            have hs9 := hsg q.toNat (by omega)
            have : s q.toNat = -1 := by
              rcases hs9 with z | z
              · exact absurd (hpb.mpr ⟨by omega, by omega⟩) c_64
              · exact z
            rw [this]
          · skip
            refine V.iconst (pc := 67) d_RR_sign_67 ⟨by decide, by decide⟩ ?_
            refine V.goto (tgt := 72) (pc := 68) d_RR_sign_68 (by decide) ?_
            refine V.cV1 (pc := 72) (kc2 := 0) (ks2 := 0) ml_RR_58 b0 (cc_RR_settled _ _ _ b0 _) d_RR_sign_72 (Nat.le_of_ble_eq_true rfl) (Nat.le_of_ble_eq_true rfl) (Nat.le_of_ble_eq_true rfl) (Nat.le_of_ble_eq_true rfl) ?_
            rintro _ _ _ ⟨rfl, rfl, rfl⟩
            dsimp only [Option.toList, List.cons_append, List.nil_append]
            refine V.ret (pc := 75) (r := some (vI _)) d_RR_sign_75 (Or.inl rfl) rfl ?_
            refine qc_of (S2 := sSt S 0) (Nat.le_refl _) ?_ (hI.st 0)
            unfold sp_sign; rw [if_pos (by omega)]; simp only [hS]; rw [if_pos hof, if_pos (by omega)]
            have hpb := pls_bit s (2 * n) q.toNat
            have hs9 := hsg q.toNat (by omega)
            have : s q.toNat = 1 := by
              rcases hs9 with z | z
              · exact z
              · have := (hpb.mp c_64).2; omega
            rw [this]
        · skip
          refine V.ldc (pc := 52) (-1000001) ck_RR_50 rfl ⟨by decide, by decide⟩ d_RR_sign_52 ?_
          refine V.ret (pc := 54) (r := some (vI _)) d_RR_sign_54 (Or.inl rfl) rfl ?_
          refine qc_of (S2 := S) (Nat.le_refl _) ?_ hI
          unfold sp_sign; rw [if_pos (by omega)]; simp only [hS]; rw [if_pos hof, if_neg (by omega)]
    · skip
      obtain ⟨ha37, ci, N, T, ty, fs9, hC, hob⟩ := hth.ob
      refine V.aload_n (pc := 10) 0 d_RR_sign_10 rfl rfl ?_
      refine V.getf (pc := 11) 1 cl_RR fl_RR_17_RR d_RR_sign_11 b0 (Nat.le_of_ble_eq_true rfl) rfl ?_
      refine V.iload_n (pc := 14) 1 d_RR_sign_14 rfl rfl ?_
      refine V.aald1 (pc := 15) d_RR_sign_15 b2 (by omega) (by omega) ?_
      rw [hgt]
      refine V.astore (pc := 16) d_RR_sign_16 (Nat.le_of_ble_eq_true rfl) rfl ?_
      dsimp only [put]
      refine V.aload (pc := 18) d_RR_sign_18 rfl ?_
      refine V.instNo (pc := 20) "RiverRoad$Row" hC (ins_n (k := kd) (j := 1) (by omega) (by decide) hof) cl_RR_171 d_RR_sign_20 hob ?_
      refine V.if_eq (tgt := 35) (pc := 23) d_RR_sign_23 (by decide) (fun c_23 => ?_) (fun c_23 => ?_)
      · skip
        refine V.aload_n (pc := 35) 0 d_RR_sign_35 rfl rfl ?_
        refine V.iload_n (pc := 36) 1 d_RR_sign_36 rfl rfl ?_
        refine V.cV1 (pc := 37) (kc2 := 0) (ks2 := 0) ml_RR_93 b0 (cc_RR_notThatK _ _ (by omega) _ _ _ b0 b2 hgt _) d_RR_sign_37 (Nat.le_of_ble_eq_true rfl) (Nat.le_of_ble_eq_true rfl) (Nat.le_of_ble_eq_true rfl) (Nat.le_of_ble_eq_true rfl) ?_
        rintro _ _ _ ⟨rfl, rfl, rfl⟩
        dsimp only [Option.toList, List.cons_append, List.nil_append]
        refine V.ret (pc := 40) (r := some (vI _)) d_RR_sign_40 (Or.inl rfl) rfl ?_
        refine qc_of (S2 := sSt S 3) (Nat.le_refl _) ?_ (hI.st 3)
        unfold sp_sign; rw [if_pos (by omega)]; simp only [hS]; rw [if_neg hof]
      · skip
        exact absurd rfl c_23
    · skip
      refine V.aload_n (pc := 10) 0 d_RR_sign_10 rfl rfl ?_
      refine V.getf (pc := 11) 1 cl_RR fl_RR_17_RR d_RR_sign_11 b0 (Nat.le_of_ble_eq_true rfl) rfl ?_
      refine V.iload_n (pc := 14) 1 d_RR_sign_14 rfl rfl ?_
      refine V.aald1 (pc := 15) d_RR_sign_15 b2 (by omega) (by omega) ?_
      rw [hgt]
      refine V.astore (pc := 16) d_RR_sign_16 (Nat.le_of_ble_eq_true rfl) rfl ?_
      dsimp only [put]
      refine V.aload (pc := 18) d_RR_sign_18 rfl ?_
      refine V.instN (pc := 20) d_RR_sign_20 ?_
      refine V.if_eq (tgt := 35) (pc := 23) d_RR_sign_23 (by decide) (fun c_23 => ?_) (fun c_23 => ?_)
      · skip
        refine V.aload_n (pc := 35) 0 d_RR_sign_35 rfl rfl ?_
        refine V.iload_n (pc := 36) 1 d_RR_sign_36 rfl rfl ?_
        refine V.cV1 (pc := 37) (kc2 := 0) (ks2 := 0) ml_RR_93 b0 (cc_RR_notThatN _ _ (by omega) _ _ b0 b2 hgt _) d_RR_sign_37 (Nat.le_of_ble_eq_true rfl) (Nat.le_of_ble_eq_true rfl) (Nat.le_of_ble_eq_true rfl) (Nat.le_of_ble_eq_true rfl) ?_
        rintro _ _ _ ⟨rfl, rfl, rfl⟩
        dsimp only [Option.toList, List.cons_append, List.nil_append]
        refine V.ret (pc := 40) (r := some (vI _)) d_RR_sign_40 (Or.inl rfl) rfl ?_
        refine qc_of (S2 := sSt S 1) (Nat.le_refl _) ?_ (hI.st 1)
        unfold sp_sign; rw [if_pos (by omega)]; simp only [hS]
      · skip
        exact absurd rfl c_23
  · skip
    refine V.ldc (pc := 7) (-1000001) ck_RR_50 rfl ⟨by decide, by decide⟩ d_RR_sign_7 ?_
    refine V.ret (pc := 9) (r := some (vI _)) d_RR_sign_9 (Or.inl rfl) rfl ?_
    exact qc_of (Nat.le_refl _) (by unfold sp_sign; rw [if_neg (by omega)]) hI
set_option maxRecDepth 20000 in
theorem cs_RR_joined (S : SS) (h : MH) (hI : CI S h) (p q : Int) (sz : Nat) (hsz : 37 ≤ sz) : Ct M_RR_joined 2 0 0 [vR 0, vI p, vI q] h sz (QCI (sp_joined S p q) sz) := by
  refine Ct.of rfl (Nat.le_of_ble_eq_true rfl) ?_
  dsimp only [lsOf]
  obtain ⟨gs, gt, tr, en, fs, fp, hB, hcc⟩ := id hI
  obtain ⟨b0, b1, b2, b3, b4, b5, b6, b7⟩ := id hB
  refine V.iload_n (pc := 0) 1 d_RR_joined_0 rfl rfl ?_
  refine V.cS1 (pc := 1) (kc2 := 0) (ks2 := 0) ml_RR_80 (cc_RR_isPlace _ _ _) d_RR_joined_1 (Nat.le_of_ble_eq_true rfl) (Nat.le_of_ble_eq_true rfl) (Nat.le_of_ble_eq_true rfl) (Nat.le_of_ble_eq_true rfl) ?_
  rintro _ _ _ ⟨rfl, rfl, rfl⟩
  dsimp only [Option.toList, List.cons_append, List.nil_append]
  refine V.ifB_ne (tgt := 10) (pc := 4) d_RR_joined_4 (by decide) (fun c_4 => ?_) (fun c_4 => ?_)
  · skip
    rcases cth_cases (hcc.2.2.2.2 p.toNat (by omega)) with ⟨hS, hgt⟩ | ⟨kd, n, s, sb, a, hS, hgt, hth⟩
    rotate_left
    have hwk := wf_kind hth.1
    by_cases hof : isOf kd 2
    · skip
      obtain ⟨hk24, ha37, c, f, hc37, hob, hca, hpf⟩ := hth.ar hof
      have hC := cl_rci hk24
      refine V.aload_n (pc := 10) 0 d_RR_joined_10 rfl rfl ?_
      refine V.getf (pc := 11) 1 cl_RR fl_RR_17_RR d_RR_joined_11 b0 (Nat.le_of_ble_eq_true rfl) rfl ?_
      refine V.iload_n (pc := 14) 1 d_RR_joined_14 rfl rfl ?_
      refine V.aald1 (pc := 15) d_RR_joined_15 b2 (by omega) (by omega) ?_
      rw [hgt]
      refine V.astore (pc := 16) d_RR_joined_16 (Nat.le_of_ble_eq_true rfl) rfl ?_
      dsimp only [put]
      refine V.aload (pc := 18) d_RR_joined_18 rfl ?_
      refine V.instY (pc := 20) "RiverRoad$Arches" hC (ins_y (k := kd) (j := 2) (by omega) (by decide) hof) cl_RR_91 d_RR_joined_20 hob ?_
      refine V.if_eq (tgt := 35) (pc := 23) d_RR_joined_23 (by decide) (fun c_23 => ?_) (fun c_23 => ?_)
      · skip
        exact absurd c_23 (by decide)
      · skip
        refine V.aload (pc := 26) d_RR_joined_26 rfl ?_
        refine V.castY (pc := 28) "RiverRoad$Arches" hC (ins_y (k := kd) (j := 2) (by omega) (by decide) hof) cl_RR_91 d_RR_joined_28 hob ?_
        refine V.astore_n (pc := 31) 3 d_RR_joined_31 rfl (Nat.le_of_ble_eq_true rfl) rfl ?_
        dsimp only [put]
        refine V.goto (tgt := 41) (pc := 32) d_RR_joined_32 (by decide) ?_
        refine V.aload_n (pc := 41) 3 d_RR_joined_41 rfl rfl ?_
        refine V.getf (pc := 42) 0 hC fl_RR_96_Ar d_RR_joined_42 hob (Nat.le_of_ble_eq_true rfl) rfl ?_
        refine V.iload_n (pc := 45) 2 d_RR_joined_45 rfl rfl ?_
        refine V.cS2 (pc := 46) (kc2 := 0) (ks2 := 0) ml_RR_174 (cc_RR_isCrossing _ _ (by omega) _ _) d_RR_joined_46 (Nat.le_of_ble_eq_true rfl) (Nat.le_of_ble_eq_true rfl) (Nat.le_of_ble_eq_true rfl) (Nat.le_of_ble_eq_true rfl) ?_
        rintro _ _ _ ⟨rfl, rfl, rfl⟩
        dsimp only [Option.toList, List.cons_append, List.nil_append]
        refine V.ifB_eq (tgt := 65) (pc := 49) d_RR_joined_49 (by decide) (fun c_49 => ?_) (fun c_49 => ?_)
        · skip
          refine V.ldc (pc := 65) (-1000001) ck_RR_50 rfl ⟨by decide, by decide⟩ d_RR_joined_65 ?_
          refine V.ret (pc := 67) (r := some (vI _)) d_RR_joined_67 (Or.inl rfl) rfl ?_
          refine qc_of (S2 := S) (Nat.le_refl _) ?_ hI
          unfold sp_joined; rw [if_pos (by omega)]; simp only [hS]; rw [if_pos hof, if_neg (by omega)]
        · skip
          refine V.aload_n (pc := 52) 0 d_RR_joined_52 rfl rfl ?_
          refine V.aload_n (pc := 53) 3 d_RR_joined_53 rfl rfl ?_
          refine V.getf (pc := 54) 2 hC fl_RR_130_Ar d_RR_joined_54 hob (Nat.le_of_ble_eq_true rfl) rfl ?_
          refine V.iload_n (pc := 57) 2 d_RR_joined_57 rfl rfl ?_
          refine V.iald (pc := 58) d_RR_joined_58 hca (by omega) (by omega) ?_
          refine V.cV1 (pc := 59) (kc2 := 0) (ks2 := 0) ml_RR_58 b0 (cc_RR_settled _ _ _ b0 _) d_RR_joined_59 (Nat.le_of_ble_eq_true rfl) (Nat.le_of_ble_eq_true rfl) (Nat.le_of_ble_eq_true rfl) (Nat.le_of_ble_eq_true rfl) ?_
          rintro _ _ _ ⟨rfl, rfl, rfl⟩
          dsimp only [Option.toList, List.cons_append, List.nil_append]
          refine V.goto (tgt := 67) (pc := 62) d_RR_joined_62 (by decide) ?_
          refine V.ret (pc := 67) (r := some (vI _)) d_RR_joined_67 (Or.inl rfl) rfl ?_
          refine qc_of (S2 := sSt S 0) (Nat.le_refl _) ?_ (hI.st 0)
          unfold sp_joined; rw [if_pos (by omega)]; simp only [hS]; rw [if_pos hof, if_pos (by omega), hpf q.toNat (by omega)]
    · skip
      obtain ⟨ha37, ci, N, T, ty, fs9, hC, hob⟩ := hth.ob
      refine V.aload_n (pc := 10) 0 d_RR_joined_10 rfl rfl ?_
      refine V.getf (pc := 11) 1 cl_RR fl_RR_17_RR d_RR_joined_11 b0 (Nat.le_of_ble_eq_true rfl) rfl ?_
      refine V.iload_n (pc := 14) 1 d_RR_joined_14 rfl rfl ?_
      refine V.aald1 (pc := 15) d_RR_joined_15 b2 (by omega) (by omega) ?_
      rw [hgt]
      refine V.astore (pc := 16) d_RR_joined_16 (Nat.le_of_ble_eq_true rfl) rfl ?_
      dsimp only [put]
      refine V.aload (pc := 18) d_RR_joined_18 rfl ?_
      refine V.instNo (pc := 20) "RiverRoad$Arches" hC (ins_n (k := kd) (j := 2) (by omega) (by decide) hof) cl_RR_91 d_RR_joined_20 hob ?_
      refine V.if_eq (tgt := 35) (pc := 23) d_RR_joined_23 (by decide) (fun c_23 => ?_) (fun c_23 => ?_)
      · skip
        refine V.aload_n (pc := 35) 0 d_RR_joined_35 rfl rfl ?_
        refine V.iload_n (pc := 36) 1 d_RR_joined_36 rfl rfl ?_
        refine V.cV1 (pc := 37) (kc2 := 0) (ks2 := 0) ml_RR_93 b0 (cc_RR_notThatK _ _ (by omega) _ _ _ b0 b2 hgt _) d_RR_joined_37 (Nat.le_of_ble_eq_true rfl) (Nat.le_of_ble_eq_true rfl) (Nat.le_of_ble_eq_true rfl) (Nat.le_of_ble_eq_true rfl) ?_
        rintro _ _ _ ⟨rfl, rfl, rfl⟩
        dsimp only [Option.toList, List.cons_append, List.nil_append]
        refine V.ret (pc := 40) (r := some (vI _)) d_RR_joined_40 (Or.inl rfl) rfl ?_
        refine qc_of (S2 := sSt S 3) (Nat.le_refl _) ?_ (hI.st 3)
        unfold sp_joined; rw [if_pos (by omega)]; simp only [hS]; rw [if_neg hof]
      · skip
        exact absurd rfl c_23
    · skip
      refine V.aload_n (pc := 10) 0 d_RR_joined_10 rfl rfl ?_
      refine V.getf (pc := 11) 1 cl_RR fl_RR_17_RR d_RR_joined_11 b0 (Nat.le_of_ble_eq_true rfl) rfl ?_
      refine V.iload_n (pc := 14) 1 d_RR_joined_14 rfl rfl ?_
      refine V.aald1 (pc := 15) d_RR_joined_15 b2 (by omega) (by omega) ?_
      rw [hgt]
      refine V.astore (pc := 16) d_RR_joined_16 (Nat.le_of_ble_eq_true rfl) rfl ?_
      dsimp only [put]
      refine V.aload (pc := 18) d_RR_joined_18 rfl ?_
      refine V.instN (pc := 20) d_RR_joined_20 ?_
      refine V.if_eq (tgt := 35) (pc := 23) d_RR_joined_23 (by decide) (fun c_23 => ?_) (fun c_23 => ?_)
      · skip
        refine V.aload_n (pc := 35) 0 d_RR_joined_35 rfl rfl ?_
        refine V.iload_n (pc := 36) 1 d_RR_joined_36 rfl rfl ?_
        refine V.cV1 (pc := 37) (kc2 := 0) (ks2 := 0) ml_RR_93 b0 (cc_RR_notThatN _ _ (by omega) _ _ b0 b2 hgt _) d_RR_joined_37 (Nat.le_of_ble_eq_true rfl) (Nat.le_of_ble_eq_true rfl) (Nat.le_of_ble_eq_true rfl) (Nat.le_of_ble_eq_true rfl) ?_
        rintro _ _ _ ⟨rfl, rfl, rfl⟩
        dsimp only [Option.toList, List.cons_append, List.nil_append]
        refine V.ret (pc := 40) (r := some (vI _)) d_RR_joined_40 (Or.inl rfl) rfl ?_
        refine qc_of (S2 := sSt S 1) (Nat.le_refl _) ?_ (hI.st 1)
        unfold sp_joined; rw [if_pos (by omega)]; simp only [hS]
      · skip
        exact absurd rfl c_23
  · skip
    refine V.ldc (pc := 7) (-1000001) ck_RR_50 rfl ⟨by decide, by decide⟩ d_RR_joined_7 ?_
    refine V.ret (pc := 9) (r := some (vI _)) d_RR_joined_9 (Or.inl rfl) rfl ?_
    exact qc_of (Nat.le_refl _) (by unfold sp_joined; rw [if_neg (by omega)]) hI
set_option maxRecDepth 20000 in
theorem cs_RR_rank (S : SS) (h : MH) (hI : CI S h) (p : Int) (sz : Nat) (hsz : 37 ≤ sz) : Ct M_RR_rank 3 0 0 [vR 0, vI p] h sz (QCI (sp_rank S p) sz) := by
  refine Ct.of rfl (Nat.le_of_ble_eq_true rfl) ?_
  dsimp only [lsOf]
  obtain ⟨gs, gt, tr, en, fs, fp, hB, hcc⟩ := id hI
  obtain ⟨b0, b1, b2, b3, b4, b5, b6, b7⟩ := id hB
  refine V.iload_n (pc := 0) 1 d_RR_rank_0 rfl rfl ?_
  refine V.cS1 (pc := 1) (kc2 := 0) (ks2 := 0) ml_RR_80 (cc_RR_isPlace _ _ _) d_RR_rank_1 (Nat.le_of_ble_eq_true rfl) (Nat.le_of_ble_eq_true rfl) (Nat.le_of_ble_eq_true rfl) (Nat.le_of_ble_eq_true rfl) ?_
  rintro _ _ _ ⟨rfl, rfl, rfl⟩
  dsimp only [Option.toList, List.cons_append, List.nil_append]
  refine V.ifB_ne (tgt := 10) (pc := 4) d_RR_rank_4 (by decide) (fun c_4 => ?_) (fun c_4 => ?_)
  · skip
    rcases cth_cases (hcc.2.2.2.2 p.toNat (by omega)) with ⟨hS, hgt⟩ | ⟨kd, n, s, sb, a, hS, hgt, hth⟩
    rotate_left
    have hwk := wf_kind hth.1
    by_cases hof : isOf kd 2
    · skip
      obtain ⟨hk24, ha37, c, f, hc37, hob, hca, hpf⟩ := hth.ar hof
      have hC := cl_rci hk24
      refine V.aload_n (pc := 10) 0 d_RR_rank_10 rfl rfl ?_
      refine V.getf (pc := 11) 1 cl_RR fl_RR_17_RR d_RR_rank_11 b0 (Nat.le_of_ble_eq_true rfl) rfl ?_
      refine V.iload_n (pc := 14) 1 d_RR_rank_14 rfl rfl ?_
      refine V.aald1 (pc := 15) d_RR_rank_15 b2 (by omega) (by omega) ?_
      rw [hgt]
      refine V.astore_n (pc := 16) 3 d_RR_rank_16 rfl (Nat.le_of_ble_eq_true rfl) rfl ?_
      dsimp only [put]
      refine V.aload_n (pc := 17) 3 d_RR_rank_17 rfl rfl ?_
      refine V.instY (pc := 18) "RiverRoad$Arches" hC (ins_y (k := kd) (j := 2) (by omega) (by decide) hof) cl_RR_91 d_RR_rank_18 hob ?_
      refine V.if_eq (tgt := 32) (pc := 21) d_RR_rank_21 (by decide) (fun c_21 => ?_) (fun c_21 => ?_)
      · skip
        exact absurd c_21 (by decide)
      · skip
        refine V.aload_n (pc := 24) 3 d_RR_rank_24 rfl rfl ?_
        refine V.castY (pc := 25) "RiverRoad$Arches" hC (ins_y (k := kd) (j := 2) (by omega) (by decide) hof) cl_RR_91 d_RR_rank_25 hob ?_
        refine V.astore_n (pc := 28) 2 d_RR_rank_28 rfl (Nat.le_of_ble_eq_true rfl) rfl ?_
        dsimp only [put]
        refine V.goto (tgt := 38) (pc := 29) d_RR_rank_29 (by decide) ?_
        refine V.aload_n (pc := 38) 2 d_RR_rank_38 rfl rfl ?_
        refine V.getf (pc := 39) 0 hC fl_RR_96_Ar d_RR_rank_39 hob (Nat.le_of_ble_eq_true rfl) rfl ?_
        refine V.bipush (pc := 42) d_RR_rank_42 ⟨by decide, by decide⟩ ?_
        refine V.icmp_le (tgt := 52) (pc := 44) d_RR_rank_44 (by decide) (fun c_44 => ?_) (fun c_44 => ?_)
        · skip
          refine V.aload_n (pc := 52) 0 d_RR_rank_52 rfl rfl ?_
          refine V.aload_n (pc := 53) 0 d_RR_rank_53 rfl rfl ?_
          refine V.aload_n (pc := 54) 2 d_RR_rank_54 rfl rfl ?_
          refine V.cV1 (pc := 55) (kc2 := 0) (ks2 := 0) ml_RR_183 b0 (cc_RR_rankOf hC a c n s (by omega) (wf_arch hth.1 hof).2.1 _ _ _ b0 b5 hcc.2.1 hob _) d_RR_rank_55 (Nat.le_of_ble_eq_true rfl) (Nat.le_of_ble_eq_true rfl) (Nat.le_of_ble_eq_true rfl) (Nat.le_of_ble_eq_true rfl) ?_
          rintro _ _ _ ⟨rfl, rfl, rfl⟩
          dsimp only [Option.toList, List.cons_append, List.nil_append]
          refine V.cV1 (pc := 58) (kc2 := 0) (ks2 := 0) ml_RR_58 b0 (cc_RR_settled _ _ _ b0 _) d_RR_rank_58 (Nat.le_of_ble_eq_true rfl) (Nat.le_of_ble_eq_true rfl) (Nat.le_of_ble_eq_true rfl) (Nat.le_of_ble_eq_true rfl) ?_
          rintro _ _ _ ⟨rfl, rfl, rfl⟩
          dsimp only [Option.toList, List.cons_append, List.nil_append]
          refine V.ret (pc := 61) (r := some (vI _)) d_RR_rank_61 (Or.inl rfl) rfl ?_
          refine qc_of (S2 := sSt S 0) (Nat.le_refl _) ?_ (hI.st 0)
          unfold sp_rank; rw [if_pos (by omega)]; simp only [hS]; rw [if_pos hof, if_neg (by omega)]
        · skip
          refine V.ldc (pc := 47) (-1000003) ck_RR_182 rfl ⟨by decide, by decide⟩ d_RR_rank_47 ?_
          refine V.goto (tgt := 61) (pc := 49) d_RR_rank_49 (by decide) ?_
          refine V.ret (pc := 61) (r := some (vI _)) d_RR_rank_61 (Or.inl rfl) rfl ?_
          refine qc_of (S2 := S) (Nat.le_refl _) ?_ hI
          unfold sp_rank; rw [if_pos (by omega)]; simp only [hS]; rw [if_pos hof, if_pos (by omega)]
    · skip
      obtain ⟨ha37, ci, N, T, ty, fs9, hC, hob⟩ := hth.ob
      refine V.aload_n (pc := 10) 0 d_RR_rank_10 rfl rfl ?_
      refine V.getf (pc := 11) 1 cl_RR fl_RR_17_RR d_RR_rank_11 b0 (Nat.le_of_ble_eq_true rfl) rfl ?_
      refine V.iload_n (pc := 14) 1 d_RR_rank_14 rfl rfl ?_
      refine V.aald1 (pc := 15) d_RR_rank_15 b2 (by omega) (by omega) ?_
      rw [hgt]
      refine V.astore_n (pc := 16) 3 d_RR_rank_16 rfl (Nat.le_of_ble_eq_true rfl) rfl ?_
      dsimp only [put]
      refine V.aload_n (pc := 17) 3 d_RR_rank_17 rfl rfl ?_
      refine V.instNo (pc := 18) "RiverRoad$Arches" hC (ins_n (k := kd) (j := 2) (by omega) (by decide) hof) cl_RR_91 d_RR_rank_18 hob ?_
      refine V.if_eq (tgt := 32) (pc := 21) d_RR_rank_21 (by decide) (fun c_21 => ?_) (fun c_21 => ?_)
      · skip
        refine V.aload_n (pc := 32) 0 d_RR_rank_32 rfl rfl ?_
        refine V.iload_n (pc := 33) 1 d_RR_rank_33 rfl rfl ?_
        refine V.cV1 (pc := 34) (kc2 := 0) (ks2 := 0) ml_RR_93 b0 (cc_RR_notThatK _ _ (by omega) _ _ _ b0 b2 hgt _) d_RR_rank_34 (Nat.le_of_ble_eq_true rfl) (Nat.le_of_ble_eq_true rfl) (Nat.le_of_ble_eq_true rfl) (Nat.le_of_ble_eq_true rfl) ?_
        rintro _ _ _ ⟨rfl, rfl, rfl⟩
        dsimp only [Option.toList, List.cons_append, List.nil_append]
        refine V.ret (pc := 37) (r := some (vI _)) d_RR_rank_37 (Or.inl rfl) rfl ?_
        refine qc_of (S2 := sSt S 3) (Nat.le_refl _) ?_ (hI.st 3)
        unfold sp_rank; rw [if_pos (by omega)]; simp only [hS]; rw [if_neg hof]
      · skip
        exact absurd rfl c_21
    · skip
      refine V.aload_n (pc := 10) 0 d_RR_rank_10 rfl rfl ?_
      refine V.getf (pc := 11) 1 cl_RR fl_RR_17_RR d_RR_rank_11 b0 (Nat.le_of_ble_eq_true rfl) rfl ?_
      refine V.iload_n (pc := 14) 1 d_RR_rank_14 rfl rfl ?_
      refine V.aald1 (pc := 15) d_RR_rank_15 b2 (by omega) (by omega) ?_
      rw [hgt]
      refine V.astore_n (pc := 16) 3 d_RR_rank_16 rfl (Nat.le_of_ble_eq_true rfl) rfl ?_
      dsimp only [put]
      refine V.aload_n (pc := 17) 3 d_RR_rank_17 rfl rfl ?_
      refine V.instN (pc := 18) d_RR_rank_18 ?_
      refine V.if_eq (tgt := 32) (pc := 21) d_RR_rank_21 (by decide) (fun c_21 => ?_) (fun c_21 => ?_)
      · skip
        refine V.aload_n (pc := 32) 0 d_RR_rank_32 rfl rfl ?_
        refine V.iload_n (pc := 33) 1 d_RR_rank_33 rfl rfl ?_
        refine V.cV1 (pc := 34) (kc2 := 0) (ks2 := 0) ml_RR_93 b0 (cc_RR_notThatN _ _ (by omega) _ _ b0 b2 hgt _) d_RR_rank_34 (Nat.le_of_ble_eq_true rfl) (Nat.le_of_ble_eq_true rfl) (Nat.le_of_ble_eq_true rfl) (Nat.le_of_ble_eq_true rfl) ?_
        rintro _ _ _ ⟨rfl, rfl, rfl⟩
        dsimp only [Option.toList, List.cons_append, List.nil_append]
        refine V.ret (pc := 37) (r := some (vI _)) d_RR_rank_37 (Or.inl rfl) rfl ?_
        refine qc_of (S2 := sSt S 1) (Nat.le_refl _) ?_ (hI.st 1)
        unfold sp_rank; rw [if_pos (by omega)]; simp only [hS]
      · skip
        exact absurd rfl c_21
  · skip
    refine V.ldc (pc := 7) (-1000001) ck_RR_50 rfl ⟨by decide, by decide⟩ d_RR_rank_7 ?_
    refine V.ret (pc := 9) (r := some (vI _)) d_RR_rank_9 (Or.inl rfl) rfl ?_
    exact qc_of (Nat.le_refl _) (by unfold sp_rank; rw [if_neg (by omega)]) hI
set_option maxRecDepth 20000 in
theorem cs_RR_loops (S : SS) (h : MH) (hI : CI S h) (p q : Int) (sz : Nat) (hsz : 37 ≤ sz) : Ct M_RR_loops 2 0 0 [vR 0, vI p, vI q] h sz (QCI (sp_loops S p q) sz) := by
  refine Ct.of rfl (Nat.le_of_ble_eq_true rfl) ?_
  dsimp only [lsOf]
  obtain ⟨gs, gt, tr, en, fs, fp, hB, hcc⟩ := id hI
  obtain ⟨b0, b1, b2, b3, b4, b5, b6, b7⟩ := id hB
  refine V.iload_n (pc := 0) 1 d_RR_loops_0 rfl rfl ?_
  refine V.cS1 (pc := 1) (kc2 := 0) (ks2 := 0) ml_RR_80 (cc_RR_isPlace _ _ _) d_RR_loops_1 (Nat.le_of_ble_eq_true rfl) (Nat.le_of_ble_eq_true rfl) (Nat.le_of_ble_eq_true rfl) (Nat.le_of_ble_eq_true rfl) ?_
  rintro _ _ _ ⟨rfl, rfl, rfl⟩
  dsimp only [Option.toList, List.cons_append, List.nil_append]
  refine V.ifB_ne (tgt := 10) (pc := 4) d_RR_loops_4 (by decide) (fun c_4 => ?_) (fun c_4 => ?_)
  · skip
    rcases cth_cases (hcc.2.2.2.2 p.toNat (by omega)) with ⟨hS, hgt⟩ | ⟨kd, n, s, sb, a, hS, hgt, hth⟩
    rotate_left
    have hwk := wf_kind hth.1
    by_cases hof : isOf kd 5
    · skip
      obtain ⟨hk56, ha37, o9, u9, c, ko, ku, l, hc37, hao, hau, hob, hca, hlf⟩ := hth.la hof
      have hC := cl_la hk56
      refine V.aload_n (pc := 10) 0 d_RR_loops_10 rfl rfl ?_
      refine V.getf (pc := 11) 1 cl_RR fl_RR_17_RR d_RR_loops_11 b0 (Nat.le_of_ble_eq_true rfl) rfl ?_
      refine V.iload_n (pc := 14) 1 d_RR_loops_14 rfl rfl ?_
      refine V.aald1 (pc := 15) d_RR_loops_15 b2 (by omega) (by omega) ?_
      rw [hgt]
      refine V.astore (pc := 16) d_RR_loops_16 (Nat.le_of_ble_eq_true rfl) rfl ?_
      dsimp only [put]
      refine V.aload (pc := 18) d_RR_loops_18 rfl ?_
      refine V.instY (pc := 20) "RiverRoad$Land" hC (ins_y (k := kd) (j := 5) (by omega) (by decide) hof) cl_RR_137 d_RR_loops_20 hob ?_
      refine V.if_eq (tgt := 35) (pc := 23) d_RR_loops_23 (by decide) (fun c_23 => ?_) (fun c_23 => ?_)
      · skip
        exact absurd c_23 (by decide)
      · skip
        refine V.aload (pc := 26) d_RR_loops_26 rfl ?_
        refine V.castY (pc := 28) "RiverRoad$Land" hC (ins_y (k := kd) (j := 5) (by omega) (by decide) hof) cl_RR_137 d_RR_loops_28 hob ?_
        refine V.astore_n (pc := 31) 3 d_RR_loops_31 rfl (Nat.le_of_ble_eq_true rfl) rfl ?_
        dsimp only [put]
        refine V.goto (tgt := 41) (pc := 32) d_RR_loops_32 (by decide) ?_
        refine V.iload_n (pc := 41) 2 d_RR_loops_41 rfl rfl ?_
        refine V.iconst (pc := 42) d_RR_loops_42 ⟨by decide, by decide⟩ ?_
        refine V.icmp_ne (tgt := 55) (pc := 43) d_RR_loops_43 (by decide) (fun c_43 => ?_) (fun c_43 => ?_)
        · skip
          refine V.aload_n (pc := 55) 3 d_RR_loops_55 rfl rfl ?_
          refine V.getf (pc := 56) 0 hC fl_RR_190_La d_RR_loops_56 hob (Nat.le_of_ble_eq_true rfl) rfl ?_
          refine V.iload_n (pc := 59) 2 d_RR_loops_59 rfl rfl ?_
          refine V.cS2 (pc := 60) (kc2 := 0) (ks2 := 0) ml_RR_174 (cc_RR_isCrossing _ _ (by omega) _ _) d_RR_loops_60 (Nat.le_of_ble_eq_true rfl) (Nat.le_of_ble_eq_true rfl) (Nat.le_of_ble_eq_true rfl) (Nat.le_of_ble_eq_true rfl) ?_
          rintro _ _ _ ⟨rfl, rfl, rfl⟩
          dsimp only [Option.toList, List.cons_append, List.nil_append]
          refine V.ifB_eq (tgt := 79) (pc := 63) d_RR_loops_63 (by decide) (fun c_63 => ?_) (fun c_63 => ?_)
          · skip
            refine V.ldc (pc := 79) (-1000001) ck_RR_50 rfl ⟨by decide, by decide⟩ d_RR_loops_79 ?_
            refine V.ret (pc := 81) (r := some (vI _)) d_RR_loops_81 (Or.inl rfl) rfl ?_
            refine qc_of (S2 := S) (Nat.le_refl _) ?_ hI
            unfold sp_loops; rw [if_pos (by omega)]; simp only [hS]; rw [if_pos hof, if_neg (by omega), if_neg (by omega)]
          · skip
            refine V.aload_n (pc := 66) 0 d_RR_loops_66 rfl rfl ?_
            refine V.aload_n (pc := 67) 3 d_RR_loops_67 rfl rfl ?_
            refine V.getf (pc := 68) 3 hC fl_RR_191_La d_RR_loops_68 hob (Nat.le_of_ble_eq_true rfl) rfl ?_
            refine V.iload_n (pc := 71) 2 d_RR_loops_71 rfl rfl ?_
            refine V.iald (pc := 72) d_RR_loops_72 hca (by omega) (by omega) ?_
            refine V.cV1 (pc := 73) (kc2 := 0) (ks2 := 0) ml_RR_58 b0 (cc_RR_settled _ _ _ b0 _) d_RR_loops_73 (Nat.le_of_ble_eq_true rfl) (Nat.le_of_ble_eq_true rfl) (Nat.le_of_ble_eq_true rfl) (Nat.le_of_ble_eq_true rfl) ?_
            rintro _ _ _ ⟨rfl, rfl, rfl⟩
            dsimp only [Option.toList, List.cons_append, List.nil_append]
            refine V.goto (tgt := 81) (pc := 76) d_RR_loops_76 (by decide) ?_
            refine V.ret (pc := 81) (r := some (vI _)) d_RR_loops_81 (Or.inl rfl) rfl ?_
            refine qc_of (S2 := sSt S 0) (Nat.le_refl _) ?_ (hI.st 0)
            unfold sp_loops; rw [if_pos (by omega)]; simp only [hS]; rw [if_pos hof, if_neg (by omega), if_pos (by omega), hlf q.toNat (by omega)]
        · skip
          refine V.aload_n (pc := 46) 0 d_RR_loops_46 rfl rfl ?_
          refine V.aload_n (pc := 47) 3 d_RR_loops_47 rfl rfl ?_
          refine V.getf (pc := 48) 4 hC fl_RR_187_La d_RR_loops_48 hob (Nat.le_of_ble_eq_true rfl) rfl ?_
          refine V.cV1 (pc := 51) (kc2 := 0) (ks2 := 0) ml_RR_58 b0 (cc_RR_settled _ _ _ b0 _) d_RR_loops_51 (Nat.le_of_ble_eq_true rfl) (Nat.le_of_ble_eq_true rfl) (Nat.le_of_ble_eq_true rfl) (Nat.le_of_ble_eq_true rfl) ?_
          rintro _ _ _ ⟨rfl, rfl, rfl⟩
          dsimp only [Option.toList, List.cons_append, List.nil_append]
          refine V.ret (pc := 54) (r := some (vI _)) d_RR_loops_54 (Or.inl rfl) rfl ?_
          refine qc_of (S2 := sSt S 0) (Nat.le_refl _) ?_ (hI.st 0)
          unfold sp_loops; rw [if_pos (by omega)]; simp only [hS]; rw [if_pos hof, if_pos (by omega)]
    · skip
      obtain ⟨ha37, ci, N, T, ty, fs9, hC, hob⟩ := hth.ob
      refine V.aload_n (pc := 10) 0 d_RR_loops_10 rfl rfl ?_
      refine V.getf (pc := 11) 1 cl_RR fl_RR_17_RR d_RR_loops_11 b0 (Nat.le_of_ble_eq_true rfl) rfl ?_
      refine V.iload_n (pc := 14) 1 d_RR_loops_14 rfl rfl ?_
      refine V.aald1 (pc := 15) d_RR_loops_15 b2 (by omega) (by omega) ?_
      rw [hgt]
      refine V.astore (pc := 16) d_RR_loops_16 (Nat.le_of_ble_eq_true rfl) rfl ?_
      dsimp only [put]
      refine V.aload (pc := 18) d_RR_loops_18 rfl ?_
      refine V.instNo (pc := 20) "RiverRoad$Land" hC (ins_n (k := kd) (j := 5) (by omega) (by decide) hof) cl_RR_137 d_RR_loops_20 hob ?_
      refine V.if_eq (tgt := 35) (pc := 23) d_RR_loops_23 (by decide) (fun c_23 => ?_) (fun c_23 => ?_)
      · skip
        refine V.aload_n (pc := 35) 0 d_RR_loops_35 rfl rfl ?_
        refine V.iload_n (pc := 36) 1 d_RR_loops_36 rfl rfl ?_
        refine V.cV1 (pc := 37) (kc2 := 0) (ks2 := 0) ml_RR_93 b0 (cc_RR_notThatK _ _ (by omega) _ _ _ b0 b2 hgt _) d_RR_loops_37 (Nat.le_of_ble_eq_true rfl) (Nat.le_of_ble_eq_true rfl) (Nat.le_of_ble_eq_true rfl) (Nat.le_of_ble_eq_true rfl) ?_
        rintro _ _ _ ⟨rfl, rfl, rfl⟩
        dsimp only [Option.toList, List.cons_append, List.nil_append]
        refine V.ret (pc := 40) (r := some (vI _)) d_RR_loops_40 (Or.inl rfl) rfl ?_
        refine qc_of (S2 := sSt S 3) (Nat.le_refl _) ?_ (hI.st 3)
        unfold sp_loops; rw [if_pos (by omega)]; simp only [hS]; rw [if_neg hof]
      · skip
        exact absurd rfl c_23
    · skip
      refine V.aload_n (pc := 10) 0 d_RR_loops_10 rfl rfl ?_
      refine V.getf (pc := 11) 1 cl_RR fl_RR_17_RR d_RR_loops_11 b0 (Nat.le_of_ble_eq_true rfl) rfl ?_
      refine V.iload_n (pc := 14) 1 d_RR_loops_14 rfl rfl ?_
      refine V.aald1 (pc := 15) d_RR_loops_15 b2 (by omega) (by omega) ?_
      rw [hgt]
      refine V.astore (pc := 16) d_RR_loops_16 (Nat.le_of_ble_eq_true rfl) rfl ?_
      dsimp only [put]
      refine V.aload (pc := 18) d_RR_loops_18 rfl ?_
      refine V.instN (pc := 20) d_RR_loops_20 ?_
      refine V.if_eq (tgt := 35) (pc := 23) d_RR_loops_23 (by decide) (fun c_23 => ?_) (fun c_23 => ?_)
      · skip
        refine V.aload_n (pc := 35) 0 d_RR_loops_35 rfl rfl ?_
        refine V.iload_n (pc := 36) 1 d_RR_loops_36 rfl rfl ?_
        refine V.cV1 (pc := 37) (kc2 := 0) (ks2 := 0) ml_RR_93 b0 (cc_RR_notThatN _ _ (by omega) _ _ b0 b2 hgt _) d_RR_loops_37 (Nat.le_of_ble_eq_true rfl) (Nat.le_of_ble_eq_true rfl) (Nat.le_of_ble_eq_true rfl) (Nat.le_of_ble_eq_true rfl) ?_
        rintro _ _ _ ⟨rfl, rfl, rfl⟩
        dsimp only [Option.toList, List.cons_append, List.nil_append]
        refine V.ret (pc := 40) (r := some (vI _)) d_RR_loops_40 (Or.inl rfl) rfl ?_
        refine qc_of (S2 := sSt S 1) (Nat.le_refl _) ?_ (hI.st 1)
        unfold sp_loops; rw [if_pos (by omega)]; simp only [hS]
      · skip
        exact absurd rfl c_23
  · skip
    refine V.ldc (pc := 7) (-1000001) ck_RR_50 rfl ⟨by decide, by decide⟩ d_RR_loops_7 ?_
    refine V.ret (pc := 9) (r := some (vI _)) d_RR_loops_9 (Or.inl rfl) rfl ?_
    exact qc_of (Nat.le_refl _) (by unfold sp_loops; rw [if_neg (by omega)]) hI
set_option maxRecDepth 20000 in
theorem cs_RR_stamp (S : SS) (h : MH) (hI : CI S h) (p q : Int) (sz : Nat) (hsz : 37 ≤ sz) : Ct M_RR_stamp 2 0 0 [vR 0, vI p, vI q] h sz (QCI (sp_stamp S p q) sz) := by
  refine Ct.of rfl (Nat.le_of_ble_eq_true rfl) ?_
  dsimp only [lsOf]
  obtain ⟨gs, gt, tr, en, fs, fp, hB, hcc⟩ := id hI
  obtain ⟨b0, b1, b2, b3, b4, b5, b6, b7⟩ := id hB
  refine V.iload_n (pc := 0) 1 d_RR_stamp_0 rfl rfl ?_
  refine V.cS1 (pc := 1) (kc2 := 0) (ks2 := 0) ml_RR_80 (cc_RR_isPlace _ _ _) d_RR_stamp_1 (Nat.le_of_ble_eq_true rfl) (Nat.le_of_ble_eq_true rfl) (Nat.le_of_ble_eq_true rfl) (Nat.le_of_ble_eq_true rfl) ?_
  rintro _ _ _ ⟨rfl, rfl, rfl⟩
  dsimp only [Option.toList, List.cons_append, List.nil_append]
  refine V.ifB_ne (tgt := 10) (pc := 4) d_RR_stamp_4 (by decide) (fun c_4 => ?_) (fun c_4 => ?_)
  · skip
    rcases cth_cases (hcc.2.2.2.2 p.toNat (by omega)) with ⟨hS, hgt⟩ | ⟨kd, n, s, sb, a, hS, hgt, hth⟩
    rotate_left
    have hwk := wf_kind hth.1
    by_cases hof : isOf kd 7
    · skip
      obtain ⟨hk78, ha37, bs, bp, st9, ps, x9, y9, h37s, h37p, hob, hbs, hbp, hst, hps, hfc⟩ := hth.st hof
      have hC := cl_st hk78
      refine V.aload_n (pc := 10) 0 d_RR_stamp_10 rfl rfl ?_
      refine V.getf (pc := 11) 1 cl_RR fl_RR_17_RR d_RR_stamp_11 b0 (Nat.le_of_ble_eq_true rfl) rfl ?_
      refine V.iload_n (pc := 14) 1 d_RR_stamp_14 rfl rfl ?_
      refine V.aald1 (pc := 15) d_RR_stamp_15 b2 (by omega) (by omega) ?_
      rw [hgt]
      refine V.astore (pc := 16) d_RR_stamp_16 (Nat.le_of_ble_eq_true rfl) rfl ?_
      dsimp only [put]
      refine V.aload (pc := 18) d_RR_stamp_18 rfl ?_
      refine V.instY (pc := 20) "RiverRoad$Strip" hC (ins_y (k := kd) (j := 7) (by omega) (by decide) hof) cl_RR_205 d_RR_stamp_20 hob ?_
      refine V.if_eq (tgt := 35) (pc := 23) d_RR_stamp_23 (by decide) (fun c_23 => ?_) (fun c_23 => ?_)
      · skip
        exact absurd c_23 (by decide)
      · skip
        refine V.aload (pc := 26) d_RR_stamp_26 rfl ?_
        refine V.castY (pc := 28) "RiverRoad$Strip" hC (ins_y (k := kd) (j := 7) (by omega) (by decide) hof) cl_RR_205 d_RR_stamp_28 hob ?_
        refine V.astore_n (pc := 31) 3 d_RR_stamp_31 rfl (Nat.le_of_ble_eq_true rfl) rfl ?_
        dsimp only [put]
        refine V.goto (tgt := 41) (pc := 32) d_RR_stamp_32 (by decide) ?_
        refine V.iload_n (pc := 41) 2 d_RR_stamp_41 rfl rfl ?_
        refine V.if_lt (tgt := 53) (pc := 42) d_RR_stamp_42 (by decide) (fun c_42 => ?_) (fun c_42 => ?_)
        · skip
          refine V.ldc (pc := 53) (-1000001) ck_RR_50 rfl ⟨by decide, by decide⟩ d_RR_stamp_53 ?_
          refine V.goto (tgt := 68) (pc := 55) d_RR_stamp_55 (by decide) ?_
          refine V.ret (pc := 68) (r := some (vI _)) d_RR_stamp_68 (Or.inl rfl) rfl ?_
          refine qc_of (S2 := S) (Nat.le_refl _) ?_ hI
          unfold sp_stamp; rw [if_pos (by omega)]; simp only [hS]; rw [if_pos hof, if_neg (by omega)]
        · skip
          refine V.iload_n (pc := 45) 2 d_RR_stamp_45 rfl rfl ?_
          refine V.aload_n (pc := 46) 3 d_RR_stamp_46 rfl rfl ?_
          refine V.getf (pc := 47) 0 hC fl_RR_207_St d_RR_stamp_47 hob (Nat.le_of_ble_eq_true rfl) rfl ?_
          refine V.icmp_lt (tgt := 58) (pc := 50) d_RR_stamp_50 (by decide) (fun c_50 => ?_) (fun c_50 => ?_)
          · skip
            refine V.aload_n (pc := 58) 0 d_RR_stamp_58 rfl rfl ?_
            refine V.aload_n (pc := 59) 3 d_RR_stamp_59 rfl rfl ?_
            refine V.getf (pc := 60) 1 hC fl_RR_208_St d_RR_stamp_60 hob (Nat.le_of_ble_eq_true rfl) rfl ?_
            refine V.iload_n (pc := 63) 2 d_RR_stamp_63 rfl rfl ?_
            refine V.iald (pc := 64) d_RR_stamp_64 hbs (by omega) (by omega) ?_
            refine V.cV1 (pc := 65) (kc2 := 0) (ks2 := 0) ml_RR_58 b0 (cc_RR_settled _ _ _ b0 _) d_RR_stamp_65 (Nat.le_of_ble_eq_true rfl) (Nat.le_of_ble_eq_true rfl) (Nat.le_of_ble_eq_true rfl) (Nat.le_of_ble_eq_true rfl) ?_
            rintro _ _ _ ⟨rfl, rfl, rfl⟩
            dsimp only [Option.toList, List.cons_append, List.nil_append]
            refine V.ret (pc := 68) (r := some (vI _)) d_RR_stamp_68 (Or.inl rfl) rfl ?_
            refine qc_of (S2 := sSt S 0) (Nat.le_refl _) ?_ (hI.st 0)
            unfold sp_stamp; rw [if_pos (by omega)]; simp only [hS]; rw [if_pos hof, if_pos (by omega), hst q.toNat (by omega)]
          · skip
            refine V.ldc (pc := 53) (-1000001) ck_RR_50 rfl ⟨by decide, by decide⟩ d_RR_stamp_53 ?_
            refine V.goto (tgt := 68) (pc := 55) d_RR_stamp_55 (by decide) ?_
            refine V.ret (pc := 68) (r := some (vI _)) d_RR_stamp_68 (Or.inl rfl) rfl ?_
            refine qc_of (S2 := S) (Nat.le_refl _) ?_ hI
            unfold sp_stamp; rw [if_pos (by omega)]; simp only [hS]; rw [if_pos hof, if_neg (by omega)]
    · skip
      obtain ⟨ha37, ci, N, T, ty, fs9, hC, hob⟩ := hth.ob
      refine V.aload_n (pc := 10) 0 d_RR_stamp_10 rfl rfl ?_
      refine V.getf (pc := 11) 1 cl_RR fl_RR_17_RR d_RR_stamp_11 b0 (Nat.le_of_ble_eq_true rfl) rfl ?_
      refine V.iload_n (pc := 14) 1 d_RR_stamp_14 rfl rfl ?_
      refine V.aald1 (pc := 15) d_RR_stamp_15 b2 (by omega) (by omega) ?_
      rw [hgt]
      refine V.astore (pc := 16) d_RR_stamp_16 (Nat.le_of_ble_eq_true rfl) rfl ?_
      dsimp only [put]
      refine V.aload (pc := 18) d_RR_stamp_18 rfl ?_
      refine V.instNo (pc := 20) "RiverRoad$Strip" hC (ins_n (k := kd) (j := 7) (by omega) (by decide) hof) cl_RR_205 d_RR_stamp_20 hob ?_
      refine V.if_eq (tgt := 35) (pc := 23) d_RR_stamp_23 (by decide) (fun c_23 => ?_) (fun c_23 => ?_)
      · skip
        refine V.aload_n (pc := 35) 0 d_RR_stamp_35 rfl rfl ?_
        refine V.iload_n (pc := 36) 1 d_RR_stamp_36 rfl rfl ?_
        refine V.cV1 (pc := 37) (kc2 := 0) (ks2 := 0) ml_RR_93 b0 (cc_RR_notThatK _ _ (by omega) _ _ _ b0 b2 hgt _) d_RR_stamp_37 (Nat.le_of_ble_eq_true rfl) (Nat.le_of_ble_eq_true rfl) (Nat.le_of_ble_eq_true rfl) (Nat.le_of_ble_eq_true rfl) ?_
        rintro _ _ _ ⟨rfl, rfl, rfl⟩
        dsimp only [Option.toList, List.cons_append, List.nil_append]
        refine V.ret (pc := 40) (r := some (vI _)) d_RR_stamp_40 (Or.inl rfl) rfl ?_
        refine qc_of (S2 := sSt S 3) (Nat.le_refl _) ?_ (hI.st 3)
        unfold sp_stamp; rw [if_pos (by omega)]; simp only [hS]; rw [if_neg hof]
      · skip
        exact absurd rfl c_23
    · skip
      refine V.aload_n (pc := 10) 0 d_RR_stamp_10 rfl rfl ?_
      refine V.getf (pc := 11) 1 cl_RR fl_RR_17_RR d_RR_stamp_11 b0 (Nat.le_of_ble_eq_true rfl) rfl ?_
      refine V.iload_n (pc := 14) 1 d_RR_stamp_14 rfl rfl ?_
      refine V.aald1 (pc := 15) d_RR_stamp_15 b2 (by omega) (by omega) ?_
      rw [hgt]
      refine V.astore (pc := 16) d_RR_stamp_16 (Nat.le_of_ble_eq_true rfl) rfl ?_
      dsimp only [put]
      refine V.aload (pc := 18) d_RR_stamp_18 rfl ?_
      refine V.instN (pc := 20) d_RR_stamp_20 ?_
      refine V.if_eq (tgt := 35) (pc := 23) d_RR_stamp_23 (by decide) (fun c_23 => ?_) (fun c_23 => ?_)
      · skip
        refine V.aload_n (pc := 35) 0 d_RR_stamp_35 rfl rfl ?_
        refine V.iload_n (pc := 36) 1 d_RR_stamp_36 rfl rfl ?_
        refine V.cV1 (pc := 37) (kc2 := 0) (ks2 := 0) ml_RR_93 b0 (cc_RR_notThatN _ _ (by omega) _ _ b0 b2 hgt _) d_RR_stamp_37 (Nat.le_of_ble_eq_true rfl) (Nat.le_of_ble_eq_true rfl) (Nat.le_of_ble_eq_true rfl) (Nat.le_of_ble_eq_true rfl) ?_
        rintro _ _ _ ⟨rfl, rfl, rfl⟩
        dsimp only [Option.toList, List.cons_append, List.nil_append]
        refine V.ret (pc := 40) (r := some (vI _)) d_RR_stamp_40 (Or.inl rfl) rfl ?_
        refine qc_of (S2 := sSt S 1) (Nat.le_refl _) ?_ (hI.st 1)
        unfold sp_stamp; rw [if_pos (by omega)]; simp only [hS]
      · skip
        exact absurd rfl c_23
  · skip
    refine V.ldc (pc := 7) (-1000001) ck_RR_50 rfl ⟨by decide, by decide⟩ d_RR_stamp_7 ?_
    refine V.ret (pc := 9) (r := some (vI _)) d_RR_stamp_9 (Or.inl rfl) rfl ?_
    exact qc_of (Nat.le_refl _) (by unfold sp_stamp; rw [if_neg (by omega)]) hI
set_option maxRecDepth 20000 in
theorem cs_RR_clash (S : SS) (h : MH) (hI : CI S h) (p w : Int) (sz : Nat) (hsz : 37 ≤ sz) : Ct M_RR_clash 2 0 0 [vR 0, vI p, vI w] h sz (QCX (sp_clash S p w) sz) := by
  refine Ct.of rfl (Nat.le_of_ble_eq_true rfl) ?_
  dsimp only [lsOf]
  obtain ⟨gs, gt, tr, en, fs, fp, hB, hcc⟩ := id hI
  obtain ⟨b0, b1, b2, b3, b4, b5, b6, b7⟩ := id hB
  refine V.iload_n (pc := 0) 1 d_RR_clash_0 rfl rfl ?_
  refine V.cS1 (pc := 1) (kc2 := 0) (ks2 := 0) ml_RR_80 (cc_RR_isPlace _ _ _) d_RR_clash_1 (Nat.le_of_ble_eq_true rfl) (Nat.le_of_ble_eq_true rfl) (Nat.le_of_ble_eq_true rfl) (Nat.le_of_ble_eq_true rfl) ?_
  rintro _ _ _ ⟨rfl, rfl, rfl⟩
  dsimp only [Option.toList, List.cons_append, List.nil_append]
  refine V.ifB_eq (tgt := 16) (pc := 4) d_RR_clash_4 (by decide) (fun c_4 => ?_) (fun c_4 => ?_)
  · skip
    refine V.ldc (pc := 16) (-1000001) ck_RR_50 rfl ⟨by decide, by decide⟩ d_RR_clash_16 ?_
    refine V.ret (pc := 18) (r := some (vI _)) d_RR_clash_18 (Or.inl rfl) rfl ?_
    refine qcx_of (S2 := S) (Nat.le_refl _) ?_ hI
    unfold sp_clash; rw [if_neg (by omega)]
  · skip
    refine V.iload_n (pc := 7) 2 d_RR_clash_7 rfl rfl ?_
    refine V.if_lt (tgt := 16) (pc := 8) d_RR_clash_8 (by decide) (fun c_8 => ?_) (fun c_8 => ?_)
    · skip
      refine V.ldc (pc := 16) (-1000001) ck_RR_50 rfl ⟨by decide, by decide⟩ d_RR_clash_16 ?_
      refine V.ret (pc := 18) (r := some (vI _)) d_RR_clash_18 (Or.inl rfl) rfl ?_
      refine qcx_of (S2 := S) (Nat.le_refl _) ?_ hI
      unfold sp_clash; rw [if_neg (by omega)]
    · skip
      refine V.iload_n (pc := 11) 2 d_RR_clash_11 rfl rfl ?_
      refine V.iconst (pc := 12) d_RR_clash_12 ⟨by decide, by decide⟩ ?_
      refine V.icmp_le (tgt := 19) (pc := 13) d_RR_clash_13 (by decide) (fun c_13 => ?_) (fun c_13 => ?_)
      · skip
        rcases cth_cases (hcc.2.2.2.2 p.toNat (by omega)) with ⟨hS, hgt⟩ | ⟨kd, n, s, sb, a, hS, hgt, hth⟩
        rotate_left
        have hwk := wf_kind hth.1
        by_cases hof : isOf kd 7
        · skip
          obtain ⟨hk78, ha37, bs, bp, st9, ps, x9, y9, h37s, h37p, hob, hbs, hbp, hst, hps, hfc⟩ := hth.st hof
          have hC := cl_st hk78
          refine V.aload_n (pc := 19) 0 d_RR_clash_19 rfl rfl ?_
          refine V.getf (pc := 20) 1 cl_RR fl_RR_17_RR d_RR_clash_20 b0 (Nat.le_of_ble_eq_true rfl) rfl ?_
          refine V.iload_n (pc := 23) 1 d_RR_clash_23 rfl rfl ?_
          refine V.aald1 (pc := 24) d_RR_clash_24 b2 (by omega) (by omega) ?_
          rw [hgt]
          refine V.astore (pc := 25) d_RR_clash_25 (Nat.le_of_ble_eq_true rfl) rfl ?_
          dsimp only [put]
          refine V.aload (pc := 27) d_RR_clash_27 rfl ?_
          refine V.instY (pc := 29) "RiverRoad$Strip" hC (ins_y (k := kd) (j := 7) (by omega) (by decide) hof) cl_RR_205 d_RR_clash_29 hob ?_
          refine V.if_eq (tgt := 44) (pc := 32) d_RR_clash_32 (by decide) (fun c_32 => ?_) (fun c_32 => ?_)
          · skip
            exact absurd c_32 (by decide)
          · skip
            refine V.aload (pc := 35) d_RR_clash_35 rfl ?_
            refine V.castY (pc := 37) "RiverRoad$Strip" hC (ins_y (k := kd) (j := 7) (by omega) (by decide) hof) cl_RR_205 d_RR_clash_37 hob ?_
            refine V.astore_n (pc := 40) 3 d_RR_clash_40 rfl (Nat.le_of_ble_eq_true rfl) rfl ?_
            dsimp only [put]
            refine V.goto (tgt := 50) (pc := 41) d_RR_clash_41 (by decide) ?_
            refine V.aload_n (pc := 50) 0 d_RR_clash_50 rfl rfl ?_
            refine V.iload_n (pc := 51) 2 d_RR_clash_51 rfl rfl ?_
            refine V.if_ne (tgt := 62) (pc := 52) d_RR_clash_52 (by decide) (fun c_52 => ?_) (fun c_52 => ?_)
            · skip
              refine V.aload_n (pc := 62) 3 d_RR_clash_62 rfl rfl ?_
              refine V.getf (pc := 63) 4 hC fl_RR_214_St d_RR_clash_63 hob (Nat.le_of_ble_eq_true rfl) rfl ?_
              refine V.cV1 (pc := 66) (kc2 := 0) (ks2 := 0) ml_RR_58 b0 (cc_RR_settled _ _ _ b0 _) d_RR_clash_66 (Nat.le_of_ble_eq_true rfl) (Nat.le_of_ble_eq_true rfl) (Nat.le_of_ble_eq_true rfl) (Nat.le_of_ble_eq_true rfl) ?_
              rintro _ _ _ ⟨rfl, rfl, rfl⟩
              dsimp only [Option.toList, List.cons_append, List.nil_append]
              refine V.ret (pc := 69) (r := some (vI _)) d_RR_clash_69 (Or.inl rfl) rfl ?_
              refine qcx_of (S2 := sSt S 0) (Nat.le_refl _) ?_ (hI.st 0)
              unfold sp_clash; rw [if_pos (by omega)]; simp only [hS]; rw [if_pos hof]
              exact ⟨ps, x9, y9, hps, hfc, by rw [if_neg (by omega)]⟩
            · skip
              refine V.aload_n (pc := 55) 3 d_RR_clash_55 rfl rfl ?_
              refine V.getf (pc := 56) 3 hC fl_RR_211_St d_RR_clash_56 hob (Nat.le_of_ble_eq_true rfl) rfl ?_
              refine V.goto (tgt := 66) (pc := 59) d_RR_clash_59 (by decide) ?_
              refine V.cV1 (pc := 66) (kc2 := 0) (ks2 := 0) ml_RR_58 b0 (cc_RR_settled _ _ _ b0 _) d_RR_clash_66 (Nat.le_of_ble_eq_true rfl) (Nat.le_of_ble_eq_true rfl) (Nat.le_of_ble_eq_true rfl) (Nat.le_of_ble_eq_true rfl) ?_
              rintro _ _ _ ⟨rfl, rfl, rfl⟩
              dsimp only [Option.toList, List.cons_append, List.nil_append]
              refine V.ret (pc := 69) (r := some (vI _)) d_RR_clash_69 (Or.inl rfl) rfl ?_
              refine qcx_of (S2 := sSt S 0) (Nat.le_refl _) ?_ (hI.st 0)
              unfold sp_clash; rw [if_pos (by omega)]; simp only [hS]; rw [if_pos hof]
              exact ⟨ps, x9, y9, hps, hfc, by rw [if_pos (by omega)]⟩
        · skip
          obtain ⟨ha37, ci, N, T, ty, fs9, hC, hob⟩ := hth.ob
          refine V.aload_n (pc := 19) 0 d_RR_clash_19 rfl rfl ?_
          refine V.getf (pc := 20) 1 cl_RR fl_RR_17_RR d_RR_clash_20 b0 (Nat.le_of_ble_eq_true rfl) rfl ?_
          refine V.iload_n (pc := 23) 1 d_RR_clash_23 rfl rfl ?_
          refine V.aald1 (pc := 24) d_RR_clash_24 b2 (by omega) (by omega) ?_
          rw [hgt]
          refine V.astore (pc := 25) d_RR_clash_25 (Nat.le_of_ble_eq_true rfl) rfl ?_
          dsimp only [put]
          refine V.aload (pc := 27) d_RR_clash_27 rfl ?_
          refine V.instNo (pc := 29) "RiverRoad$Strip" hC (ins_n (k := kd) (j := 7) (by omega) (by decide) hof) cl_RR_205 d_RR_clash_29 hob ?_
          refine V.if_eq (tgt := 44) (pc := 32) d_RR_clash_32 (by decide) (fun c_32 => ?_) (fun c_32 => ?_)
          · skip
            refine V.aload_n (pc := 44) 0 d_RR_clash_44 rfl rfl ?_
            refine V.iload_n (pc := 45) 1 d_RR_clash_45 rfl rfl ?_
            refine V.cV1 (pc := 46) (kc2 := 0) (ks2 := 0) ml_RR_93 b0 (cc_RR_notThatK _ _ (by omega) _ _ _ b0 b2 hgt _) d_RR_clash_46 (Nat.le_of_ble_eq_true rfl) (Nat.le_of_ble_eq_true rfl) (Nat.le_of_ble_eq_true rfl) (Nat.le_of_ble_eq_true rfl) ?_
            rintro _ _ _ ⟨rfl, rfl, rfl⟩
            dsimp only [Option.toList, List.cons_append, List.nil_append]
            refine V.ret (pc := 49) (r := some (vI _)) d_RR_clash_49 (Or.inl rfl) rfl ?_
            refine qcx_of (S2 := sSt S 3) (Nat.le_refl _) ?_ (hI.st 3)
            unfold sp_clash; rw [if_pos (by omega)]; simp only [hS]; rw [if_neg hof]
            try trivial
          · skip
            exact absurd rfl c_32
        · skip
          refine V.aload_n (pc := 19) 0 d_RR_clash_19 rfl rfl ?_
          refine V.getf (pc := 20) 1 cl_RR fl_RR_17_RR d_RR_clash_20 b0 (Nat.le_of_ble_eq_true rfl) rfl ?_
          refine V.iload_n (pc := 23) 1 d_RR_clash_23 rfl rfl ?_
          refine V.aald1 (pc := 24) d_RR_clash_24 b2 (by omega) (by omega) ?_
          rw [hgt]
          refine V.astore (pc := 25) d_RR_clash_25 (Nat.le_of_ble_eq_true rfl) rfl ?_
          dsimp only [put]
          refine V.aload (pc := 27) d_RR_clash_27 rfl ?_
          refine V.instN (pc := 29) d_RR_clash_29 ?_
          refine V.if_eq (tgt := 44) (pc := 32) d_RR_clash_32 (by decide) (fun c_32 => ?_) (fun c_32 => ?_)
          · skip
            refine V.aload_n (pc := 44) 0 d_RR_clash_44 rfl rfl ?_
            refine V.iload_n (pc := 45) 1 d_RR_clash_45 rfl rfl ?_
            refine V.cV1 (pc := 46) (kc2 := 0) (ks2 := 0) ml_RR_93 b0 (cc_RR_notThatN _ _ (by omega) _ _ b0 b2 hgt _) d_RR_clash_46 (Nat.le_of_ble_eq_true rfl) (Nat.le_of_ble_eq_true rfl) (Nat.le_of_ble_eq_true rfl) (Nat.le_of_ble_eq_true rfl) ?_
            rintro _ _ _ ⟨rfl, rfl, rfl⟩
            dsimp only [Option.toList, List.cons_append, List.nil_append]
            refine V.ret (pc := 49) (r := some (vI _)) d_RR_clash_49 (Or.inl rfl) rfl ?_
            refine qcx_of (S2 := sSt S 1) (Nat.le_refl _) ?_ (hI.st 1)
            unfold sp_clash; rw [if_pos (by omega)]; simp only [hS]
          · skip
            exact absurd rfl c_32
      · skip
        refine V.ldc (pc := 16) (-1000001) ck_RR_50 rfl ⟨by decide, by decide⟩ d_RR_clash_16 ?_
        refine V.ret (pc := 18) (r := some (vI _)) d_RR_clash_18 (Or.inl rfl) rfl ?_
        refine qcx_of (S2 := S) (Nat.le_refl _) ?_ hI
        unfold sp_clash; rw [if_neg (by omega)]
