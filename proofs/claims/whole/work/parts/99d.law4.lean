/-! THE LAW: its walk, printed by wip/whole/gen/law4.py -/
theorem df_Mo : ∀ E : Ev, ∀ j, j < 34 → defaultValue (t_Mo j) = vp_V (mo0.map (cv E)) j := by
  intro E j hj
  match j, hj with
  | 0, _ => rfl
  | 1, _ => rfl
  | 2, _ => rfl
  | 3, _ => rfl
  | 4, _ => rfl
  | 5, _ => rfl
  | 6, _ => rfl
  | 7, _ => rfl
  | 8, _ => rfl
  | 9, _ => rfl
  | 10, _ => rfl
  | 11, _ => rfl
  | 12, _ => rfl
  | 13, _ => rfl
  | 14, _ => rfl
  | 15, _ => rfl
  | 16, _ => rfl
  | 17, _ => rfl
  | 18, _ => rfl
  | 19, _ => rfl
  | 20, _ => rfl
  | 21, _ => rfl
  | 22, _ => rfl
  | 23, _ => rfl
  | 24, _ => rfl
  | 25, _ => rfl
  | 26, _ => rfl
  | 27, _ => rfl
  | 28, _ => rfl
  | 29, _ => rfl
  | 30, _ => rfl
  | 31, _ => rfl
  | 32, _ => rfl
  | 33, _ => rfl
  | j + 34, hj => exact absurd hj (by omega)
theorem ok_Mo : ∀ v ∈ mo0, okV v := by
  intro v hv
  have : v = vN ∨ v = vI 0 := by
    unfold mo0 at hv
    simp only [List.mem_cons, List.not_mem_nil, or_false] at hv
    rcases hv with rfl | rfl | rfl | rfl | rfl | rfl | rfl | rfl | rfl | rfl | rfl | rfl | rfl | rfl | rfl | rfl | rfl | rfl | rfl | rfl | rfl | rfl | rfl | rfl | rfl | rfl | rfl | rfl | rfl | rfl | rfl | rfl | rfl | rfl
    all_goals first | exact Or.inl rfl | exact Or.inr rfl
  rcases this with rfl | rfl
  · trivial
  · exact ⟨by decide, by decide⟩
theorem RI0 : RI S0 σ0 := ⟨fun k _ => rfl, fun t _ => rfl, ⟨rfl, rfl, Nat.zero_le _, fun i hi => absurd hi (Nat.not_lt_zero _)⟩, Or.inl ⟨rfl, fun j _ => rfl⟩, fun n _ _ => Or.inl ⟨rfl, fun k _ => rfl⟩, fun n _ _ => Or.inl rfl, fun n _ _ => Or.inl rfl⟩
theorem hP_one {a : Nat} {c : MC} (h : hP mo0 [] a = some c) : a = 8 ∧ c = kO 11 mo0 := by
  unfold hP at h
  by_cases e : a < 8
  · rw [if_pos e] at h; cases h
  · rw [if_neg e] at h
    by_cases e2 : a = 8
    · subst e2; exact ⟨rfl, (Option.some.inj h).symm⟩
    · rw [List.getElem?_eq_none (show 1 ≤ a - 8 by omega)] at h; cases h
theorem hov_m {h2 : MH} (hg : gap h2) (hfr : ∀ a c, hset h2 8 (kO 11 mo0) a = some c → a < 9) : hov (hM σ0) (hset h2 8 (kO 11 mo0)) (hP mo0 []) 9 = hU h2 σ0 := by
  funext a
  unfold hov
  by_cases r : 8 ≤ a ∧ a < 37
  · obtain ⟨c, hc⟩ := hM_in (σ := σ0) r.1 r.2
    rw [hc]; exact (hU_M hg hc).symm
  · have z := hM_out (σ := σ0) (a := a) (by omega)
    rw [z]
    simp only
    have e2 : hU h2 σ0 a = h2 a := by unfold hU; rw [z]; cases h2 a <;> rfl
    have e1 : hset h2 8 (kO 11 mo0) a = h2 a := hset_ne (by omega)
    rw [e2, e1]
    split
    · rfl
    · rename_i q
      cases e : h2 a with
      | none => rfl
      | some c =>
        refine absurd ⟨?_, hfr a c (by rw [e1]; exact e)⟩ q
        cases e3 : hP mo0 [] a with
        | none => rfl
        | some c3 => have := (hP_one e3).1; omega
set_option maxRecDepth 20000 in
theorem law_walk (nm : String) (g : GS) (h3 : g.2.1 ≤ 3072) : VL g (M_Lw nm) 13 0 [some (vS 0)] [] (hL []) 0 600000 7302250 (fun r _ _ => r = some (vI 1)) := by
  refine VL.new (pc := 0) d0_RR (kc2 := 599999) (ks2 := 7302243) cl_RR cl_Law_7 nw_RR.1 nw_RR.2 d_Law_0 df_RR ok_RR (Nat.le_of_ble_eq_true rfl) (Nat.le_of_ble_eq_true rfl) ?_
  refine VL.heq (hL_new _ rfl) ?_
  dsimp only [List.cons_append, List.nil_append]
  refine VL.dup (pc := 3) d_Law_3 (fun _ => rfl) ?_
  refine VL.call (pc := 4) (kc2 := 599992) (ks2 := 7302022) (st0 := [vR 0, vR 0]) (hc := hL [kO 0 d0_RR]) (run_I (as := []) ci_RR_init ml_Law_9.1 ml_Law_9.2.1 ml_Law_9.2.2.1 ml_Law_9.2.2.2.1 ml_Law_9.2.2.2.2 rfl (Nat.le_of_ble_eq_true rfl) (Nat.le_of_ble_eq_true rfl) d_Law_4) (fun _ _ z => z) (fun hst => okt hst) (Nat.le_of_ble_eq_true rfl) (Nat.le_of_ble_eq_true rfl) (fun r h2 sz2 hq => ?_)
  rw [hov_self]
  obtain ⟨rfl, rfl, hI⟩ := hq
  dsimp only [Option.toList, List.cons_append, List.nil_append]
  refine VL.astore_n (pc := 7) 1 d_Law_7 rfl (Nat.le_of_ble_eq_true rfl) rfl ?_
  dsimp only [put]
  refine VL.new (pc := 8) mo0 (kc2 := 599991) (ks2 := 7301988) cl_Mo cl_Law_10 nw_Mo.1 nw_Mo.2 d_Law_8 df_Mo ok_Mo (Nat.le_of_ble_eq_true rfl) (Nat.le_of_ble_eq_true rfl) ?_
  refine VL.dup (pc := 11) d_Law_11 (fun _ => rfl) ?_
  refine VL.fresh (fun hfr => ?_)
  refine VL.call (pc := 12) (kc2 := 599963) (ks2 := 7288763) (st0 := [vR 8, vR 8]) (hc := hP mo0 []) (run_I (as := []) ct_Mo_init ml_Law_12.1 ml_Law_12.2.1 ml_Law_12.2.2.1 ml_Law_12.2.2.2.1 ml_Law_12.2.2.2.2 rfl (Nat.le_of_ble_eq_true rfl) (Nat.le_of_ble_eq_true rfl) d_Law_12) (fun a c z => by obtain ⟨rfl, rfl⟩ := hP_one z; exact hset_s) (fun hst => okt hst) (Nat.le_of_ble_eq_true rfl) (Nat.le_of_ble_eq_true rfl) (fun r h3 sz3 hq => ?_)
  obtain ⟨rfl, rfl, rfl⟩ := hq
  refine VL.heq (hov_m hI.gap hfr) ?_
  dsimp only [Option.toList, List.cons_append, List.nil_append]
  refine VL.astore_n (pc := 15) 2 d_Law_15 rfl (Nat.le_of_ble_eq_true rfl) rfl ?_
  dsimp only [put]
  refine VL.iconst (pc := 16) d_Law_16 ⟨by decide, by decide⟩ ?_
  refine VL.istore_n (pc := 17) 3 d_Law_17 rfl (Nat.le_of_ble_eq_true rfl) rfl ?_
  dsimp only [put]
  exact VL.less (by decide) (by decide) (lp_law nm g h3 _ (fun _ _ => rfl) 512 0 S0 h2 σ0 37 (by omega) (by omega) hI RI0 (by omega))
