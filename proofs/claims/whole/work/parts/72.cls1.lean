/-! THE CLASS: its heap; small methods, printed by wip/whole/gen/cls1.py -/
theorem hset_s {h : MH} {a : Nat} {c : MC} : hset h a c a = some c := by unfold hset; rw [if_pos rfl]
theorem hset_o {h : MH} {a b : Nat} {c c2 : MC} (n : b ≠ a) (k : h b = some c) : hset h a c2 b = some c := by unfold hset; rw [if_neg n]; exact k
theorem hset_ne {h : MH} {a b : Nat} {c : MC} (n : b ≠ a) : hset h a c b = h b := by unfold hset; rw [if_neg n]
theorem hset_tw {h : MH} {a : Nat} {c c2 : MC} : hset (hset h a c) a c2 = hset h a c2 := by
  funext b; unfold hset; split <;> rfl
/-- every cell that is known lies below the heap's size -/
theorem V.fresh {M : MD} {d pc : Nat} {ls : List (Option MV)} {st : List MV} {h : MH} {sz kc ks : Nat} {Q : QT} (k : (∀ a c, h a = some c → a < sz) → V M d pc ls st h sz kc ks Q) : V M d pc ls st h sz kc ks Q := by
  intro p l e R s m args below meth c Z E F cM sM C H locs cells slots lv hR
  exact k (fun a c ha => hR.lt ha) p l e R s m args below meth c Z E F cM sM C H locs cells slots lv hR
/-- the object itself, with its latest finding -/
abbrev oRR (x : Int) : MC := kO 0 [vR 1, vR 2, vR 3, vR 5, vR 6, vR 7, vI x]
abbrev d0_RR : List MV := [vN, vN, vN, vN, vN, vN, vI 0]
theorem df_RR : ∀ E : Ev, ∀ j, j < 7 → defaultValue (t_RR j) = vp_V (d0_RR.map (cv E)) j := by
  intro E j hj
  match j, hj with
  | 0, _ => rfl
  | 1, _ => rfl
  | 2, _ => rfl
  | 3, _ => rfl
  | 4, _ => rfl
  | 5, _ => rfl
  | 6, _ => rfl
theorem ok_RR : ∀ v ∈ d0_RR, okV v := by
  intro v hv
  simp only [List.mem_cons, List.not_mem_nil, or_false] at hv
  rcases hv with rfl | rfl | rfl | rfl | rfl | rfl | rfl
  all_goals first | trivial | exact ⟨by decide, by decide⟩
abbrev d0_Tr : List MV := [vN, vI 0]
theorem df_Tr : ∀ E : Ev, ∀ j, j < 2 → defaultValue (t_Tr j) = vp_V (d0_Tr.map (cv E)) j := by
  intro E j hj
  match j, hj with
  | 0, _ => rfl
  | 1, _ => rfl
theorem ok_Tr : ∀ v ∈ d0_Tr, okV v := by
  intro v hv
  simp only [List.mem_cons, List.not_mem_nil, or_false] at hv
  rcases hv with rfl | rfl
  all_goals first | trivial | exact ⟨by decide, by decide⟩
abbrev d0_Sh : List MV := [vI 0, vN]
theorem df_Sh : ∀ E : Ev, ∀ j, j < 2 → defaultValue (t_Sh j) = vp_V (d0_Sh.map (cv E)) j := by
  intro E j hj
  match j, hj with
  | 0, _ => rfl
  | 1, _ => rfl
theorem ok_Sh : ∀ v ∈ d0_Sh, okV v := by
  intro v hv
  simp only [List.mem_cons, List.not_mem_nil, or_false] at hv
  rcases hv with rfl | rfl
  all_goals first | trivial | exact ⟨by decide, by decide⟩
abbrev d0_Row : List MV := [vI 0, vL 0]
theorem df_Row : ∀ E : Ev, ∀ j, j < 2 → defaultValue (t_Row j) = vp_V (d0_Row.map (cv E)) j := by
  intro E j hj
  match j, hj with
  | 0, _ => rfl
  | 1, _ => rfl
theorem ok_Row : ∀ v ∈ d0_Row, okV v := by
  intro v hv
  simp only [List.mem_cons, List.not_mem_nil, or_false] at hv
  rcases hv with rfl | rfl
  all_goals first | trivial | exact ⟨by decide, by decide⟩
abbrev d0_Ar : List MV := [vI 0, vL 0, vN]
theorem df_Ar : ∀ E : Ev, ∀ j, j < 3 → defaultValue (t_Ar j) = vp_V (d0_Ar.map (cv E)) j := by
  intro E j hj
  match j, hj with
  | 0, _ => rfl
  | 1, _ => rfl
  | 2, _ => rfl
theorem ok_Ar : ∀ v ∈ d0_Ar, okV v := by
  intro v hv
  simp only [List.mem_cons, List.not_mem_nil, or_false] at hv
  rcases hv with rfl | rfl | rfl
  all_goals first | trivial | exact ⟨by decide, by decide⟩
abbrev d0_La : List MV := [vI 0, vN, vN, vN, vI 0]
theorem df_La : ∀ E : Ev, ∀ j, j < 5 → defaultValue (t_La j) = vp_V (d0_La.map (cv E)) j := by
  intro E j hj
  match j, hj with
  | 0, _ => rfl
  | 1, _ => rfl
  | 2, _ => rfl
  | 3, _ => rfl
  | 4, _ => rfl
theorem ok_La : ∀ v ∈ d0_La, okV v := by
  intro v hv
  simp only [List.mem_cons, List.not_mem_nil, or_false] at hv
  rcases hv with rfl | rfl | rfl | rfl | rfl
  all_goals first | trivial | exact ⟨by decide, by decide⟩
abbrev d0_St : List MV := [vI 0, vN, vN, vI 0, vI 0]
theorem df_St : ∀ E : Ev, ∀ j, j < 5 → defaultValue (t_St j) = vp_V (d0_St.map (cv E)) j := by
  intro E j hj
  match j, hj with
  | 0, _ => rfl
  | 1, _ => rfl
  | 2, _ => rfl
  | 3, _ => rfl
  | 4, _ => rfl
theorem ok_St : ∀ v ∈ d0_St, okV v := by
  intro v hv
  simp only [List.mem_cons, List.not_mem_nil, or_false] at hv
  rcases hv with rfl | rfl | rfl | rfl | rfl
  all_goals first | trivial | exact ⟨by decide, by decide⟩
set_option maxRecDepth 20000 in
theorem cc_RR_isSheet (k : Int) (h : MH) (sz : Nat) : Ct M_RR_isSheet 0 0 0 [vI k] h sz (Det (some (vI (if 0 ≤ k ∧ k ≤ 7 then 1 else 0))) h sz) := by
  refine Ct.of rfl (Nat.le_of_ble_eq_true rfl) ?_
  dsimp only [lsOf]
  refine V.iload_n (pc := 0) 0 d_RR_isSheet_0 rfl rfl ?_
  refine V.if_lt (tgt := 14) (pc := 1) d_RR_isSheet_1 (by decide) (fun c_1 => ?_) (fun c_1 => ?_)
  · skip
    refine V.iconst (pc := 14) d_RR_isSheet_14 ⟨by decide, by decide⟩ ?_
    refine V.ret (pc := 15) (r := some (vI _)) d_RR_isSheet_15 (Or.inr ⟨rfl, by omega⟩) rfl ?_
    first | exact detT (by omega) | exact detF (by omega)
  · skip
    refine V.iload_n (pc := 4) 0 d_RR_isSheet_4 rfl rfl ?_
    refine V.bipush (pc := 5) d_RR_isSheet_5 ⟨by decide, by decide⟩ ?_
    refine V.icmp_ge (tgt := 14) (pc := 7) d_RR_isSheet_7 (by decide) (fun c_7 => ?_) (fun c_7 => ?_)
    · skip
      refine V.iconst (pc := 14) d_RR_isSheet_14 ⟨by decide, by decide⟩ ?_
      refine V.ret (pc := 15) (r := some (vI _)) d_RR_isSheet_15 (Or.inr ⟨rfl, by omega⟩) rfl ?_
      first | exact detT (by omega) | exact detF (by omega)
    · skip
      refine V.iconst (pc := 10) d_RR_isSheet_10 ⟨by decide, by decide⟩ ?_
      refine V.goto (tgt := 15) (pc := 11) d_RR_isSheet_11 (by decide) ?_
      refine V.ret (pc := 15) (r := some (vI _)) d_RR_isSheet_15 (Or.inr ⟨rfl, by omega⟩) rfl ?_
      first | exact detT (by omega) | exact detF (by omega)
set_option maxRecDepth 20000 in
theorem cc_RR_isPlace (k : Int) (h : MH) (sz : Nat) : Ct M_RR_isPlace 0 0 0 [vI k] h sz (Det (some (vI (if 0 ≤ k ∧ k ≤ 9 then 1 else 0))) h sz) := by
  refine Ct.of rfl (Nat.le_of_ble_eq_true rfl) ?_
  dsimp only [lsOf]
  refine V.iload_n (pc := 0) 0 d_RR_isPlace_0 rfl rfl ?_
  refine V.if_lt (tgt := 14) (pc := 1) d_RR_isPlace_1 (by decide) (fun c_1 => ?_) (fun c_1 => ?_)
  · skip
    refine V.iconst (pc := 14) d_RR_isPlace_14 ⟨by decide, by decide⟩ ?_
    refine V.ret (pc := 15) (r := some (vI _)) d_RR_isPlace_15 (Or.inr ⟨rfl, by omega⟩) rfl ?_
    first | exact detT (by omega) | exact detF (by omega)
  · skip
    refine V.iload_n (pc := 4) 0 d_RR_isPlace_4 rfl rfl ?_
    refine V.bipush (pc := 5) d_RR_isPlace_5 ⟨by decide, by decide⟩ ?_
    refine V.icmp_ge (tgt := 14) (pc := 7) d_RR_isPlace_7 (by decide) (fun c_7 => ?_) (fun c_7 => ?_)
    · skip
      refine V.iconst (pc := 14) d_RR_isPlace_14 ⟨by decide, by decide⟩ ?_
      refine V.ret (pc := 15) (r := some (vI _)) d_RR_isPlace_15 (Or.inr ⟨rfl, by omega⟩) rfl ?_
      first | exact detT (by omega) | exact detF (by omega)
    · skip
      refine V.iconst (pc := 10) d_RR_isPlace_10 ⟨by decide, by decide⟩ ?_
      refine V.goto (tgt := 15) (pc := 11) d_RR_isPlace_11 (by decide) ?_
      refine V.ret (pc := 15) (r := some (vI _)) d_RR_isPlace_15 (Or.inr ⟨rfl, by omega⟩) rfl ?_
      first | exact detT (by omega) | exact detF (by omega)
set_option maxRecDepth 20000 in
theorem cc_RR_isCrossing (n p : Int) (hn : 0 ≤ n ∧ n ≤ 20) (h : MH) (sz : Nat) : Ct M_RR_isCrossing 0 0 0 [vI n, vI p] h sz (Det (some (vI (if 0 ≤ p ∧ p < 2 * n then 1 else 0))) h sz) := by
  refine Ct.of rfl (Nat.le_of_ble_eq_true rfl) ?_
  dsimp only [lsOf]
  refine V.iload_n (pc := 0) 1 d_RR_isCrossing_0 rfl rfl ?_
  refine V.if_lt (tgt := 15) (pc := 1) d_RR_isCrossing_1 (by decide) (fun c_1 => ?_) (fun c_1 => ?_)
  · skip
    refine V.iconst (pc := 15) d_RR_isCrossing_15 ⟨by decide, by decide⟩ ?_
    refine V.ret (pc := 16) (r := some (vI _)) d_RR_isCrossing_16 (Or.inr ⟨rfl, by omega⟩) rfl ?_
    first | exact detT (by omega) | exact detF (by omega)
  · skip
    refine V.iload_n (pc := 4) 1 d_RR_isCrossing_4 rfl rfl ?_
    refine V.iconst (pc := 5) d_RR_isCrossing_5 ⟨by decide, by decide⟩ ?_
    refine V.iload_n (pc := 6) 0 d_RR_isCrossing_6 rfl rfl ?_
    refine V.imul (pc := 7) d_RR_isCrossing_7 ⟨by omega, by omega⟩ ?_
    refine V.icmp_ge (tgt := 15) (pc := 8) d_RR_isCrossing_8 (by decide) (fun c_8 => ?_) (fun c_8 => ?_)
    · skip
      refine V.iconst (pc := 15) d_RR_isCrossing_15 ⟨by decide, by decide⟩ ?_
      refine V.ret (pc := 16) (r := some (vI _)) d_RR_isCrossing_16 (Or.inr ⟨rfl, by omega⟩) rfl ?_
      first | exact detT (by omega) | exact detF (by omega)
    · skip
      refine V.iconst (pc := 11) d_RR_isCrossing_11 ⟨by decide, by decide⟩ ?_
      refine V.goto (tgt := 16) (pc := 12) d_RR_isCrossing_12 (by decide) ?_
      refine V.ret (pc := 16) (r := some (vI _)) d_RR_isCrossing_16 (Or.inr ⟨rfl, by omega⟩) rfl ?_
      first | exact detT (by omega) | exact detF (by omega)
set_option maxRecDepth 20000 in
theorem cc_RR_endingsAt (a b : Int) (hb : (0 ≤ a ∧ a ≤ 12) ∧ (0 ≤ b ∧ b ≤ 12)) (h : MH) (sz : Nat) : Ct M_RR_endingsAt 0 0 0 [vI a, vI b] h sz (Det (some (vI (a * 13 + b))) h sz) := by
  refine Ct.of rfl (Nat.le_of_ble_eq_true rfl) ?_
  dsimp only [lsOf]
  refine V.iload_n (pc := 0) 0 d_RR_endingsAt_0 rfl rfl ?_
  refine V.bipush (pc := 1) d_RR_endingsAt_1 ⟨by decide, by decide⟩ ?_
  refine V.imul (pc := 3) d_RR_endingsAt_3 ⟨by omega, by omega⟩ ?_
  refine V.iload_n (pc := 4) 1 d_RR_endingsAt_4 rfl rfl ?_
  refine V.iadd (pc := 5) d_RR_endingsAt_5 ⟨by omega, by omega⟩ ?_
  refine V.ret (pc := 6) (r := some (vI _)) d_RR_endingsAt_6 (Or.inl rfl) rfl ?_
  exact detR
set_option maxRecDepth 20000 in
theorem cc_RR_isBetween (k a b : Int) (h : MH) (sz : Nat) : Ct M_RR_isBetween 0 0 0 [vI k, vI a, vI b] h sz (Det (some (vI (if a < k ∧ k < b then 1 else 0))) h sz) := by
  refine Ct.of rfl (Nat.le_of_ble_eq_true rfl) ?_
  dsimp only [lsOf]
  refine V.iload_n (pc := 0) 0 d_RR_isBetween_0 rfl rfl ?_
  refine V.iload_n (pc := 1) 1 d_RR_isBetween_1 rfl rfl ?_
  refine V.icmp_le (tgt := 14) (pc := 2) d_RR_isBetween_2 (by decide) (fun c_2 => ?_) (fun c_2 => ?_)
  · skip
    refine V.iconst (pc := 14) d_RR_isBetween_14 ⟨by decide, by decide⟩ ?_
    refine V.ret (pc := 15) (r := some (vI _)) d_RR_isBetween_15 (Or.inr ⟨rfl, by omega⟩) rfl ?_
    first | exact detT (by omega) | exact detF (by omega)
  · skip
    refine V.iload_n (pc := 5) 0 d_RR_isBetween_5 rfl rfl ?_
    refine V.iload_n (pc := 6) 2 d_RR_isBetween_6 rfl rfl ?_
    refine V.icmp_ge (tgt := 14) (pc := 7) d_RR_isBetween_7 (by decide) (fun c_7 => ?_) (fun c_7 => ?_)
    · skip
      refine V.iconst (pc := 14) d_RR_isBetween_14 ⟨by decide, by decide⟩ ?_
      refine V.ret (pc := 15) (r := some (vI _)) d_RR_isBetween_15 (Or.inr ⟨rfl, by omega⟩) rfl ?_
      first | exact detT (by omega) | exact detF (by omega)
    · skip
      refine V.iconst (pc := 10) d_RR_isBetween_10 ⟨by decide, by decide⟩ ?_
      refine V.goto (tgt := 15) (pc := 11) d_RR_isBetween_11 (by decide) ?_
      refine V.ret (pc := 15) (r := some (vI _)) d_RR_isBetween_15 (Or.inr ⟨rfl, by omega⟩) rfl ?_
      first | exact detT (by omega) | exact detF (by omega)
def mate (n s d : Int) : Int := if s % 2 = d then (if s + 1 < n then s + 1 else -1000000) else (if 1 ≤ s then s - 1 else -1000000)
set_option maxRecDepth 20000 in
theorem cc_RR_found (f x : Int) (hf : 0 ≤ f ∧ f ≤ 9) (h : MH) (h0 : h 0 = some (oRR x)) (sz : Nat) : Ct M_RR_found 0 0 0 [vR 0, vI f] h sz (Det (some (vI (-1000010 - f))) (hset h 0 (oRR f)) sz) := by
  refine Ct.of rfl (Nat.le_of_ble_eq_true rfl) ?_
  dsimp only [lsOf]
  refine V.aload_n (pc := 0) 0 d_RR_found_0 rfl rfl ?_
  refine V.iload_n (pc := 1) 1 d_RR_found_1 rfl rfl ?_
  refine V.putf (pc := 2) 6 cl_RR fl_RR_42_RR d_RR_found_2 h0 (Nat.le_of_ble_eq_true rfl) (Nat.le_of_ble_eq_true rfl) rfl (fun _ => ⟨rfl, rfl⟩) ?_
  dsimp only [List.set]
  refine V.ldc (pc := 5) (-1000010) ck_RR_230 rfl ⟨by decide, by decide⟩ d_RR_found_5 ?_
  refine V.iload_n (pc := 7) 1 d_RR_found_7 rfl rfl ?_
  refine V.isub (pc := 8) d_RR_found_8 ⟨by omega, by omega⟩ ?_
  refine V.ret (pc := 9) (r := some (vI _)) d_RR_found_9 (Or.inl rfl) rfl ?_
  exact detR
set_option maxRecDepth 20000 in
theorem cc_RR_settled (v x : Int) (h : MH) (h0 : h 0 = some (oRR x)) (sz : Nat) : Ct M_RR_settled 0 0 0 [vR 0, vI v] h sz (Det (some (vI v)) (hset h 0 (oRR 0)) sz) := by
  refine Ct.of rfl (Nat.le_of_ble_eq_true rfl) ?_
  dsimp only [lsOf]
  refine V.aload_n (pc := 0) 0 d_RR_settled_0 rfl rfl ?_
  refine V.iconst (pc := 1) d_RR_settled_1 ⟨by decide, by decide⟩ ?_
  refine V.putf (pc := 2) 6 cl_RR fl_RR_42_RR d_RR_settled_2 h0 (Nat.le_of_ble_eq_true rfl) (Nat.le_of_ble_eq_true rfl) rfl (fun _ => ⟨rfl, rfl⟩) ?_
  dsimp only [List.set]
  refine V.iload_n (pc := 5) 1 d_RR_settled_5 rfl rfl ?_
  refine V.ret (pc := 6) (r := some (vI _)) d_RR_settled_6 (Or.inl rfl) rfl ?_
  exact detR
set_option maxRecDepth 20000 in
theorem cc_Row_told (a : Nat) (h : MH) (sz : Nat) : Ct M_Row_told 0 0 0 [vR a] h sz (Det (some (vI 1)) h sz) := by
  refine Ct.of rfl (Nat.le_of_ble_eq_true rfl) ?_
  dsimp only [lsOf]
  refine V.iconst (pc := 0) d_Row_told_0 ⟨by decide, by decide⟩ ?_
  refine V.ret (pc := 1) (r := some (vI _)) d_Row_told_1 (Or.inl rfl) rfl ?_
  exact detR
set_option maxRecDepth 20000 in
theorem cc_Ar_told (a : Nat) (h : MH) (sz : Nat) : Ct M_Ar_told 0 0 0 [vR a] h sz (Det (some (vI 2)) h sz) := by
  refine Ct.of rfl (Nat.le_of_ble_eq_true rfl) ?_
  dsimp only [lsOf]
  refine V.iconst (pc := 0) d_Ar_told_0 ⟨by decide, by decide⟩ ?_
  refine V.ret (pc := 1) (r := some (vI _)) d_Ar_told_1 (Or.inl rfl) rfl ?_
  exact detR
set_option maxRecDepth 20000 in
theorem cc_Ne_told (a : Nat) (h : MH) (sz : Nat) : Ct M_Ne_told 0 0 0 [vR a] h sz (Det (some (vI 3)) h sz) := by
  refine Ct.of rfl (Nat.le_of_ble_eq_true rfl) ?_
  dsimp only [lsOf]
  refine V.iconst (pc := 0) d_Ne_told_0 ⟨by decide, by decide⟩ ?_
  refine V.ret (pc := 1) (r := some (vI _)) d_Ne_told_1 (Or.inl rfl) rfl ?_
  exact detR
set_option maxRecDepth 20000 in
theorem cc_Pe_told (a : Nat) (h : MH) (sz : Nat) : Ct M_Pe_told 0 0 0 [vR a] h sz (Det (some (vI 4)) h sz) := by
  refine Ct.of rfl (Nat.le_of_ble_eq_true rfl) ?_
  dsimp only [lsOf]
  refine V.iconst (pc := 0) d_Pe_told_0 ⟨by decide, by decide⟩ ?_
  refine V.ret (pc := 1) (r := some (vI _)) d_Pe_told_1 (Or.inl rfl) rfl ?_
  exact detR
set_option maxRecDepth 20000 in
theorem cc_La_told (a : Nat) (h : MH) (sz : Nat) : Ct M_La_told 0 0 0 [vR a] h sz (Det (some (vI 5)) h sz) := by
  refine Ct.of rfl (Nat.le_of_ble_eq_true rfl) ?_
  dsimp only [lsOf]
  refine V.iconst (pc := 0) d_La_told_0 ⟨by decide, by decide⟩ ?_
  refine V.ret (pc := 1) (r := some (vI _)) d_La_told_1 (Or.inl rfl) rfl ?_
  exact detR
set_option maxRecDepth 20000 in
theorem cc_Lo_told (a : Nat) (h : MH) (sz : Nat) : Ct M_Lo_told 0 0 0 [vR a] h sz (Det (some (vI 6)) h sz) := by
  refine Ct.of rfl (Nat.le_of_ble_eq_true rfl) ?_
  dsimp only [lsOf]
  refine V.bipush (pc := 0) d_Lo_told_0 ⟨by decide, by decide⟩ ?_
  refine V.ret (pc := 2) (r := some (vI _)) d_Lo_told_2 (Or.inl rfl) rfl ?_
  exact detR
set_option maxRecDepth 20000 in
theorem cc_St_told (a : Nat) (h : MH) (sz : Nat) : Ct M_St_told 0 0 0 [vR a] h sz (Det (some (vI 7)) h sz) := by
  refine Ct.of rfl (Nat.le_of_ble_eq_true rfl) ?_
  dsimp only [lsOf]
  refine V.bipush (pc := 0) d_St_told_0 ⟨by decide, by decide⟩ ?_
  refine V.ret (pc := 2) (r := some (vI _)) d_St_told_2 (Or.inl rfl) rfl ?_
  exact detR
set_option maxRecDepth 20000 in
theorem cc_Fo_told (a : Nat) (h : MH) (sz : Nat) : Ct M_Fo_told 0 0 0 [vR a] h sz (Det (some (vI 8)) h sz) := by
  refine Ct.of rfl (Nat.le_of_ble_eq_true rfl) ?_
  dsimp only [lsOf]
  refine V.bipush (pc := 0) d_Fo_told_0 ⟨by decide, by decide⟩ ?_
  refine V.ret (pc := 2) (r := some (vI _)) d_Fo_told_2 (Or.inl rfl) rfl ?_
  exact detR
