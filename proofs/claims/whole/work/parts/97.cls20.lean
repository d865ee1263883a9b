/-! THE CLASS: its making, printed by wip/whole/gen/cls20.py -/
theorem V.cIN {M : MD} {d pc : Nat} {ls : List (Option MV)} {st : List MV} {h : MH} {sz kc ks : Nat} {Q : QT} {b d2 mc ms kc2 ks2 : Nat} {Qc : QT} (how : M.1.cls = "RiverRoad") (hC : Ct M_Tr_init d2 mc ms [vR b] h sz Qc) (hd : decode M.2.1 pc = .ok (.invokespecial 23, 3)) (hdd : d2 + 1 ≤ d) (h4 : st.length ≤ 4) (g1 : kc2 + mc ≤ kc) (g2 : ks2 + ms ≤ ks) (kk : ∀ (r : Option MV) (h2 : MH) (sz2 : Nat), Qc r h2 sz2 → V M d (pc + 3) ls (r.toList ++ st) h2 sz2 kc2 ks2 Q) : V M d pc ls (vR b :: st) h sz kc ks Q := by
  refine V.call (st0 := vR b :: st) (hc := h) (run_IN hC mo_Tr_init rfl rfl how hdd h4 hd) (fun _ _ z => z) (fun hst => okt hst) g1 g2 (fun r h2 sz2 hq => ?_)
  rw [hov_self]
  exact kk r h2 sz2 hq
def hL (cs : List MC) : MH := fun a => cs[a]?
theorem hL_new {cs : List MC} {s : Nat} (c : MC) (hs : s = cs.length) : hset (hL cs) s c = hL (cs ++ [c]) := by
  funext a
  unfold hset hL
  by_cases e : a = s
  · rw [if_pos e, e, hs, List.getElem?_concat_length]
  · rw [if_neg e]
    by_cases e2 : a < cs.length
    · rw [List.getElem?_append_left e2]
    · rw [List.getElem?_eq_none (by omega), List.getElem?_eq_none (by rw [List.length_append, List.length_singleton]; omega)]
theorem hL_put {cs : List MC} {s : Nat} (c : MC) (hs : s < cs.length) : hset (hL cs) s c = hL (cs.set s c) := by
  funext a
  unfold hset hL
  by_cases e : a = s
  · rw [if_pos e, e, List.getElem?_set_self hs]
  · rw [if_neg e, List.getElem?_set_ne (fun z => e z.symm)]
/-- nothing is known -/
def S0 : SS := (fun _ => none, fun _ => none, 0, 0, fun _ => 0)
set_option maxRecDepth 20000 in
theorem ci_Tr_init (a : Nat) (h : MH) (ha : h a = some (kO 1 d0_Tr)) (sz : Nat) (hsz : a < sz) : Ct M_Tr_init 2 1 16 [vR a] h sz (Det none (hset (hset h sz (kA 0 16 (fun _ => 0))) a (kO 1 [vR sz, vI 0])) (sz + 1)) := by
  refine Ct.of rfl (Nat.le_of_ble_eq_true rfl) ?_
  dsimp only [lsOf]
  refine V.aload_n (pc := 0) 0 d_Tr_init_0 rfl rfl ?_
  refine V.objInit (pc := 1) ml_Tr_1 (Nat.le_of_ble_eq_true rfl) (Nat.le_of_ble_eq_true rfl) d_Tr_init_1 ?_
  refine V.aload_n (pc := 4) 0 d_Tr_init_4 rfl rfl ?_
  refine V.bipush (pc := 5) d_Tr_init_5 ⟨by decide, by decide⟩ ?_
  refine V.newi (pc := 7) 0 (kc2 := 0) (ks2 := 0) d_Tr_init_7 (by omega) (by omega) (Nat.le_of_ble_eq_true rfl) (by omega) ?_
  refine V.putF (pc := 9) 0 cl_Tr fl_Tr_7_Tr d_Tr_init_9 (hset_o (by omega) ha) (Nat.le_of_ble_eq_true rfl) (Nat.le_of_ble_eq_true rfl) rfl rfl rfl (fun _ => ⟨rfl, rfl⟩) ?_
  dsimp only [List.set]
  refine V.aload_n (pc := 12) 0 d_Tr_init_12 rfl rfl ?_
  refine V.iconst (pc := 13) d_Tr_init_13 ⟨by decide, by decide⟩ ?_
  refine V.putf (pc := 14) 1 cl_Tr fl_Tr_13_Tr d_Tr_init_14 hset_s (Nat.le_of_ble_eq_true rfl) (Nat.le_of_ble_eq_true rfl) rfl (fun _ => ⟨rfl, rfl⟩) ?_
  dsimp only [List.set]
  refine V.ret (pc := 17) (r := none) d_Tr_init_17 rfl rfl ?_
  exact ⟨rfl, hset_tw, rfl⟩
set_option maxRecDepth 20000 in
theorem ci_RR_init : Ct M_RR_init 3 7 221 [vR 0] (hL [kO 0 d0_RR]) 1 (fun r h s => r = none ∧ s = 8 ∧ CI S0 h) := by
  refine Ct.of rfl (Nat.le_of_ble_eq_true rfl) ?_
  dsimp only [lsOf]
  refine V.aload_n (pc := 0) 0 d_RR_init_0 rfl rfl ?_
  refine V.objInit (pc := 1) ml_RR_1 (Nat.le_of_ble_eq_true rfl) (Nat.le_of_ble_eq_true rfl) d_RR_init_1 ?_
  refine V.aload_n (pc := 4) 0 d_RR_init_4 rfl rfl ?_
  refine V.bipush (pc := 5) d_RR_init_5 ⟨by decide, by decide⟩ ?_
  refine V.newr0 (pc := 7) (kc2 := 6) (ks2 := 213) cl_RR_9 d_RR_init_7 (by decide) (by decide) (Nat.le_of_ble_eq_true rfl) (Nat.le_of_ble_eq_true rfl) ?_
  refine V.heq (hL_new _ rfl) ?_
  dsimp only [List.cons_append, List.nil_append]
  refine V.putF (pc := 10) 0 cl_RR fl_RR_11_RR d_RR_init_10 rfl (Nat.le_of_ble_eq_true rfl) (Nat.le_of_ble_eq_true rfl) rfl rfl rfl (fun _ => ⟨rfl, rfl⟩) ?_
  refine V.heq (hL_put _ (Nat.succ_pos _)) ?_
  dsimp only [List.set]
  refine V.aload_n (pc := 13) 0 d_RR_init_13 rfl rfl ?_
  refine V.bipush (pc := 14) d_RR_init_14 ⟨by decide, by decide⟩ ?_
  refine V.newr1 (pc := 16) (kc2 := 5) (ks2 := 203) cl_RR_15 d_RR_init_16 (by decide) (by decide) (Nat.le_of_ble_eq_true rfl) (Nat.le_of_ble_eq_true rfl) ?_
  refine V.heq (hL_new _ rfl) ?_
  dsimp only [List.cons_append, List.nil_append]
  refine V.putF (pc := 19) 1 cl_RR fl_RR_17_RR d_RR_init_19 rfl (Nat.le_of_ble_eq_true rfl) (Nat.le_of_ble_eq_true rfl) rfl rfl rfl (fun _ => ⟨rfl, rfl⟩) ?_
  refine V.heq (hL_put _ (Nat.succ_pos _)) ?_
  dsimp only [List.set]
  refine V.aload_n (pc := 22) 0 d_RR_init_22 rfl rfl ?_
  refine V.new (pc := 23) d0_Tr (kc2 := 4) (ks2 := 201) cl_Tr cl_RR_21 nw_Tr.1 nw_Tr.2 d_RR_init_23 df_Tr ok_Tr (Nat.le_of_ble_eq_true rfl) (Nat.le_of_ble_eq_true rfl) ?_
  refine V.heq (hL_new _ rfl) ?_
  dsimp only [List.cons_append, List.nil_append]
  refine V.dup (pc := 26) d_RR_init_26 (fun _ => rfl) ?_
  refine V.cIN (pc := 27) (kc2 := 3) (ks2 := 185) rfl (ci_Tr_init 3 _ rfl 4 (by decide)) d_RR_init_27 (Nat.le_of_ble_eq_true rfl) (Nat.le_of_ble_eq_true rfl) (Nat.le_of_ble_eq_true rfl) (Nat.le_of_ble_eq_true rfl) ?_
  rintro _ _ _ ⟨rfl, rfl, rfl⟩
  dsimp only [Option.toList, List.cons_append, List.nil_append]
  refine V.heq ((congrArg (fun q => hset q 3 _) (hL_new _ rfl)).trans (hL_put _ (by decide))) ?_
  dsimp only [List.cons_append, List.nil_append, List.set]
  refine V.putF (pc := 30) 2 cl_RR fl_RR_24_RR d_RR_init_30 rfl (Nat.le_of_ble_eq_true rfl) (Nat.le_of_ble_eq_true rfl) rfl rfl rfl (fun _ => ⟨rfl, rfl⟩) ?_
  refine V.heq (hL_put _ (Nat.succ_pos _)) ?_
  dsimp only [List.set]
  refine V.aload_n (pc := 33) 0 d_RR_init_33 rfl rfl ?_
  refine V.cS0 (pc := 34) (kc2 := 2) (ks2 := 16) ml_RR_28 (cc_RR_countEndings _ _) d_RR_init_34 (Nat.le_of_ble_eq_true rfl) (Nat.le_of_ble_eq_true rfl) (Nat.le_of_ble_eq_true rfl) (Nat.le_of_ble_eq_true rfl) ?_
  rintro _ _ _ ⟨rfl, rfl, en, rfl, hen⟩
  dsimp only [Option.toList, List.cons_append, List.nil_append]
  refine V.heq (hL_new _ rfl) ?_
  dsimp only [List.cons_append, List.nil_append]
  refine V.putF (pc := 37) 3 cl_RR fl_RR_32_RR d_RR_init_37 rfl (Nat.le_of_ble_eq_true rfl) (Nat.le_of_ble_eq_true rfl) rfl rfl rfl (fun _ => ⟨rfl, rfl⟩) ?_
  refine V.heq (hL_put _ (Nat.succ_pos _)) ?_
  dsimp only [List.set]
  refine V.aload_n (pc := 40) 0 d_RR_init_40 rfl rfl ?_
  refine V.bipush (pc := 41) d_RR_init_41 ⟨by decide, by decide⟩ ?_
  refine V.newi (pc := 43) 0 (kc2 := 1) (ks2 := 8) d_RR_init_43 (by decide) (by decide) (Nat.le_of_ble_eq_true rfl) (by decide) ?_
  refine V.heq (hL_new _ rfl) ?_
  dsimp only [List.cons_append, List.nil_append]
  refine V.putF (pc := 45) 4 cl_RR fl_RR_36_RR d_RR_init_45 rfl (Nat.le_of_ble_eq_true rfl) (Nat.le_of_ble_eq_true rfl) rfl rfl rfl (fun _ => ⟨rfl, rfl⟩) ?_
  refine V.heq (hL_put _ (Nat.succ_pos _)) ?_
  dsimp only [List.set]
  refine V.aload_n (pc := 48) 0 d_RR_init_48 rfl rfl ?_
  refine V.bipush (pc := 49) d_RR_init_49 ⟨by decide, by decide⟩ ?_
  refine V.newi (pc := 51) 0 (kc2 := 0) (ks2 := 0) d_RR_init_51 (by decide) (by decide) (Nat.le_of_ble_eq_true rfl) (by decide) ?_
  refine V.heq (hL_new _ rfl) ?_
  dsimp only [List.cons_append, List.nil_append]
  refine V.putF (pc := 53) 5 cl_RR fl_RR_39_RR d_RR_init_53 rfl (Nat.le_of_ble_eq_true rfl) (Nat.le_of_ble_eq_true rfl) rfl rfl rfl (fun _ => ⟨rfl, rfl⟩) ?_
  refine V.heq (hL_put _ (Nat.succ_pos _)) ?_
  dsimp only [List.set]
  refine V.aload_n (pc := 56) 0 d_RR_init_56 rfl rfl ?_
  refine V.iconst (pc := 57) d_RR_init_57 ⟨by decide, by decide⟩ ?_
  refine V.putf (pc := 58) 6 cl_RR fl_RR_42_RR d_RR_init_58 rfl (Nat.le_of_ble_eq_true rfl) (Nat.le_of_ble_eq_true rfl) rfl (fun _ => ⟨rfl, rfl⟩) ?_
  refine V.heq (hL_put _ (Nat.succ_pos _)) ?_
  dsimp only [List.set]
  refine V.ret (pc := 61) (r := none) d_RR_init_61 rfl rfl ?_
  refine ⟨rfl, rfl, _, _, _, _, _, _, ⟨rfl, rfl, rfl, rfl, rfl, rfl, rfl, rfl⟩, ?_, hen, ⟨Nat.zero_le _, fun i hi => absurd hi (Nat.not_lt_zero _)⟩, fun k _ => rfl, fun t _ => rfl⟩
  intro a h8 _
  exact List.getElem?_eq_none h8
