/-! THE CLASS: way, printed by wip/whole/gen/cls13.py -/
section CALL2
variable {M : MD} {d pc : Nat} {ls : List (Option MV)} {st : List MV} {h : MH} {sz kc ks : Nat} {Q : QT}
/-- a method of the receiver's superclass, that is named there -/
theorem run_UO {M2 : MD} {d2 mc ms n index b ci N : Nat} {C : String} {T : u_T} {ty : Nat → FieldType} {fs : List MV} {as : List MV} {hc : MH} {Qc : QT} (hC : Ct M2 d2 mc ms (vR b :: as) hc sz Qc) (ho : MOK M2 n) (hcl : Cls ci C T N ty) (hbo : h b = some (kO ci fs)) (hw1 : Cond.methodLink M.1.cls index M2.1 ∈ lw_tbl) (hw4 : Cond.sameMethod M2.1.cls M2.1.cls M2.1.name M2.1.desc ∈ lw_tbl) (hw2 : Cond.instanceMethod M2.1 ∈ lw_tbl) (hw3 : Cond.selects C M2.1 M2.1 ∈ lw_tbl) (hn : as.length = n) (hdd : d2 + 1 ≤ d) (h4 : st.length ≤ 4) (hd : decode M.2.1 pc = .ok (.invokevirtual index, 3)) : RunC M d pc (as.reverse ++ vR b :: st) st h sz hc mc ms Qc := by
  intro p l e R s m args below meth c E F H locs cells slots lv hB hSF hFF hrm hR hRc hS hlv hok hc1 hc2
  obtain ⟨hx, hb, hml, hown⟩ := hB
  have hoka : ∀ v ∈ vR b :: as, okV v := fun v hv => by
    rcases List.mem_cons.mp hv with rfl | hv
    · trivial
    · exact hok v (List.mem_append_left _ (List.mem_reverse.mpr hv))
  have ho5 := ho.2.2.2.2
  have hlen : ∀ sig, parseMethodDescriptor M2.1.desc = some sig → n = sig.parameters.length := ho.len
  refine ⟨((vR b :: as).map (cv E)).toArray, va_runU (Ts := gT) (C := C) (owner := M2.1.cls) (x := M2.1) (b := eb E + b) (As := as.map (cv E)) (rest := st.map (cv E)) (n := n) (bytes := M2.2.1) (maxL := M2.2.2.1) (ret := M2.2.2.2) ⟨hx, hb, hml, hown, hSF.hts args⟩ (hC l E) ⟨⟨rfl, rfl, ?_, ?_, code_good hSF ho, List.mem_singleton.mpr rfl⟩, hSF.w ho.1 rfl args, hSF.w ho.2.1 rfl args, ho.2.2.1, hlen, hSF.w hw1 rfl args, hSF.w hw4 rfl args, va_Decl.of (hSF.w hw2 rfl args) (hSF.w ho.1 rfl args), hSF.w hw3 rfl args, hSF.w hw2 rfl args⟩ ⟨cPre_blind E (vR b :: as) hc sz, recv hSF hR hcl hbo, fun U hU hW => pre_of hSF hFF hRc hS hoka hU hW⟩ rfl (by rw [List.length_map]; exact hn) hlv (by show (as.reverse ++ vR b :: st).map (cv E) = _; rw [List.map_append, List.map_reverse]; rfl) (lroom st h4) hd ⟨hc1, hc2⟩⟩
  · show d2 + 1 ≤ R.frames; omega
  · show 8 + (M2.2.2.1 + 11) + 40 * d2 ≤ R.locals; omega
theorem V.cW2 {x1 x2 : MV} {b : Nat} {M2 : MD} {C : String} {d2 mc ms kc2 ks2 index ci N : Nat} {T : u_T} {ty : Nat → FieldType} {fs : List MV} {Qc : QT} (ho : MOK M2 2) (hcl : Cls ci C T N ty) (hw1 : Cond.methodLink M.1.cls index M2.1 ∈ lw_tbl) (hw4 : Cond.sameMethod M2.1.cls M2.1.cls M2.1.name M2.1.desc ∈ lw_tbl) (hw2 : Cond.instanceMethod M2.1 ∈ lw_tbl) (hw3 : Cond.selects C M2.1 M2.1 ∈ lw_tbl) (hb : h b = some (kO ci fs)) (hC : Ct M2 d2 mc ms [vR b, x1, x2] h sz Qc) (hd : decode M.2.1 pc = .ok (.invokevirtual index, 3)) (hdd : d2 + 1 ≤ d) (h4 : st.length ≤ 4) (g1 : kc2 + mc ≤ kc) (g2 : ks2 + ms ≤ ks) (kk : ∀ (r : Option MV) (h2 : MH) (sz2 : Nat), Qc r h2 sz2 → V M d (pc + 3) ls (r.toList ++ st) h2 sz2 kc2 ks2 Q) : V M d pc ls (x2 :: x1 :: vR b :: st) h sz kc ks Q := by
  refine V.call (st0 := x2 :: x1 :: vR b :: st) (hc := h) (run_UO (as := [x1, x2]) hC ho hcl hb hw1 hw4 hw2 hw3 rfl hdd h4 hd) (fun _ _ z => z) (fun hst => okt (okt (okt hst))) g1 g2 (fun r h2 sz2 hq => ?_)
  rw [hov_self]
  exact kk r h2 sz2 hq
end CALL2
theorem sel_go : ∀ k : Int, (k = 5 ∨ k = 6) → Cond.selects (cnm k) M_La_goneOn.1 M_La_goneOn.1 ∈ lw_tbl := by
  intro k hk
  rcases hk with rfl | rfl
  · exact List.mem_of_getElem? (i := 581) (by decide +kernel)
  · exact List.mem_of_getElem? (i := 583) (by decide +kernel)
theorem lnk_go : Cond.methodLink "RiverRoad" 194 M_La_goneOn.1 ∈ lw_tbl ∧ Cond.sameMethod M_La_goneOn.1.cls M_La_goneOn.1.cls M_La_goneOn.1.name M_La_goneOn.1.desc ∈ lw_tbl ∧ Cond.instanceMethod M_La_goneOn.1 ∈ lw_tbl := ⟨List.mem_of_getElem? (i := 579) (by decide +kernel), List.mem_of_getElem? (i := 582) (by decide +kernel), List.mem_of_getElem? (i := 580) (by decide +kernel)⟩
set_option maxRecDepth 20000 in
theorem cc_La_goneOn (a o9 u9 c co cu : Nat) {ci cj ck : Nat} {C D E2 : String} (hC : Cls ci C F_La 5 t_La) (hCo : Cls cj D F_Ar 3 t_Ar) (hCu : Cls ck E2 F_Ar 3 t_Ar) (n k : Nat) (v1 v2 v3 : MV) (w1 w2 : Int) (q st9 : Int) (hq : 0 ≤ q ∧ q < 2 * n) (hst : st9 = k) (hk : k < 64) (fo fu : Nat → Int) (h : MH) (ha : h a = some (kO ci [v1, vR o9, vR u9, v2, v3])) (ho : h o9 = some (kO cj [vI (n : Int), vL w1, vR co])) (hu : h u9 = some (kO ck [vI (n : Int), vL w2, vR cu])) (hco : h co = some (kA 0 (2 * n) fo)) (hcu : h cu = some (kA 0 (2 * n) fu)) (sz : Nat) : Ct M_La_goneOn 0 0 0 [vR a, vI q, vI st9] h sz (Det (some (vI (if k % 2 = 0 then fo q.toNat else fu q.toNat))) h sz) := by
  refine Ct.of rfl (Nat.le_of_ble_eq_true rfl) ?_
  dsimp only [lsOf]
  refine V.iload_n (pc := 0) 2 d_La_goneOn_0 rfl rfl ?_
  refine V.iconst (pc := 1) d_La_goneOn_1 ⟨by decide, by decide⟩ ?_
  refine V.iand (pc := 2) (((k % 2 : Nat) : Int)) d_La_goneOn_2 (b_and32 hst hk) ?_
  refine V.if_ne (tgt := 18) (pc := 3) d_La_goneOn_3 (by decide) (fun c_3 => ?_) (fun c_3 => ?_)
  · skip
    refine V.aload_n (pc := 18) 0 d_La_goneOn_18 rfl rfl ?_
    refine V.getf (pc := 19) 2 hC fl_La_19_La d_La_goneOn_19 ha (Nat.le_of_ble_eq_true rfl) rfl ?_
    refine V.getf (pc := 22) 2 hCu fl_La_29_Ar d_La_goneOn_22 hu (Nat.le_of_ble_eq_true rfl) rfl ?_
    refine V.iload_n (pc := 25) 1 d_La_goneOn_25 rfl rfl ?_
    refine V.iald (pc := 26) d_La_goneOn_26 hcu (by omega) (by omega) ?_
    refine V.ret (pc := 27) (r := some (vI _)) d_La_goneOn_27 (Or.inl rfl) rfl ?_
    rw [if_neg (by omega)]
    exact detR
  · skip
    refine V.aload_n (pc := 6) 0 d_La_goneOn_6 rfl rfl ?_
    refine V.getf (pc := 7) 1 hC fl_La_13_La d_La_goneOn_7 ha (Nat.le_of_ble_eq_true rfl) rfl ?_
    refine V.getf (pc := 10) 2 hCo fl_La_29_Ar d_La_goneOn_10 ho (Nat.le_of_ble_eq_true rfl) rfl ?_
    refine V.iload_n (pc := 13) 1 d_La_goneOn_13 rfl rfl ?_
    refine V.iald (pc := 14) d_La_goneOn_14 hco (by omega) (by omega) ?_
    refine V.goto (tgt := 27) (pc := 15) d_La_goneOn_15 (by decide) ?_
    refine V.ret (pc := 27) (r := some (vI _)) d_La_goneOn_27 (Or.inl rfl) rfl ?_
    rw [if_pos (by omega)]
    exact detR
set_option maxRecDepth 20000 in
theorem lq_RR_way (S : SS) (h : MH) (hI : CI S h) (x0 : Int) (b0 : h 0 = some (oRR x0)) (p q k : Int) (hp : 0 ≤ p ∧ p ≤ 9) (kd : Int) (n : Nat) (s sb : Nat → Int) (hS : S.2.1 p.toNat = some (kd, n, s, sb)) (hof : isOf kd 5) (hk56 : kd = 5 ∨ kd = 6) (hn : 1 ≤ n ∧ n ≤ 20) (hq : 0 ≤ q ∧ q < 2 * n) (hk : 0 ≤ k ∧ k < 2 * n) (a o9 u9 c co cu : Nat) {cj ck : Nat} {D E2 : String} (hC : Cls (if kd = 6 then 8 else 7) (cnm kd) F_La 5 t_La) (hCo : Cls cj D F_Ar 3 t_Ar) (hCu : Cls ck E2 F_Ar 3 t_Ar) (w1 w2 v3 : Int) (fo fu : Nat → Int) (hob : h a = some (kO (if kd = 6 then 8 else 7) [vI (n : Int), vR o9, vR u9, vR c, vI v3])) (ho : h o9 = some (kO cj [vI (n : Int), vL w1, vR co])) (hu : h u9 = some (kO ck [vI (n : Int), vL w2, vR cu])) (hco : h co = some (kA 0 (2 * n) fo)) (hcu : h cu = some (kA 0 (2 * n) fu)) (hfo : ∀ x, x < 2 * n → fo x = pt s n x) (hfu : ∀ x, x < 2 * n → fu x = pt sb n x) (hfr : PR (pt s n) (2 * n)) (hgr : PR (pt sb n) (2 * n)) (t : Nat) (t1 : 2 ≤ t) (t2 : t ≤ 2 * n) (t4 : wk (pt s n) (pt sb n) q.toNat t = q.toNat) (t5 : ∀ i j, i < j → j < t → wk (pt s n) (pt sb n) q.toNat i ≠ wk (pt s n) (pt sb n) q.toNat j) (hlen : cn (clf s sb n q.toNat) (2 * n) = (t : Int)) (sz : Nat) : ∀ (m i : Nat) (qq ii : Int), (i : Int) + m = k → ii = i → qq = ((wk (pt s n) (pt sb n) q.toNat i : Nat) : Int) → i < t →
    V M_RR_way 2 82 [some (vR 0), some (vI p), some (vI q), some (vI k), some (vR a), some (vI qq), some (vI ii)] [] h sz 0 0 (QCI (sp_way S p q k) sz) := by
  intro m
  induction m with
  | zero =>
    intro i qq ii hm hii hqq hit
    refine V.iload (pc := 82) d_RR_way_82 rfl ?_
    refine V.iload_n (pc := 84) 3 d_RR_way_84 rfl rfl ?_
    refine V.icmp_ge (tgt := 118) (pc := 85) d_RR_way_85 (by decide) (fun c_85 => ?_) (fun c_85 => ?_)
    · skip
      refine V.aload_n (pc := 118) 0 d_RR_way_118 rfl rfl ?_
      refine V.iload (pc := 119) d_RR_way_119 rfl ?_
      refine V.cV1 (pc := 121) (kc2 := 0) (ks2 := 0) ml_RR_58 b0 (cc_RR_settled _ _ _ b0 _) d_RR_way_121 (Nat.le_of_ble_eq_true rfl) (Nat.le_of_ble_eq_true rfl) (Nat.le_of_ble_eq_true rfl) (Nat.le_of_ble_eq_true rfl) ?_
      rintro _ _ _ ⟨rfl, rfl, rfl⟩
      dsimp only [Option.toList, List.cons_append, List.nil_append]
      refine V.ret (pc := 124) (r := some (vI _)) d_RR_way_124 (Or.inl rfl) rfl ?_
      refine qc_of (S2 := sSt S 0) (Nat.le_refl _) ?_ (hI.st 0)
      unfold sp_way; rw [if_pos (by omega)]; simp only [hS]; rw [if_pos hof, if_pos (by omega), if_pos (by rw [hlen]; omega), hqq, show k.toNat = i by omega]
    · skip
      exfalso; omega
  | succ m ih =>
    intro i qq ii hm hii hqq hit
    refine V.iload (pc := 82) d_RR_way_82 rfl ?_
    refine V.iload_n (pc := 84) 3 d_RR_way_84 rfl rfl ?_
    refine V.icmp_ge (tgt := 118) (pc := 85) d_RR_way_85 (by decide) (fun c_85 => ?_) (fun c_85 => ?_)
    · skip
      exfalso; omega
    · skip
      have hql := wk_lt hfr hgr (show q.toNat < 2 * n by omega) i
      have hstep : (if i % 2 = 0 then fo qq.toNat else fu qq.toNat) = ((wk (pt s n) (pt sb n) q.toNat (i + 1) : Nat) : Int) := by
        rw [show qq.toNat = wk (pt s n) (pt sb n) q.toNat i by omega]
        by_cases e : i % 2 = 0
        · rw [if_pos e, wk_even e, hfo _ hql]; exact (hfr.nat hql).2.2.2.1
        · rw [if_neg e, wk_odd (show i % 2 = 1 by omega), hfu _ hql]; exact (hgr.nat hql).2.2.2.1
      refine V.aload (pc := 88) d_RR_way_88 rfl ?_
      refine V.iload (pc := 90) d_RR_way_90 rfl ?_
      refine V.iload (pc := 92) d_RR_way_92 rfl ?_
      refine V.cW2 (pc := 94) (kc2 := 0) (ks2 := 0) mo_La_goneOn hC lnk_go.1 lnk_go.2.1 lnk_go.2.2 (sel_go _ hk56) hob (cc_La_goneOn a o9 u9 c co cu hC hCo hCu n i _ _ _ _ _ qq ii (by omega) hii (by omega) fo fu _ hob ho hu hco hcu _) d_RR_way_94 (Nat.le_of_ble_eq_true rfl) (Nat.le_of_ble_eq_true rfl) (Nat.le_of_ble_eq_true rfl) (Nat.le_of_ble_eq_true rfl) ?_
      rintro _ _ _ ⟨rfl, rfl, rfl⟩
      dsimp only [Option.toList, List.cons_append, List.nil_append]
      rw [hstep]
      refine V.istore (pc := 97) d_RR_way_97 (Nat.le_of_ble_eq_true rfl) rfl ?_
      dsimp only [put]
      refine V.iload (pc := 99) d_RR_way_99 rfl ?_
      refine V.iload_n (pc := 101) 2 d_RR_way_101 rfl rfl ?_
      refine V.icmp_ne (tgt := 112) (pc := 102) d_RR_way_102 (by decide) (fun c_102 => ?_) (fun c_102 => ?_)
      · skip
        refine V.iinc (pc := 112) d_RR_way_112 rfl ⟨by omega, by omega⟩ (Nat.le_of_ble_eq_true rfl) rfl ?_
        dsimp only [put]
        refine V.goto (tgt := 82) (pc := 115) d_RR_way_115 (by decide) ?_
        refine ih (i + 1) _ _ (by omega) (by omega) rfl ?_
        by_cases e : i + 1 = t
        · rw [e, t4] at c_102; exfalso; omega
        · omega
      · skip
        refine V.aload_n (pc := 105) 0 d_RR_way_105 rfl rfl ?_
        refine V.ldc (pc := 106) (-1000000) ck_RR_117 rfl ⟨by decide, by decide⟩ d_RR_way_106 ?_
        refine V.cV1 (pc := 108) (kc2 := 0) (ks2 := 0) ml_RR_58 b0 (cc_RR_settled _ _ _ b0 _) d_RR_way_108 (Nat.le_of_ble_eq_true rfl) (Nat.le_of_ble_eq_true rfl) (Nat.le_of_ble_eq_true rfl) (Nat.le_of_ble_eq_true rfl) ?_
        rintro _ _ _ ⟨rfl, rfl, rfl⟩
        dsimp only [Option.toList, List.cons_append, List.nil_append]
        refine V.ret (pc := 111) (r := some (vI _)) d_RR_way_111 (Or.inl rfl) rfl ?_
        have hs9 : i + 1 = t := by
          by_cases e : i + 1 = t
          · exact e
          · exact absurd (show wk (pt s n) (pt sb n) q.toNat 0 = wk (pt s n) (pt sb n) q.toNat (i + 1) by show q.toNat = _; omega) (t5 0 (i + 1) (by omega) (by omega))
        refine qc_of (S2 := sSt S 0) (Nat.le_refl _) ?_ (hI.st 0)
        unfold sp_way; rw [if_pos (by omega)]; simp only [hS]; rw [if_pos hof, if_pos (by omega), if_neg (by rw [hlen]; omega)]
set_option maxRecDepth 20000 in
theorem cs_RR_way (S : SS) (h : MH) (hI : CI S h) (p q k : Int) (sz : Nat) (hsz : 37 ≤ sz) : Ct M_RR_way 2 0 0 [vR 0, vI p, vI q, vI k] h sz (QCI (sp_way S p q k) sz) := by
  refine Ct.of rfl (Nat.le_of_ble_eq_true rfl) ?_
  dsimp only [lsOf]
  obtain ⟨gs, gt, tr, en, fs, fp, hB, hcc⟩ := id hI
  obtain ⟨b0, b1, b2, b3, b4, b5, b6, b7⟩ := id hB
  refine V.iload_n (pc := 0) 1 d_RR_way_0 rfl rfl ?_
  refine V.cS1 (pc := 1) (kc2 := 0) (ks2 := 0) ml_RR_80 (cc_RR_isPlace _ _ _) d_RR_way_1 (Nat.le_of_ble_eq_true rfl) (Nat.le_of_ble_eq_true rfl) (Nat.le_of_ble_eq_true rfl) (Nat.le_of_ble_eq_true rfl) ?_
  rintro _ h9 s9 ⟨rfl, hq2, hq3⟩
  rw [hq2, hq3]
  clear hq2 hq3 h9 s9
  dsimp only [Option.toList, List.cons_append, List.nil_append]
  refine V.ifB_ne (tgt := 10) (pc := 4) d_RR_way_4 (by decide) (fun c_4 => ?_) (fun c_4 => ?_)
  · skip
    rcases cth_cases (hcc.2.2.2.2 p.toNat (by omega)) with ⟨hS, hgt⟩ | ⟨kd, n, s, sb, a, hS, hgt, hth⟩
    rotate_left
    have hwk := wf_kind hth.1
    by_cases hof : isOf kd 5
    · skip
      obtain ⟨hk56, ha37, o9, u9, c, ko, ku, l, hc37, hao, hau, hob, hca, hlf⟩ := hth.la hof
      have hC := cl_la hk56
      obtain ⟨hko, ho37, co, fo, hco37, hoo, hco, hfo⟩ := hao
      obtain ⟨hku, hu37, cu, fu, hcu37, huo, hcu, hfu⟩ := hau
      obtain ⟨hsg1, hsg2, har, hbr⟩ := wf_land hth.1 hof
      refine V.aload_n (pc := 10) 0 d_RR_way_10 rfl rfl ?_
      refine V.getf (pc := 11) 1 cl_RR fl_RR_17_RR d_RR_way_11 b0 (Nat.le_of_ble_eq_true rfl) rfl ?_
      refine V.iload_n (pc := 14) 1 d_RR_way_14 rfl rfl ?_
      refine V.aald1 (pc := 15) d_RR_way_15 b2 (by omega) (by omega) ?_
      rw [hgt]
      refine V.astore (pc := 16) d_RR_way_16 (Nat.le_of_ble_eq_true rfl) rfl ?_
      dsimp only [put]
      refine V.aload (pc := 18) d_RR_way_18 rfl ?_
      refine V.instY (pc := 20) "RiverRoad$Land" hC (ins_y (k := kd) (j := 5) (by omega) (by decide) hof) cl_RR_137 d_RR_way_20 hob ?_
      refine V.if_eq (tgt := 36) (pc := 23) d_RR_way_23 (by decide) (fun c_23 => ?_) (fun c_23 => ?_)
      · skip
        exact absurd c_23 (by decide)
      · skip
        refine V.aload (pc := 26) d_RR_way_26 rfl ?_
        refine V.castY (pc := 28) "RiverRoad$Land" hC (ins_y (k := kd) (j := 5) (by omega) (by decide) hof) cl_RR_137 d_RR_way_28 hob ?_
        refine V.astore (pc := 31) d_RR_way_31 (Nat.le_of_ble_eq_true rfl) rfl ?_
        dsimp only [put]
        refine V.goto (tgt := 42) (pc := 33) d_RR_way_33 (by decide) ?_
        refine V.aload (pc := 42) d_RR_way_42 rfl ?_
        refine V.getf (pc := 44) 0 hC fl_RR_190_La d_RR_way_44 hob (Nat.le_of_ble_eq_true rfl) rfl ?_
        refine V.iload_n (pc := 47) 2 d_RR_way_47 rfl rfl ?_
        refine V.cS2 (pc := 48) (kc2 := 0) (ks2 := 0) ml_RR_174 (cc_RR_isCrossing _ _ (by omega) _ _) d_RR_way_48 (Nat.le_of_ble_eq_true rfl) (Nat.le_of_ble_eq_true rfl) (Nat.le_of_ble_eq_true rfl) (Nat.le_of_ble_eq_true rfl) ?_
        rintro _ h9 s9 ⟨rfl, hq2, hq3⟩
        rw [hq2, hq3]
        clear hq2 hq3 h9 s9
        dsimp only [Option.toList, List.cons_append, List.nil_append]
        refine V.ifB_ne (tgt := 57) (pc := 51) d_RR_way_51 (by decide) (fun c_51 => ?_) (fun c_51 => ?_)
        · skip
          obtain ⟨t, t1, t2, t3, t4, t5⟩ := wk_back (PR_pt har) (PR_pt hbr) (show q.toNat < 2 * n by omega)
          have hlen := way_len har hbr (show q.toNat < 2 * n by omega) t1 t2 t3 t4 t5
          refine V.aload (pc := 57) d_RR_way_57 rfl ?_
          refine V.getf (pc := 59) 0 hC fl_RR_190_La d_RR_way_59 hob (Nat.le_of_ble_eq_true rfl) rfl ?_
          refine V.iload_n (pc := 62) 3 d_RR_way_62 rfl rfl ?_
          refine V.cS2 (pc := 63) (kc2 := 0) (ks2 := 0) ml_RR_174 (cc_RR_isCrossing _ _ (by omega) _ _) d_RR_way_63 (Nat.le_of_ble_eq_true rfl) (Nat.le_of_ble_eq_true rfl) (Nat.le_of_ble_eq_true rfl) (Nat.le_of_ble_eq_true rfl) ?_
          rintro _ h9 s9 ⟨rfl, hq2, hq3⟩
          rw [hq2, hq3]
          clear hq2 hq3 h9 s9
          dsimp only [Option.toList, List.cons_append, List.nil_append]
          refine V.ifB_ne (tgt := 76) (pc := 66) d_RR_way_66 (by decide) (fun c_66 => ?_) (fun c_66 => ?_)
          · skip
            refine V.iload_n (pc := 76) 2 d_RR_way_76 rfl rfl ?_
            refine V.istore (pc := 77) d_RR_way_77 (Nat.le_of_ble_eq_true rfl) rfl ?_
            dsimp only [put]
            refine V.iconst (pc := 79) d_RR_way_79 ⟨by decide, by decide⟩ ?_
            refine V.istore (pc := 80) d_RR_way_80 (Nat.le_of_ble_eq_true rfl) rfl ?_
            dsimp only [put]
            exact lq_RR_way S h hI _ b0 p q k (by omega) kd n s sb hS hof hk56 (by omega) (by omega) (by omega) a o9 u9 c co cu hC (cl_rci hko) (cl_rci hku) _ _ _ fo fu hob hoo huo hco hcu hfo hfu (PR_pt har) (PR_pt hbr) t t1 t2 t4 t5 hlen sz k.toNat 0 _ _ (by omega) rfl (by show q = ((q.toNat : Nat) : Int); omega) (by omega)
          · skip
            refine V.aload_n (pc := 69) 0 d_RR_way_69 rfl rfl ?_
            refine V.ldc (pc := 70) (-1000000) ck_RR_117 rfl ⟨by decide, by decide⟩ d_RR_way_70 ?_
            refine V.cV1 (pc := 72) (kc2 := 0) (ks2 := 0) ml_RR_58 b0 (cc_RR_settled _ _ _ b0 _) d_RR_way_72 (Nat.le_of_ble_eq_true rfl) (Nat.le_of_ble_eq_true rfl) (Nat.le_of_ble_eq_true rfl) (Nat.le_of_ble_eq_true rfl) ?_
            rintro _ h9 s9 ⟨rfl, hq2, hq3⟩
            rw [hq2, hq3]
            clear hq2 hq3 h9 s9
            dsimp only [Option.toList, List.cons_append, List.nil_append]
            refine V.ret (pc := 75) (r := some (vI _)) d_RR_way_75 (Or.inl rfl) rfl ?_
            refine qc_of (S2 := sSt S 0) (Nat.le_refl _) ?_ (hI.st 0)
            unfold sp_way; rw [if_pos (by omega)]; simp only [hS]; rw [if_pos hof, if_pos (by omega), if_neg (by rw [hlen]; omega)]
        · skip
          refine V.ldc (pc := 54) (-1000001) ck_RR_50 rfl ⟨by decide, by decide⟩ d_RR_way_54 ?_
          refine V.ret (pc := 56) (r := some (vI _)) d_RR_way_56 (Or.inl rfl) rfl ?_
          refine qc_of (S2 := S) (Nat.le_refl _) ?_ hI
          unfold sp_way; rw [if_pos (by omega)]; simp only [hS]; rw [if_pos hof, if_neg (by omega)]
    · skip
      obtain ⟨ha37, ci, N, T, ty, fs9, hC, hob⟩ := hth.ob
      refine V.aload_n (pc := 10) 0 d_RR_way_10 rfl rfl ?_
      refine V.getf (pc := 11) 1 cl_RR fl_RR_17_RR d_RR_way_11 b0 (Nat.le_of_ble_eq_true rfl) rfl ?_
      refine V.iload_n (pc := 14) 1 d_RR_way_14 rfl rfl ?_
      refine V.aald1 (pc := 15) d_RR_way_15 b2 (by omega) (by omega) ?_
      rw [hgt]
      refine V.astore (pc := 16) d_RR_way_16 (Nat.le_of_ble_eq_true rfl) rfl ?_
      dsimp only [put]
      refine V.aload (pc := 18) d_RR_way_18 rfl ?_
      refine V.instNo (pc := 20) "RiverRoad$Land" hC (ins_n (k := kd) (j := 5) (by omega) (by decide) hof) cl_RR_137 d_RR_way_20 hob ?_
      refine V.if_eq (tgt := 36) (pc := 23) d_RR_way_23 (by decide) (fun c_23 => ?_) (fun c_23 => ?_)
      · skip
        refine V.aload_n (pc := 36) 0 d_RR_way_36 rfl rfl ?_
        refine V.iload_n (pc := 37) 1 d_RR_way_37 rfl rfl ?_
        refine V.cV1 (pc := 38) (kc2 := 0) (ks2 := 0) ml_RR_93 b0 (cc_RR_notThatK _ _ (by omega) _ _ _ b0 b2 hgt _) d_RR_way_38 (Nat.le_of_ble_eq_true rfl) (Nat.le_of_ble_eq_true rfl) (Nat.le_of_ble_eq_true rfl) (Nat.le_of_ble_eq_true rfl) ?_
        rintro _ h9 s9 ⟨rfl, hq2, hq3⟩
        rw [hq2, hq3]
        clear hq2 hq3 h9 s9
        dsimp only [Option.toList, List.cons_append, List.nil_append]
        refine V.ret (pc := 41) (r := some (vI _)) d_RR_way_41 (Or.inl rfl) rfl ?_
        refine qc_of (S2 := sSt S 3) (Nat.le_refl _) ?_ (hI.st 3)
        unfold sp_way; rw [if_pos (by omega)]; simp only [hS]; rw [if_neg hof]
      · skip
        exact absurd rfl c_23
    · skip
      refine V.aload_n (pc := 10) 0 d_RR_way_10 rfl rfl ?_
      refine V.getf (pc := 11) 1 cl_RR fl_RR_17_RR d_RR_way_11 b0 (Nat.le_of_ble_eq_true rfl) rfl ?_
      refine V.iload_n (pc := 14) 1 d_RR_way_14 rfl rfl ?_
      refine V.aald1 (pc := 15) d_RR_way_15 b2 (by omega) (by omega) ?_
      rw [hgt]
      refine V.astore (pc := 16) d_RR_way_16 (Nat.le_of_ble_eq_true rfl) rfl ?_
      dsimp only [put]
      refine V.aload (pc := 18) d_RR_way_18 rfl ?_
      refine V.instN (pc := 20) d_RR_way_20 ?_
      refine V.if_eq (tgt := 36) (pc := 23) d_RR_way_23 (by decide) (fun c_23 => ?_) (fun c_23 => ?_)
      · skip
        refine V.aload_n (pc := 36) 0 d_RR_way_36 rfl rfl ?_
        refine V.iload_n (pc := 37) 1 d_RR_way_37 rfl rfl ?_
        refine V.cV1 (pc := 38) (kc2 := 0) (ks2 := 0) ml_RR_93 b0 (cc_RR_notThatN _ _ (by omega) _ _ b0 b2 hgt _) d_RR_way_38 (Nat.le_of_ble_eq_true rfl) (Nat.le_of_ble_eq_true rfl) (Nat.le_of_ble_eq_true rfl) (Nat.le_of_ble_eq_true rfl) ?_
        rintro _ h9 s9 ⟨rfl, hq2, hq3⟩
        rw [hq2, hq3]
        clear hq2 hq3 h9 s9
        dsimp only [Option.toList, List.cons_append, List.nil_append]
        refine V.ret (pc := 41) (r := some (vI _)) d_RR_way_41 (Or.inl rfl) rfl ?_
        refine qc_of (S2 := sSt S 1) (Nat.le_refl _) ?_ (hI.st 1)
        unfold sp_way; rw [if_pos (by omega)]; simp only [hS]
      · skip
        exact absurd rfl c_23
  · skip
    refine V.ldc (pc := 7) (-1000001) ck_RR_50 rfl ⟨by decide, by decide⟩ d_RR_way_7 ?_
    refine V.ret (pc := 9) (r := some (vI _)) d_RR_way_9 (Or.inl rfl) rfl ?_
    exact qc_of (Nat.le_refl _) (by unfold sp_way; rw [if_neg (by omega)]) hI
