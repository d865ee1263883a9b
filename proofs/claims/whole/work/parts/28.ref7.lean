/-! THE REFERENCE: public methods over one state, printed by wip/whole/gen/ref7.py -/
theorem fi1 : (-1000010 - 1 : Int) = -1000011 := by decide
theorem fi2 : (-1000010 - 2 : Int) = -1000012 := by decide
theorem fi3 : (-1000010 - 3 : Int) = -1000013 := by decide
theorem fi4 : (-1000010 - 4 : Int) = -1000014 := by decide
theorem fi5 : (-1000010 - 5 : Int) = -1000015 := by decide
theorem upf_same {f : Nat → Int} {k : Nat} {x : Int} (h : f k = x) : upf f k x = f := by
  funext j; unfold upf; split
  · rename_i e; rw [e]; exact h.symm
  · rfl
theorem upf_e {f : Nat → Int} {k : Nat} {x : Int} : upf f k x k = x := by unfold upf; rw [if_pos rfl]
theorem upf_n {f : Nat → Int} {k j : Nat} {x : Int} (h : j ≠ k) : upf f k x j = f j := by unfold upf; rw [if_neg h]
theorem RI.clr {S : SS} {σ : SM} (hI : RI S σ) {p : Nat} : RI (S.1, ups S.2.1 p none, S.2.2) (sset σ 4 (upf (σ 4) p 0)) := by
  refine ⟨hI.1, fun t ht => ?_, hI.2.2.1, hI.2.2.2⟩
  have g := hI.2.1 t ht
  by_cases e : t = p
  · have e9 : (ups S.2.1 p none) t = none := by rw [e]; exact ups_e
    simp only [e9]
    show upf (σ 4) p 0 t = 0
    rw [e]; exact upf_e
  · have e9 : (ups S.2.1 p none) t = S.2.1 t := ups_n e
    simp only [e9]
    have e8 : (sset σ 4 (upf (σ 4) p 0)) 4 t = σ 4 t := upf_n e
    cases e7 : S.2.1 t with
    | none => rw [e7] at g; show (sset σ 4 (upf (σ 4) p 0)) 4 t = 0; rw [e8]; exact g
    | some T =>
      rw [e7] at g
      obtain ⟨k, n, a, b⟩ := T
      exact ⟨g.1, by rw [e8]; exact g.2.1, g.2.2⟩
def shOK (v : Option SHT) (k : Nat) (la sz it : Nat → Int) : Prop := match v with
  | none => la k = 0
  | some (l, n, g) => 0 ≤ l ∧ l ≤ 2 ∧ n ≤ 100 ∧ la k = l + 1 ∧ sz k = n ∧ ∀ i, i < n → it (100 * k + i) = g i
theorem refN {σ : SM} {p k : Int} (hp : 0 ≤ p ∧ p ≤ 10) (h : σ 4 p.toNat = 0) (sz : Nat) : Ct M_Mo_refusal 1 0 0 [vR 8, vI p, vI k] (hM σ) sz (Det (some (vI (-1000011))) (hM (sset σ 10 (fun _ => 1))) sz) := by
  intro l E
  have e : refu (σ 4 p.toNat) k = 1 := by unfold refu; rw [if_pos h]
  have hc := ct_Mo_refusal p k hp σ sz l E
  have hq : QR σ (refu (σ 4 p.toNat) k) sz = Det (some (vI (-1000011))) (hM (sset σ 10 (fun _ => 1))) sz := by
    funext r h2 s; unfold QR Det; rw [e]; apply propext
    constructor
    · rintro (⟨h0, -⟩ | ⟨-, h1⟩)
      · exact absurd h0 (by decide)
      · exact h1
    · intro h1; exact Or.inr ⟨by decide, h1⟩
  rw [hq] at hc; exact hc
theorem refK {σ : SM} {p k : Int} (hp : 0 ≤ p ∧ p ≤ 10) (h : σ 4 p.toNat ≠ 0) (h2 : ¬ isOf (σ 4 p.toNat) k) (sz : Nat) : Ct M_Mo_refusal 1 0 0 [vR 8, vI p, vI k] (hM σ) sz (Det (some (vI (-1000013))) (hM (sset σ 10 (fun _ => 3))) sz) := by
  intro l E
  have e : refu (σ 4 p.toNat) k = 3 := by unfold refu; rw [if_neg h, if_neg h2]
  have hc := ct_Mo_refusal p k hp σ sz l E
  have hq : QR σ (refu (σ 4 p.toNat) k) sz = Det (some (vI (-1000013))) (hM (sset σ 10 (fun _ => 3))) sz := by
    funext r h2 s; unfold QR Det; rw [e]; apply propext
    constructor
    · rintro (⟨h0, -⟩ | ⟨-, h1⟩)
      · exact absurd h0 (by decide)
      · exact h1
    · intro h1; exact Or.inr ⟨by decide, h1⟩
  rw [hq] at hc; exact hc
theorem refY {σ : SM} {p k : Int} (hp : 0 ≤ p ∧ p ≤ 10) (h : σ 4 p.toNat ≠ 0) (h2 : isOf (σ 4 p.toNat) k) (sz : Nat) : Ct M_Mo_refusal 1 0 0 [vR 8, vI p, vI k] (hM σ) sz (Det (some (vI 0)) (hM σ) sz) := by
  intro l E
  have e : refu (σ 4 p.toNat) k = 0 := by unfold refu; rw [if_neg h, if_pos h2]
  have hc := ct_Mo_refusal p k hp σ sz l E
  have hq : QR σ (refu (σ 4 p.toNat) k) sz = Det (some (vI 0)) (hM σ) sz := by
    funext r h2 s; unfold QR Det; rw [e]; apply propext
    constructor
    · rintro (⟨-, h1⟩ | ⟨h0, -⟩)
      · exact h1
      · exact absurd rfl h0
    · intro h1; exact Or.inl ⟨rfl, h1⟩
  rw [hq] at hc; exact hc
theorem R_sh_upd {f : Nat → Option SHT} {la sz it la2 sz2 it2 : Nat → Int} (h : R_sh f la sz it) {k : Nat} {v : Option SHT} (hk : ∀ j, j < 8 → j ≠ k → la2 j = la j ∧ (∀ q, f j = some q → sz2 j = sz j ∧ ∀ i, i < 100 → it2 (100 * j + i) = it (100 * j + i))) (hv : shOK v k la2 sz2 it2) : R_sh (ups f k v) la2 sz2 it2 := by
  intro j hj
  by_cases e : j = k
  · have e9 : ups f k v j = v := by rw [e]; exact ups_e
    rw [e9, e]; exact hv
  · have e9 : ups f k v j = f j := ups_n e
    rw [e9]
    have g := h j hj
    have q := hk j hj e
    cases e7 : f j with
    | none => rw [e7] at g; show la2 j = 0; rw [q.1]; exact g
    | some w =>
      rw [e7] at g
      obtain ⟨l, n, gg⟩ := w
      have q2 := q.2 _ e7
      refine ⟨g.1, g.2.1, g.2.2.1, by rw [q.1]; exact g.2.2.2.1, by rw [q2.1]; exact g.2.2.2.2.1, fun i hi => ?_⟩
      have := g.2.2.1
      rw [q2.2 i (by omega)]; exact g.2.2.2.2.2 i hi
theorem RI.sh {S : SS} {σ τ : SM} (hI : RI S σ) {k : Nat} {v : Option SHT} (hR : R_sh (ups S.1 k v) (τ 0) (τ 1) (τ 2)) (h10 : τ 10 0 = 0) (hr : ∀ j, 4 ≤ j → j ≠ 10 → τ j = σ j) : RI (sSh S k v) τ := by
  obtain ⟨h1, h2, h3, h4, h5, h6, h7⟩ := hI
  refine ⟨hR, ?_, ⟨h10, ?_, h3.2.2.1, ?_⟩, ?_, ?_, ?_, ?_⟩
  · rw [hr 4 (by omega) (by omega), hr 5 (by omega) (by omega), hr 6 (by omega) (by omega), hr 7 (by omega) (by omega), hr 8 (by omega) (by omega), hr 9 (by omega) (by omega)]; exact h2
  · rw [hr 12 (by omega) (by omega)]; exact h3.2.1
  · rw [hr 11 (by omega) (by omega)]; exact h3.2.2.2
  · rw [hr 19 (by omega) (by omega), hr 20 (by omega) (by omega)]; exact h4
  · rw [hr 24 (by omega) (by omega), hr 25 (by omega) (by omega)]; exact h5
  · rw [hr 26 (by omega) (by omega)]; exact h6
  · rw [hr 27 (by omega) (by omega)]; exact h7
set_option maxRecDepth 20000 in
theorem cs_Mo_status (S : SS) (σ : SM) (hI : RI S σ)  (sz : Nat) : Ct M_Mo_status 0 0 0 (vR 8 :: []) (hM σ) sz (QS (sp_status S) sz) := by
  refine Ct.of rfl (Nat.le_of_ble_eq_true rfl) ?_
  dsimp only [lsOf]
  refine V.aload_n (pc := 0) 0 d_Mo_status_0 rfl rfl ?_
  refine V.getf (pc := 1) 10 cl_Mo fl_Mo_95_Mo d_Mo_status_1 (hM_o _) (Nat.le_of_ble_eq_true rfl) rfl ?_
  try simp (disch := omega) only [sset_n, sset_e]
  refine V.ret (pc := 4) (r := some (vI _)) d_Mo_status_4 (Or.inl rfl) rfl ?_
  exact qs_of (by unfold sp_status; rw [hI.2.2.1.1]) hI
set_option maxRecDepth 20000 in
theorem cs_Mo_trace (S : SS) (σ : SM) (hI : RI S σ) (i : Int) (sz : Nat) : Ct M_Mo_trace 1 0 0 (vR 8 :: [vI i]) (hM σ) sz (QS (sp_trace S i) sz) := by
  have htd := hI.2.2.1.2.1
  have htd2 := hI.2.2.1.2.2.1
  refine Ct.of rfl (Nat.le_of_ble_eq_true rfl) ?_
  dsimp only [lsOf]
  refine V.iload_n (pc := 0) 1 d_Mo_trace_0 rfl rfl ?_
  refine V.i2l (pc := 1) d_Mo_trace_1 ?_
  refine V.lconst0 (pc := 2) d_Mo_trace_2 ?_
  refine V.aload_n (pc := 3) 0 d_Mo_trace_3 rfl rfl ?_
  refine V.getf (pc := 4) 12 cl_Mo fl_Mo_190_Mo d_Mo_trace_4 (hM_o _) (Nat.le_of_ble_eq_true rfl) rfl ?_
  try simp (disch := omega) only [sset_n, sset_e]
  refine V.iconst (pc := 7) d_Mo_trace_7 ⟨by decide, by decide⟩ ?_
  refine V.isub (pc := 8) d_Mo_trace_8 ⟨by omega, by omega⟩ ?_
  refine V.i2l (pc := 9) d_Mo_trace_9 ?_
  refine V.cS3 (pc := 10) (kc2 := 0) (ks2 := 0) ml_Mo_102 (ct_Mo_in _ _ _ _ _) d_Mo_trace_10 (Nat.le_of_ble_eq_true rfl) (Nat.le_of_ble_eq_true rfl) (Nat.le_of_ble_eq_true rfl) (Nat.le_of_ble_eq_true rfl) ?_
  rintro _ _ _ ⟨rfl, rfl, rfl⟩
  dsimp only [Option.toList, List.cons_append, List.nil_append]
  refine V.ifB_eq (tgt := 25) (pc := 13) d_Mo_trace_13 (by decide) (fun c_13 => ?_) (fun c_13 => ?_)
  · skip
    refine V.ldc (pc := 25) (-1000000) ck_Mo_136 rfl ⟨by decide, by decide⟩ d_Mo_trace_25 ?_
    refine V.ret (pc := 27) (r := some (vI _)) d_Mo_trace_27 (Or.inl rfl) rfl ?_
    first
      | exact qs_of (by unfold sp_trace; rw [if_pos (by omega), hI.2.2.1.2.2.2 i.toNat (by omega)]) hI
      | exact qs_of (by unfold sp_trace; rw [if_neg (by omega)]) hI
  · skip
    refine V.aload_n (pc := 16) 0 d_Mo_trace_16 rfl rfl ?_
    refine V.getf (pc := 17) 11 cl_Mo fl_Mo_40_Mo d_Mo_trace_17 (hM_o _) (Nat.le_of_ble_eq_true rfl) rfl ?_
    refine V.iload_n (pc := 20) 1 d_Mo_trace_20 rfl rfl ?_
    refine V.iald (pc := 21) d_Mo_trace_21 (ar_trace _).1 (by omega) (by omega) ?_
    try simp (disch := omega) only [sset_n, sset_e]
    refine V.goto (tgt := 27) (pc := 22) d_Mo_trace_22 (by decide) ?_
    refine V.ret (pc := 27) (r := some (vI _)) d_Mo_trace_27 (Or.inl rfl) rfl ?_
    first
      | exact qs_of (by unfold sp_trace; rw [if_pos (by omega), hI.2.2.1.2.2.2 i.toNat (by omega)]) hI
      | exact qs_of (by unfold sp_trace; rw [if_neg (by omega)]) hI
set_option maxRecDepth 20000 in
theorem cs_Mo_clear (S : SS) (σ : SM) (hI : RI S σ) (p : Int) (sz : Nat) : Ct M_Mo_clear 2 0 0 (vR 8 :: [vI p]) (hM σ) sz (QS (sp_clear S p) sz) := by
  refine Ct.of rfl (Nat.le_of_ble_eq_true rfl) ?_
  dsimp only [lsOf]
  refine V.iload_n (pc := 0) 1 d_Mo_clear_0 rfl rfl ?_
  refine V.cS1 (pc := 1) (kc2 := 0) (ks2 := 0) ml_Mo_152 (ct_Mo_isPlace _ _ _) d_Mo_clear_1 (Nat.le_of_ble_eq_true rfl) (Nat.le_of_ble_eq_true rfl) (Nat.le_of_ble_eq_true rfl) (Nat.le_of_ble_eq_true rfl) ?_
  rintro _ _ _ ⟨rfl, rfl, rfl⟩
  dsimp only [Option.toList, List.cons_append, List.nil_append]
  refine V.ifB_ne (tgt := 10) (pc := 4) d_Mo_clear_4 (by decide) (fun c_4 => ?_) (fun c_4 => ?_)
  · skip
    rcases th_cases hI.2.1 (show p.toNat < 10 by omega) with ⟨hS, hk⟩ | ⟨kd, n, a, b, hS, hone⟩
    · skip
      refine V.aload_n (pc := 10) 0 d_Mo_clear_10 rfl rfl ?_
      refine V.getf (pc := 11) 4 cl_Mo fl_Mo_22_Mo d_Mo_clear_11 (hM_o _) (Nat.le_of_ble_eq_true rfl) rfl ?_
      refine V.iload_n (pc := 14) 1 d_Mo_clear_14 rfl rfl ?_
      refine V.iald (pc := 15) d_Mo_clear_15 (ar_kinds _).1 (by omega) (by omega) ?_
      try simp (disch := omega) only [sset_n, sset_e]
      refine V.if_le (tgt := 23) (pc := 16) d_Mo_clear_16 (by decide) (fun c_16 => ?_) (fun c_16 => ?_)
      · skip
        refine V.iconst (pc := 23) d_Mo_clear_23 ⟨by decide, by decide⟩ ?_
        refine V.istore_n (pc := 24) 2 d_Mo_clear_24 rfl (Nat.le_of_ble_eq_true rfl) rfl ?_
        dsimp only [put]
        refine V.aload_n (pc := 25) 0 d_Mo_clear_25 rfl rfl ?_
        refine V.getf (pc := 26) 4 cl_Mo fl_Mo_22_Mo d_Mo_clear_26 (hM_o _) (Nat.le_of_ble_eq_true rfl) rfl ?_
        refine V.iload_n (pc := 29) 1 d_Mo_clear_29 rfl rfl ?_
        refine V.iconst (pc := 30) d_Mo_clear_30 ⟨by decide, by decide⟩ ?_
        refine V.iast (pc := 31) d_Mo_clear_31 (ar_kinds _).1 (by omega) (by omega) ?_
        rw [(ar_kinds _).2]
        refine V.iload_n (pc := 32) 2 d_Mo_clear_32 rfl rfl ?_
        refine V.ret (pc := 33) (r := some (vI _)) d_Mo_clear_33 (Or.inl rfl) rfl ?_
        first
          | (refine qs_of (S2 := S) (by unfold sp_clear; rw [if_pos (by omega)]; simp only [hS]; repeat (first | rw [if_pos (by omega)] | rw [if_neg (by omega)]); try rfl) ?_
             rw [upf_same hk, sset_id]; exact hI)
          | exact qs_of (by unfold sp_clear; rw [if_pos (by omega)]; simp only [hS]; repeat (first | rw [if_pos (by omega)] | rw [if_neg (by omega)]); try rfl) hI.clr
      · skip
        exfalso; omega
    · skip
      obtain ⟨hw, hk, hn, h3, h4, h5, h6⟩ := id hone
      have hwk := wf_kind hw
      refine V.aload_n (pc := 10) 0 d_Mo_clear_10 rfl rfl ?_
      refine V.getf (pc := 11) 4 cl_Mo fl_Mo_22_Mo d_Mo_clear_11 (hM_o _) (Nat.le_of_ble_eq_true rfl) rfl ?_
      refine V.iload_n (pc := 14) 1 d_Mo_clear_14 rfl rfl ?_
      refine V.iald (pc := 15) d_Mo_clear_15 (ar_kinds _).1 (by omega) (by omega) ?_
      try simp (disch := omega) only [sset_n, sset_e]
      refine V.if_le (tgt := 23) (pc := 16) d_Mo_clear_16 (by decide) (fun c_16 => ?_) (fun c_16 => ?_)
      · skip
        exfalso; omega
      · skip
        refine V.iconst (pc := 19) d_Mo_clear_19 ⟨by decide, by decide⟩ ?_
        refine V.goto (tgt := 24) (pc := 20) d_Mo_clear_20 (by decide) ?_
        refine V.istore_n (pc := 24) 2 d_Mo_clear_24 rfl (Nat.le_of_ble_eq_true rfl) rfl ?_
        dsimp only [put]
        refine V.aload_n (pc := 25) 0 d_Mo_clear_25 rfl rfl ?_
        refine V.getf (pc := 26) 4 cl_Mo fl_Mo_22_Mo d_Mo_clear_26 (hM_o _) (Nat.le_of_ble_eq_true rfl) rfl ?_
        refine V.iload_n (pc := 29) 1 d_Mo_clear_29 rfl rfl ?_
        refine V.iconst (pc := 30) d_Mo_clear_30 ⟨by decide, by decide⟩ ?_
        refine V.iast (pc := 31) d_Mo_clear_31 (ar_kinds _).1 (by omega) (by omega) ?_
        rw [(ar_kinds _).2]
        refine V.iload_n (pc := 32) 2 d_Mo_clear_32 rfl rfl ?_
        refine V.ret (pc := 33) (r := some (vI _)) d_Mo_clear_33 (Or.inl rfl) rfl ?_
        first
          | (refine qs_of (S2 := S) (by unfold sp_clear; rw [if_pos (by omega)]; simp only [hS]; repeat (first | rw [if_pos (by omega)] | rw [if_neg (by omega)]); try rfl) ?_
             rw [upf_same hk, sset_id]; exact hI)
          | exact qs_of (by unfold sp_clear; rw [if_pos (by omega)]; simp only [hS]; repeat (first | rw [if_pos (by omega)] | rw [if_neg (by omega)]); try rfl) hI.clr
  · skip
    refine V.ldc (pc := 7) (-1000001) ck_Mo_112 rfl ⟨by decide, by decide⟩ d_Mo_clear_7 ?_
    refine V.ret (pc := 9) (r := some (vI _)) d_Mo_clear_9 (Or.inl rfl) rfl ?_
    exact qs_of (by unfold sp_clear; rw [if_neg (by omega)]) hI
set_option maxRecDepth 20000 in
theorem cs_Mo_kind (S : SS) (σ : SM) (hI : RI S σ) (p : Int) (sz : Nat) : Ct M_Mo_kind 2 0 0 (vR 8 :: [vI p]) (hM σ) sz (QS (sp_kind S p) sz) := by
  refine Ct.of rfl (Nat.le_of_ble_eq_true rfl) ?_
  dsimp only [lsOf]
  refine V.iload_n (pc := 0) 1 d_Mo_kind_0 rfl rfl ?_
  refine V.cS1 (pc := 1) (kc2 := 0) (ks2 := 0) ml_Mo_152 (ct_Mo_isPlace _ _ _) d_Mo_kind_1 (Nat.le_of_ble_eq_true rfl) (Nat.le_of_ble_eq_true rfl) (Nat.le_of_ble_eq_true rfl) (Nat.le_of_ble_eq_true rfl) ?_
  rintro _ _ _ ⟨rfl, rfl, rfl⟩
  dsimp only [Option.toList, List.cons_append, List.nil_append]
  refine V.ifB_ne (tgt := 10) (pc := 4) d_Mo_kind_4 (by decide) (fun c_4 => ?_) (fun c_4 => ?_)
  · skip
    rcases th_cases hI.2.1 (show p.toNat < 10 by omega) with ⟨hS, hk⟩ | ⟨kd, n, a, b, hS, hone⟩
    · skip
      refine V.aload_n (pc := 10) 0 d_Mo_kind_10 rfl rfl ?_
      refine V.getf (pc := 11) 4 cl_Mo fl_Mo_22_Mo d_Mo_kind_11 (hM_o _) (Nat.le_of_ble_eq_true rfl) rfl ?_
      refine V.iload_n (pc := 14) 1 d_Mo_kind_14 rfl rfl ?_
      refine V.iald (pc := 15) d_Mo_kind_15 (ar_kinds _).1 (by omega) (by omega) ?_
      try simp (disch := omega) only [sset_n, sset_e]
      refine V.if_ne (tgt := 27) (pc := 16) d_Mo_kind_16 (by decide) (fun c_16 => ?_) (fun c_16 => ?_)
      · skip
        exfalso; omega
      · skip
        refine V.aload_n (pc := 19) 0 d_Mo_kind_19 rfl rfl ?_
        refine V.iconst (pc := 20) d_Mo_kind_20 ⟨by decide, by decide⟩ ?_
        refine V.cV1 (pc := 21) (kc2 := 0) (ks2 := 0) ml_Mo_113 (hM_o _) (ct_Mo_finds _ (by omega) _ _) d_Mo_kind_21 (Nat.le_of_ble_eq_true rfl) (Nat.le_of_ble_eq_true rfl) (Nat.le_of_ble_eq_true rfl) (Nat.le_of_ble_eq_true rfl) ?_
        rintro _ _ _ ⟨rfl, rfl, rfl⟩
        dsimp only [Option.toList, List.cons_append, List.nil_append]
        first | rw [fi1] | rw [fi2] | rw [fi3] | rw [fi4] | rw [fi5]
        refine V.goto (tgt := 37) (pc := 24) d_Mo_kind_24 (by decide) ?_
        refine V.ret (pc := 37) (r := some (vI _)) d_Mo_kind_37 (Or.inl rfl) rfl ?_
        first
          | exact qs_of (by unfold sp_kind; rw [if_pos (by omega)]; simp only [hS]; repeat (first | rw [if_pos (by omega)] | rw [if_neg (by omega)]); try rfl) (hI.st 1)
          | (rw [hk]; exact qs_of (by unfold sp_kind; rw [if_pos (by omega)]; simp only [hS]; repeat (first | rw [if_pos (by omega)] | rw [if_neg (by omega)]); try rfl) (hI.st 0))
    · skip
      obtain ⟨hw, hk, hn, h3, h4, h5, h6⟩ := id hone
      have hwk := wf_kind hw
      refine V.aload_n (pc := 10) 0 d_Mo_kind_10 rfl rfl ?_
      refine V.getf (pc := 11) 4 cl_Mo fl_Mo_22_Mo d_Mo_kind_11 (hM_o _) (Nat.le_of_ble_eq_true rfl) rfl ?_
      refine V.iload_n (pc := 14) 1 d_Mo_kind_14 rfl rfl ?_
      refine V.iald (pc := 15) d_Mo_kind_15 (ar_kinds _).1 (by omega) (by omega) ?_
      try simp (disch := omega) only [sset_n, sset_e]
      refine V.if_ne (tgt := 27) (pc := 16) d_Mo_kind_16 (by decide) (fun c_16 => ?_) (fun c_16 => ?_)
      · skip
        refine V.aload_n (pc := 27) 0 d_Mo_kind_27 rfl rfl ?_
        refine V.aload_n (pc := 28) 0 d_Mo_kind_28 rfl rfl ?_
        refine V.getf (pc := 29) 4 cl_Mo fl_Mo_22_Mo d_Mo_kind_29 (hM_o _) (Nat.le_of_ble_eq_true rfl) rfl ?_
        refine V.iload_n (pc := 32) 1 d_Mo_kind_32 rfl rfl ?_
        refine V.iald (pc := 33) d_Mo_kind_33 (ar_kinds _).1 (by omega) (by omega) ?_
        try simp (disch := omega) only [sset_n, sset_e]
        refine V.cV1 (pc := 34) (kc2 := 0) (ks2 := 0) ml_Mo_117 (hM_o _) (ct_Mo_well _ _ _) d_Mo_kind_34 (Nat.le_of_ble_eq_true rfl) (Nat.le_of_ble_eq_true rfl) (Nat.le_of_ble_eq_true rfl) (Nat.le_of_ble_eq_true rfl) ?_
        rintro _ _ _ ⟨rfl, rfl, rfl⟩
        dsimp only [Option.toList, List.cons_append, List.nil_append]
        refine V.ret (pc := 37) (r := some (vI _)) d_Mo_kind_37 (Or.inl rfl) rfl ?_
        first
          | exact qs_of (by unfold sp_kind; rw [if_pos (by omega)]; simp only [hS]; repeat (first | rw [if_pos (by omega)] | rw [if_neg (by omega)]); try rfl) (hI.st 1)
          | (rw [hk]; exact qs_of (by unfold sp_kind; rw [if_pos (by omega)]; simp only [hS]; repeat (first | rw [if_pos (by omega)] | rw [if_neg (by omega)]); try rfl) (hI.st 0))
      · skip
        exfalso; omega
  · skip
    refine V.ldc (pc := 7) (-1000001) ck_Mo_112 rfl ⟨by decide, by decide⟩ d_Mo_kind_7 ?_
    refine V.ret (pc := 9) (r := some (vI _)) d_Mo_kind_9 (Or.inl rfl) rfl ?_
    exact qs_of (by unfold sp_kind; rw [if_neg (by omega)]) hI
set_option maxRecDepth 20000 in
theorem cs_Mo_is (S : SS) (σ : SM) (hI : RI S σ) (p k : Int) (sz : Nat) : Ct M_Mo_is 2 0 0 (vR 8 :: [vI p, vI k]) (hM σ) sz (QS (sp_is S p k) sz) := by
  refine Ct.of rfl (Nat.le_of_ble_eq_true rfl) ?_
  dsimp only [lsOf]
  refine V.iload_n (pc := 0) 1 d_Mo_is_0 rfl rfl ?_
  refine V.cS1 (pc := 1) (kc2 := 0) (ks2 := 0) ml_Mo_152 (ct_Mo_isPlace _ _ _) d_Mo_is_1 (Nat.le_of_ble_eq_true rfl) (Nat.le_of_ble_eq_true rfl) (Nat.le_of_ble_eq_true rfl) (Nat.le_of_ble_eq_true rfl) ?_
  rintro _ _ _ ⟨rfl, rfl, rfl⟩
  dsimp only [Option.toList, List.cons_append, List.nil_append]
  refine V.ifB_eq (tgt := 19) (pc := 4) d_Mo_is_4 (by decide) (fun c_4 => ?_) (fun c_4 => ?_)
  · skip
    refine V.ldc (pc := 19) (-1000001) ck_Mo_112 rfl ⟨by decide, by decide⟩ d_Mo_is_19 ?_
    refine V.ret (pc := 21) (r := some (vI _)) d_Mo_is_21 (Or.inl rfl) rfl ?_
    exact qs_of (by unfold sp_is; rw [if_neg (by omega)]) hI
  · skip
    refine V.iload_n (pc := 7) 2 d_Mo_is_7 rfl rfl ?_
    refine V.i2l (pc := 8) d_Mo_is_8 ?_
    refine V.lconst0 (pc := 9) d_Mo_is_9 ?_
    refine V.ldc2 (pc := 10) (8) ck_Mo_188 rfl ⟨by decide, by decide⟩ d_Mo_is_10 ?_
    refine V.cS3 (pc := 13) (kc2 := 0) (ks2 := 0) ml_Mo_102 (ct_Mo_in _ _ _ _ _) d_Mo_is_13 (Nat.le_of_ble_eq_true rfl) (Nat.le_of_ble_eq_true rfl) (Nat.le_of_ble_eq_true rfl) (Nat.le_of_ble_eq_true rfl) ?_
    rintro _ _ _ ⟨rfl, rfl, rfl⟩
    dsimp only [Option.toList, List.cons_append, List.nil_append]
    refine V.ifB_ne (tgt := 22) (pc := 16) d_Mo_is_16 (by decide) (fun c_16 => ?_) (fun c_16 => ?_)
    · skip
      rcases th_cases hI.2.1 (show p.toNat < 10 by omega) with ⟨hS, hk⟩ | ⟨kd, n, a, b, hS, hone⟩
      · skip
        refine V.aload_n (pc := 22) 0 d_Mo_is_22 rfl rfl ?_
        refine V.getf (pc := 23) 4 cl_Mo fl_Mo_22_Mo d_Mo_is_23 (hM_o _) (Nat.le_of_ble_eq_true rfl) rfl ?_
        refine V.iload_n (pc := 26) 1 d_Mo_is_26 rfl rfl ?_
        refine V.iald (pc := 27) d_Mo_is_27 (ar_kinds _).1 (by omega) (by omega) ?_
        try simp (disch := omega) only [sset_n, sset_e]
        refine V.if_le (tgt := 48) (pc := 28) d_Mo_is_28 (by decide) (fun c_28 => ?_) (fun c_28 => ?_)
        · skip
          refine V.iconst (pc := 48) d_Mo_is_48 ⟨by decide, by decide⟩ ?_
          refine V.ret (pc := 49) (r := some (vI _)) d_Mo_is_49 (Or.inl rfl) rfl ?_
          exact qs_of (by unfold sp_is; rw [if_pos (by omega)]; simp only [hS]; repeat (first | rw [if_pos (by omega)] | rw [if_neg (by omega)]); try rfl) hI
        · skip
          exfalso; omega
      · skip
        obtain ⟨hw, hk, hn, h3, h4, h5, h6⟩ := id hone
        have hwk := wf_kind hw
        refine V.aload_n (pc := 22) 0 d_Mo_is_22 rfl rfl ?_
        refine V.getf (pc := 23) 4 cl_Mo fl_Mo_22_Mo d_Mo_is_23 (hM_o _) (Nat.le_of_ble_eq_true rfl) rfl ?_
        refine V.iload_n (pc := 26) 1 d_Mo_is_26 rfl rfl ?_
        refine V.iald (pc := 27) d_Mo_is_27 (ar_kinds _).1 (by omega) (by omega) ?_
        try simp (disch := omega) only [sset_n, sset_e]
        refine V.if_le (tgt := 48) (pc := 28) d_Mo_is_28 (by decide) (fun c_28 => ?_) (fun c_28 => ?_)
        · skip
          exfalso; omega
        · skip
          refine V.aload_n (pc := 31) 0 d_Mo_is_31 rfl rfl ?_
          refine V.getf (pc := 32) 4 cl_Mo fl_Mo_22_Mo d_Mo_is_32 (hM_o _) (Nat.le_of_ble_eq_true rfl) rfl ?_
          refine V.iload_n (pc := 35) 1 d_Mo_is_35 rfl rfl ?_
          refine V.iald (pc := 36) d_Mo_is_36 (ar_kinds _).1 (by omega) (by omega) ?_
          try simp (disch := omega) only [sset_n, sset_e]
          refine V.iload_n (pc := 37) 2 d_Mo_is_37 rfl rfl ?_
          try rw [hk]
          refine V.cS2 (pc := 38) (kc2 := 0) (ks2 := 0) ml_Mo_161 (ct_Mo_isOf _ _ _ _) d_Mo_is_38 (Nat.le_of_ble_eq_true rfl) (Nat.le_of_ble_eq_true rfl) (Nat.le_of_ble_eq_true rfl) (Nat.le_of_ble_eq_true rfl) ?_
          rintro _ _ _ ⟨rfl, rfl, rfl⟩
          dsimp only [Option.toList, List.cons_append, List.nil_append]
          refine V.ifB_eq (tgt := 48) (pc := 41) d_Mo_is_41 (by decide) (fun c_41 => ?_) (fun c_41 => ?_)
          · skip
            refine V.iconst (pc := 48) d_Mo_is_48 ⟨by decide, by decide⟩ ?_
            refine V.ret (pc := 49) (r := some (vI _)) d_Mo_is_49 (Or.inl rfl) rfl ?_
            exact qs_of (by unfold sp_is; rw [if_pos (by omega)]; simp only [hS]; repeat (first | rw [if_pos (by omega)] | rw [if_neg (by omega)]); try rfl) hI
          · skip
            refine V.iconst (pc := 44) d_Mo_is_44 ⟨by decide, by decide⟩ ?_
            refine V.goto (tgt := 49) (pc := 45) d_Mo_is_45 (by decide) ?_
            refine V.ret (pc := 49) (r := some (vI _)) d_Mo_is_49 (Or.inl rfl) rfl ?_
            exact qs_of (by unfold sp_is; rw [if_pos (by omega)]; simp only [hS]; repeat (first | rw [if_pos (by omega)] | rw [if_neg (by omega)]); try rfl) hI
    · skip
      refine V.ldc (pc := 19) (-1000001) ck_Mo_112 rfl ⟨by decide, by decide⟩ d_Mo_is_19 ?_
      refine V.ret (pc := 21) (r := some (vI _)) d_Mo_is_21 (Or.inl rfl) rfl ?_
      exact qs_of (by unfold sp_is; rw [if_neg (by omega)]) hI
set_option maxRecDepth 20000 in
theorem cs_Mo_as (S : SS) (σ : SM) (hI : RI S σ) (p k : Int) (sz : Nat) : Ct M_Mo_as 2 0 0 (vR 8 :: [vI p, vI k]) (hM σ) sz (QS (sp_as S p k) sz) := by
  refine Ct.of rfl (Nat.le_of_ble_eq_true rfl) ?_
  dsimp only [lsOf]
  refine V.iload_n (pc := 0) 1 d_Mo_as_0 rfl rfl ?_
  refine V.cS1 (pc := 1) (kc2 := 0) (ks2 := 0) ml_Mo_152 (ct_Mo_isPlace _ _ _) d_Mo_as_1 (Nat.le_of_ble_eq_true rfl) (Nat.le_of_ble_eq_true rfl) (Nat.le_of_ble_eq_true rfl) (Nat.le_of_ble_eq_true rfl) ?_
  rintro _ _ _ ⟨rfl, rfl, rfl⟩
  dsimp only [Option.toList, List.cons_append, List.nil_append]
  refine V.ifB_eq (tgt := 19) (pc := 4) d_Mo_as_4 (by decide) (fun c_4 => ?_) (fun c_4 => ?_)
  · skip
    refine V.ldc (pc := 19) (-1000001) ck_Mo_112 rfl ⟨by decide, by decide⟩ d_Mo_as_19 ?_
    refine V.ret (pc := 21) (r := some (vI _)) d_Mo_as_21 (Or.inl rfl) rfl ?_
    exact qs_of (by unfold sp_as; rw [if_neg (by omega)]) hI
  · skip
    refine V.iload_n (pc := 7) 2 d_Mo_as_7 rfl rfl ?_
    refine V.i2l (pc := 8) d_Mo_as_8 ?_
    refine V.lconst0 (pc := 9) d_Mo_as_9 ?_
    refine V.ldc2 (pc := 10) (8) ck_Mo_188 rfl ⟨by decide, by decide⟩ d_Mo_as_10 ?_
    refine V.cS3 (pc := 13) (kc2 := 0) (ks2 := 0) ml_Mo_102 (ct_Mo_in _ _ _ _ _) d_Mo_as_13 (Nat.le_of_ble_eq_true rfl) (Nat.le_of_ble_eq_true rfl) (Nat.le_of_ble_eq_true rfl) (Nat.le_of_ble_eq_true rfl) ?_
    rintro _ _ _ ⟨rfl, rfl, rfl⟩
    dsimp only [Option.toList, List.cons_append, List.nil_append]
    refine V.ifB_ne (tgt := 22) (pc := 16) d_Mo_as_16 (by decide) (fun c_16 => ?_) (fun c_16 => ?_)
    · skip
      rcases th_cases hI.2.1 (show p.toNat < 10 by omega) with ⟨hS, hk⟩ | ⟨kd, n, a, b, hS, hone⟩
      rotate_left
      by_cases hof : isOf kd k
      · skip
        obtain ⟨hw, hk, hn, h3, h4, h5, h6⟩ := id hone
        have hwk := wf_kind hw
        refine V.aload_n (pc := 22) 0 d_Mo_as_22 rfl rfl ?_
        refine V.iload_n (pc := 23) 1 d_Mo_as_23 rfl rfl ?_
        refine V.iload_n (pc := 24) 2 d_Mo_as_24 rfl rfl ?_
        refine V.cV2 (pc := 25) (kc2 := 0) (ks2 := 0) ml_Mo_165 (hM_o _) (refY (by omega) (by omega) (by rw [hk]; exact hof) _) d_Mo_as_25 (Nat.le_of_ble_eq_true rfl) (Nat.le_of_ble_eq_true rfl) (Nat.le_of_ble_eq_true rfl) (Nat.le_of_ble_eq_true rfl) ?_
        rintro _ _ _ ⟨rfl, rfl, rfl⟩
        dsimp only [Option.toList, List.cons_append, List.nil_append]
        refine V.istore_n (pc := 28) 3 d_Mo_as_28 rfl (Nat.le_of_ble_eq_true rfl) rfl ?_
        dsimp only [put]
        refine V.iload_n (pc := 29) 3 d_Mo_as_29 rfl rfl ?_
        refine V.if_eq (tgt := 37) (pc := 30) d_Mo_as_30 (by decide) (fun c_30 => ?_) (fun c_30 => ?_)
        · skip
          refine V.aload_n (pc := 37) 0 d_Mo_as_37 rfl rfl ?_
          refine V.aload_n (pc := 38) 0 d_Mo_as_38 rfl rfl ?_
          refine V.getf (pc := 39) 5 cl_Mo fl_Mo_25_Mo d_Mo_as_39 (hM_o _) (Nat.le_of_ble_eq_true rfl) rfl ?_
          refine V.iload_n (pc := 42) 1 d_Mo_as_42 rfl rfl ?_
          refine V.iald (pc := 43) d_Mo_as_43 (ar_many _).1 (by omega) (by omega) ?_
          try simp (disch := omega) only [sset_n, sset_e]
          refine V.cV1 (pc := 44) (kc2 := 0) (ks2 := 0) ml_Mo_117 (hM_o _) (ct_Mo_well _ _ _) d_Mo_as_44 (Nat.le_of_ble_eq_true rfl) (Nat.le_of_ble_eq_true rfl) (Nat.le_of_ble_eq_true rfl) (Nat.le_of_ble_eq_true rfl) ?_
          rintro _ _ _ ⟨rfl, rfl, rfl⟩
          dsimp only [Option.toList, List.cons_append, List.nil_append]
          refine V.ret (pc := 47) (r := some (vI _)) d_Mo_as_47 (Or.inl rfl) rfl ?_
          first
            | exact qs_of (by unfold sp_as; rw [if_pos (by omega)]; simp only [hS]; try rfl) (hI.st 1)
            | exact qs_of (by unfold sp_as; rw [if_pos (by omega)]; simp only [hS]; rw [if_neg hof]; try rfl) (hI.st 3)
            | (rw [hn]; exact qs_of (by unfold sp_as; rw [if_pos (by omega)]; simp only [hS]; rw [if_pos hof]; try rfl) (hI.st 0))
        · skip
          exact absurd rfl c_30
      · skip
        obtain ⟨hw, hk, hn, h3, h4, h5, h6⟩ := id hone
        have hwk := wf_kind hw
        refine V.aload_n (pc := 22) 0 d_Mo_as_22 rfl rfl ?_
        refine V.iload_n (pc := 23) 1 d_Mo_as_23 rfl rfl ?_
        refine V.iload_n (pc := 24) 2 d_Mo_as_24 rfl rfl ?_
        refine V.cV2 (pc := 25) (kc2 := 0) (ks2 := 0) ml_Mo_165 (hM_o _) (refK (by omega) (by omega) (by rw [hk]; exact hof) _) d_Mo_as_25 (Nat.le_of_ble_eq_true rfl) (Nat.le_of_ble_eq_true rfl) (Nat.le_of_ble_eq_true rfl) (Nat.le_of_ble_eq_true rfl) ?_
        rintro _ _ _ ⟨rfl, rfl, rfl⟩
        dsimp only [Option.toList, List.cons_append, List.nil_append]
        refine V.istore_n (pc := 28) 3 d_Mo_as_28 rfl (Nat.le_of_ble_eq_true rfl) rfl ?_
        dsimp only [put]
        refine V.iload_n (pc := 29) 3 d_Mo_as_29 rfl rfl ?_
        refine V.if_eq (tgt := 37) (pc := 30) d_Mo_as_30 (by decide) (fun c_30 => ?_) (fun c_30 => ?_)
        · skip
          exact absurd c_30 (by decide)
        · skip
          refine V.iload_n (pc := 33) 3 d_Mo_as_33 rfl rfl ?_
          refine V.goto (tgt := 47) (pc := 34) d_Mo_as_34 (by decide) ?_
          refine V.ret (pc := 47) (r := some (vI _)) d_Mo_as_47 (Or.inl rfl) rfl ?_
          first
            | exact qs_of (by unfold sp_as; rw [if_pos (by omega)]; simp only [hS]; try rfl) (hI.st 1)
            | exact qs_of (by unfold sp_as; rw [if_pos (by omega)]; simp only [hS]; rw [if_neg hof]; try rfl) (hI.st 3)
            | (rw [hn]; exact qs_of (by unfold sp_as; rw [if_pos (by omega)]; simp only [hS]; rw [if_pos hof]; try rfl) (hI.st 0))
      · skip
        refine V.aload_n (pc := 22) 0 d_Mo_as_22 rfl rfl ?_
        refine V.iload_n (pc := 23) 1 d_Mo_as_23 rfl rfl ?_
        refine V.iload_n (pc := 24) 2 d_Mo_as_24 rfl rfl ?_
        refine V.cV2 (pc := 25) (kc2 := 0) (ks2 := 0) ml_Mo_165 (hM_o _) (refN (by omega) hk _) d_Mo_as_25 (Nat.le_of_ble_eq_true rfl) (Nat.le_of_ble_eq_true rfl) (Nat.le_of_ble_eq_true rfl) (Nat.le_of_ble_eq_true rfl) ?_
        rintro _ _ _ ⟨rfl, rfl, rfl⟩
        dsimp only [Option.toList, List.cons_append, List.nil_append]
        refine V.istore_n (pc := 28) 3 d_Mo_as_28 rfl (Nat.le_of_ble_eq_true rfl) rfl ?_
        dsimp only [put]
        refine V.iload_n (pc := 29) 3 d_Mo_as_29 rfl rfl ?_
        refine V.if_eq (tgt := 37) (pc := 30) d_Mo_as_30 (by decide) (fun c_30 => ?_) (fun c_30 => ?_)
        · skip
          exact absurd c_30 (by decide)
        · skip
          refine V.iload_n (pc := 33) 3 d_Mo_as_33 rfl rfl ?_
          refine V.goto (tgt := 47) (pc := 34) d_Mo_as_34 (by decide) ?_
          refine V.ret (pc := 47) (r := some (vI _)) d_Mo_as_47 (Or.inl rfl) rfl ?_
          first
            | exact qs_of (by unfold sp_as; rw [if_pos (by omega)]; simp only [hS]; try rfl) (hI.st 1)
            | exact qs_of (by unfold sp_as; rw [if_pos (by omega)]; simp only [hS]; rw [if_neg hof]; try rfl) (hI.st 3)
            | (rw [hn]; exact qs_of (by unfold sp_as; rw [if_pos (by omega)]; simp only [hS]; rw [if_pos hof]; try rfl) (hI.st 0))
    · skip
      refine V.ldc (pc := 19) (-1000001) ck_Mo_112 rfl ⟨by decide, by decide⟩ d_Mo_as_19 ?_
      refine V.ret (pc := 21) (r := some (vI _)) d_Mo_as_21 (Or.inl rfl) rfl ?_
      exact qs_of (by unfold sp_as; rw [if_neg (by omega)]) hI
set_option maxRecDepth 20000 in
theorem cs_Mo_sign (S : SS) (σ : SM) (hI : RI S σ) (p q : Int) (sz : Nat) : Ct M_Mo_sign 2 0 0 (vR 8 :: [vI p, vI q]) (hM σ) sz (QS (sp_sign S p q) sz) := by
  refine Ct.of rfl (Nat.le_of_ble_eq_true rfl) ?_
  dsimp only [lsOf]
  refine V.iload_n (pc := 0) 1 d_Mo_sign_0 rfl rfl ?_
  refine V.cS1 (pc := 1) (kc2 := 0) (ks2 := 0) ml_Mo_152 (ct_Mo_isPlace _ _ _) d_Mo_sign_1 (Nat.le_of_ble_eq_true rfl) (Nat.le_of_ble_eq_true rfl) (Nat.le_of_ble_eq_true rfl) (Nat.le_of_ble_eq_true rfl) ?_
  rintro _ _ _ ⟨rfl, rfl, rfl⟩
  dsimp only [Option.toList, List.cons_append, List.nil_append]
  refine V.ifB_ne (tgt := 10) (pc := 4) d_Mo_sign_4 (by decide) (fun c_4 => ?_) (fun c_4 => ?_)
  · skip
    rcases th_cases hI.2.1 (show p.toNat < 10 by omega) with ⟨hS, hk⟩ | ⟨kd, n, a, b, hS, hone⟩
    rotate_left
    by_cases hof : isOf kd 1
    · skip
      obtain ⟨hw, hk, hn, h3, h4, h5, h6⟩ := id hone
      have hwk := wf_kind hw
      refine V.aload_n (pc := 10) 0 d_Mo_sign_10 rfl rfl ?_
      refine V.iload_n (pc := 11) 1 d_Mo_sign_11 rfl rfl ?_
      refine V.iconst (pc := 12) d_Mo_sign_12 ⟨by decide, by decide⟩ ?_
      refine V.cV2 (pc := 13) (kc2 := 0) (ks2 := 0) ml_Mo_165 (hM_o _) (refY (by omega) (by omega) (by rw [hk]; exact hof) _) d_Mo_sign_13 (Nat.le_of_ble_eq_true rfl) (Nat.le_of_ble_eq_true rfl) (Nat.le_of_ble_eq_true rfl) (Nat.le_of_ble_eq_true rfl) ?_
      rintro _ _ _ ⟨rfl, rfl, rfl⟩
      dsimp only [Option.toList, List.cons_append, List.nil_append]
      refine V.istore_n (pc := 16) 3 d_Mo_sign_16 rfl (Nat.le_of_ble_eq_true rfl) rfl ?_
      dsimp only [put]
      refine V.iload_n (pc := 17) 3 d_Mo_sign_17 rfl rfl ?_
      refine V.if_eq (tgt := 23) (pc := 18) d_Mo_sign_18 (by decide) (fun c_18 => ?_) (fun c_18 => ?_)
      · skip
        refine V.iload_n (pc := 23) 2 d_Mo_sign_23 rfl rfl ?_
        refine V.i2l (pc := 24) d_Mo_sign_24 ?_
        refine V.lconst0 (pc := 25) d_Mo_sign_25 ?_
        refine V.iconst (pc := 26) d_Mo_sign_26 ⟨by decide, by decide⟩ ?_
        refine V.aload_n (pc := 27) 0 d_Mo_sign_27 rfl rfl ?_
        refine V.getf (pc := 28) 5 cl_Mo fl_Mo_25_Mo d_Mo_sign_28 (hM_o _) (Nat.le_of_ble_eq_true rfl) rfl ?_
        refine V.iload_n (pc := 31) 1 d_Mo_sign_31 rfl rfl ?_
        refine V.iald (pc := 32) d_Mo_sign_32 (ar_many _).1 (by omega) (by omega) ?_
        try simp (disch := omega) only [sset_n, sset_e]
        rw [hn]
        refine V.imul (pc := 33) d_Mo_sign_33 ⟨by omega, by omega⟩ ?_
        refine V.iconst (pc := 34) d_Mo_sign_34 ⟨by decide, by decide⟩ ?_
        refine V.isub (pc := 35) d_Mo_sign_35 ⟨by omega, by omega⟩ ?_
        refine V.i2l (pc := 36) d_Mo_sign_36 ?_
        refine V.cS3 (pc := 37) (kc2 := 0) (ks2 := 0) ml_Mo_102 (ct_Mo_in _ _ _ _ _) d_Mo_sign_37 (Nat.le_of_ble_eq_true rfl) (Nat.le_of_ble_eq_true rfl) (Nat.le_of_ble_eq_true rfl) (Nat.le_of_ble_eq_true rfl) ?_
        rintro _ _ _ ⟨rfl, rfl, rfl⟩
        dsimp only [Option.toList, List.cons_append, List.nil_append]
        refine V.ifB_eq (tgt := 61) (pc := 40) d_Mo_sign_40 (by decide) (fun c_40 => ?_) (fun c_40 => ?_)
        · skip
          refine V.ldc (pc := 61) (-1000001) ck_Mo_112 rfl ⟨by decide, by decide⟩ d_Mo_sign_61 ?_
          refine V.ret (pc := 63) (r := some (vI _)) d_Mo_sign_63 (Or.inl rfl) rfl ?_
          first
            | exact qs_of (by unfold sp_sign; rw [if_pos (by omega)]; simp only [hS]; rw [if_pos hof]; rw [if_neg (by omega)]; try rfl) hI
            | exact qs_of (by unfold sp_sign; rw [if_pos (by omega)]; simp only [hS]; rw [if_pos hof]; rw [if_pos (by omega)]; try rfl) (hI.st 0)
        · skip
          refine V.aload_n (pc := 43) 0 d_Mo_sign_43 rfl rfl ?_
          refine V.aload_n (pc := 44) 0 d_Mo_sign_44 rfl rfl ?_
          refine V.getf (pc := 45) 6 cl_Mo fl_Mo_28_Mo d_Mo_sign_45 (hM_o _) (Nat.le_of_ble_eq_true rfl) rfl ?_
          refine V.bipush (pc := 48) d_Mo_sign_48 ⟨by decide, by decide⟩ ?_
          refine V.iload_n (pc := 50) 1 d_Mo_sign_50 rfl rfl ?_
          refine V.imul (pc := 51) d_Mo_sign_51 ⟨by omega, by omega⟩ ?_
          refine V.iload_n (pc := 52) 2 d_Mo_sign_52 rfl rfl ?_
          refine V.iadd (pc := 53) d_Mo_sign_53 ⟨by omega, by omega⟩ ?_
          refine V.iald (pc := 54) d_Mo_sign_54 (ar_one _).1 (by omega) (by omega) ?_
          try simp (disch := omega) only [sset_n, sset_e]
          rw [show (40 * p + q).toNat = 40 * p.toNat + q.toNat by omega, h3 (by omega) q.toNat (by omega)]
          refine V.cV1 (pc := 55) (kc2 := 0) (ks2 := 0) ml_Mo_117 (hM_o _) (ct_Mo_well _ _ _) d_Mo_sign_55 (Nat.le_of_ble_eq_true rfl) (Nat.le_of_ble_eq_true rfl) (Nat.le_of_ble_eq_true rfl) (Nat.le_of_ble_eq_true rfl) ?_
          rintro _ _ _ ⟨rfl, rfl, rfl⟩
          dsimp only [Option.toList, List.cons_append, List.nil_append]
          refine V.goto (tgt := 63) (pc := 58) d_Mo_sign_58 (by decide) ?_
          refine V.ret (pc := 63) (r := some (vI _)) d_Mo_sign_63 (Or.inl rfl) rfl ?_
          first
            | exact qs_of (by unfold sp_sign; rw [if_pos (by omega)]; simp only [hS]; rw [if_pos hof]; rw [if_neg (by omega)]; try rfl) hI
            | exact qs_of (by unfold sp_sign; rw [if_pos (by omega)]; simp only [hS]; rw [if_pos hof]; rw [if_pos (by omega)]; try rfl) (hI.st 0)
      · skip
        exact absurd rfl c_18
    · skip
      obtain ⟨hw, hk, hn, h3, h4, h5, h6⟩ := id hone
      have hwk := wf_kind hw
      refine V.aload_n (pc := 10) 0 d_Mo_sign_10 rfl rfl ?_
      refine V.iload_n (pc := 11) 1 d_Mo_sign_11 rfl rfl ?_
      refine V.iconst (pc := 12) d_Mo_sign_12 ⟨by decide, by decide⟩ ?_
      refine V.cV2 (pc := 13) (kc2 := 0) (ks2 := 0) ml_Mo_165 (hM_o _) (refK (by omega) (by omega) (by rw [hk]; exact hof) _) d_Mo_sign_13 (Nat.le_of_ble_eq_true rfl) (Nat.le_of_ble_eq_true rfl) (Nat.le_of_ble_eq_true rfl) (Nat.le_of_ble_eq_true rfl) ?_
      rintro _ _ _ ⟨rfl, rfl, rfl⟩
      dsimp only [Option.toList, List.cons_append, List.nil_append]
      refine V.istore_n (pc := 16) 3 d_Mo_sign_16 rfl (Nat.le_of_ble_eq_true rfl) rfl ?_
      dsimp only [put]
      refine V.iload_n (pc := 17) 3 d_Mo_sign_17 rfl rfl ?_
      refine V.if_eq (tgt := 23) (pc := 18) d_Mo_sign_18 (by decide) (fun c_18 => ?_) (fun c_18 => ?_)
      · skip
        exact absurd c_18 (by decide)
      · skip
        refine V.iload_n (pc := 21) 3 d_Mo_sign_21 rfl rfl ?_
        refine V.ret (pc := 22) (r := some (vI _)) d_Mo_sign_22 (Or.inl rfl) rfl ?_
        first
          | exact qs_of (by unfold sp_sign; rw [if_pos (by omega)]; simp only [hS]; try rfl) (hI.st 1)
          | exact qs_of (by unfold sp_sign; rw [if_pos (by omega)]; simp only [hS]; rw [if_neg hof]; try rfl) (hI.st 3)
    · skip
      refine V.aload_n (pc := 10) 0 d_Mo_sign_10 rfl rfl ?_
      refine V.iload_n (pc := 11) 1 d_Mo_sign_11 rfl rfl ?_
      refine V.iconst (pc := 12) d_Mo_sign_12 ⟨by decide, by decide⟩ ?_
      refine V.cV2 (pc := 13) (kc2 := 0) (ks2 := 0) ml_Mo_165 (hM_o _) (refN (by omega) hk _) d_Mo_sign_13 (Nat.le_of_ble_eq_true rfl) (Nat.le_of_ble_eq_true rfl) (Nat.le_of_ble_eq_true rfl) (Nat.le_of_ble_eq_true rfl) ?_
      rintro _ _ _ ⟨rfl, rfl, rfl⟩
      dsimp only [Option.toList, List.cons_append, List.nil_append]
      refine V.istore_n (pc := 16) 3 d_Mo_sign_16 rfl (Nat.le_of_ble_eq_true rfl) rfl ?_
      dsimp only [put]
      refine V.iload_n (pc := 17) 3 d_Mo_sign_17 rfl rfl ?_
      refine V.if_eq (tgt := 23) (pc := 18) d_Mo_sign_18 (by decide) (fun c_18 => ?_) (fun c_18 => ?_)
      · skip
        exact absurd c_18 (by decide)
      · skip
        refine V.iload_n (pc := 21) 3 d_Mo_sign_21 rfl rfl ?_
        refine V.ret (pc := 22) (r := some (vI _)) d_Mo_sign_22 (Or.inl rfl) rfl ?_
        first
          | exact qs_of (by unfold sp_sign; rw [if_pos (by omega)]; simp only [hS]; try rfl) (hI.st 1)
          | exact qs_of (by unfold sp_sign; rw [if_pos (by omega)]; simp only [hS]; rw [if_neg hof]; try rfl) (hI.st 3)
  · skip
    refine V.ldc (pc := 7) (-1000001) ck_Mo_112 rfl ⟨by decide, by decide⟩ d_Mo_sign_7 ?_
    refine V.ret (pc := 9) (r := some (vI _)) d_Mo_sign_9 (Or.inl rfl) rfl ?_
    exact qs_of (by unfold sp_sign; rw [if_neg (by omega)]) hI
set_option maxRecDepth 20000 in
theorem cs_Mo_joined (S : SS) (σ : SM) (hI : RI S σ) (p q : Int) (sz : Nat) : Ct M_Mo_joined 2 0 0 (vR 8 :: [vI p, vI q]) (hM σ) sz (QS (sp_joined S p q) sz) := by
  refine Ct.of rfl (Nat.le_of_ble_eq_true rfl) ?_
  dsimp only [lsOf]
  refine V.iload_n (pc := 0) 1 d_Mo_joined_0 rfl rfl ?_
  refine V.cS1 (pc := 1) (kc2 := 0) (ks2 := 0) ml_Mo_152 (ct_Mo_isPlace _ _ _) d_Mo_joined_1 (Nat.le_of_ble_eq_true rfl) (Nat.le_of_ble_eq_true rfl) (Nat.le_of_ble_eq_true rfl) (Nat.le_of_ble_eq_true rfl) ?_
  rintro _ _ _ ⟨rfl, rfl, rfl⟩
  dsimp only [Option.toList, List.cons_append, List.nil_append]
  refine V.ifB_ne (tgt := 10) (pc := 4) d_Mo_joined_4 (by decide) (fun c_4 => ?_) (fun c_4 => ?_)
  · skip
    rcases th_cases hI.2.1 (show p.toNat < 10 by omega) with ⟨hS, hk⟩ | ⟨kd, n, a, b, hS, hone⟩
    rotate_left
    by_cases hof : isOf kd 2
    · skip
      obtain ⟨hw, hk, hn, h3, h4, h5, h6⟩ := id hone
      have hwk := wf_kind hw
      refine V.aload_n (pc := 10) 0 d_Mo_joined_10 rfl rfl ?_
      refine V.iload_n (pc := 11) 1 d_Mo_joined_11 rfl rfl ?_
      refine V.iconst (pc := 12) d_Mo_joined_12 ⟨by decide, by decide⟩ ?_
      refine V.cV2 (pc := 13) (kc2 := 0) (ks2 := 0) ml_Mo_165 (hM_o _) (refY (by omega) (by omega) (by rw [hk]; exact hof) _) d_Mo_joined_13 (Nat.le_of_ble_eq_true rfl) (Nat.le_of_ble_eq_true rfl) (Nat.le_of_ble_eq_true rfl) (Nat.le_of_ble_eq_true rfl) ?_
      rintro _ _ _ ⟨rfl, rfl, rfl⟩
      dsimp only [Option.toList, List.cons_append, List.nil_append]
      refine V.istore_n (pc := 16) 3 d_Mo_joined_16 rfl (Nat.le_of_ble_eq_true rfl) rfl ?_
      dsimp only [put]
      refine V.iload_n (pc := 17) 3 d_Mo_joined_17 rfl rfl ?_
      refine V.if_eq (tgt := 23) (pc := 18) d_Mo_joined_18 (by decide) (fun c_18 => ?_) (fun c_18 => ?_)
      · skip
        refine V.iload_n (pc := 23) 2 d_Mo_joined_23 rfl rfl ?_
        refine V.i2l (pc := 24) d_Mo_joined_24 ?_
        refine V.lconst0 (pc := 25) d_Mo_joined_25 ?_
        refine V.iconst (pc := 26) d_Mo_joined_26 ⟨by decide, by decide⟩ ?_
        refine V.aload_n (pc := 27) 0 d_Mo_joined_27 rfl rfl ?_
        refine V.getf (pc := 28) 5 cl_Mo fl_Mo_25_Mo d_Mo_joined_28 (hM_o _) (Nat.le_of_ble_eq_true rfl) rfl ?_
        refine V.iload_n (pc := 31) 1 d_Mo_joined_31 rfl rfl ?_
        refine V.iald (pc := 32) d_Mo_joined_32 (ar_many _).1 (by omega) (by omega) ?_
        try simp (disch := omega) only [sset_n, sset_e]
        rw [hn]
        refine V.imul (pc := 33) d_Mo_joined_33 ⟨by omega, by omega⟩ ?_
        refine V.iconst (pc := 34) d_Mo_joined_34 ⟨by decide, by decide⟩ ?_
        refine V.isub (pc := 35) d_Mo_joined_35 ⟨by omega, by omega⟩ ?_
        refine V.i2l (pc := 36) d_Mo_joined_36 ?_
        refine V.cS3 (pc := 37) (kc2 := 0) (ks2 := 0) ml_Mo_102 (ct_Mo_in _ _ _ _ _) d_Mo_joined_37 (Nat.le_of_ble_eq_true rfl) (Nat.le_of_ble_eq_true rfl) (Nat.le_of_ble_eq_true rfl) (Nat.le_of_ble_eq_true rfl) ?_
        rintro _ _ _ ⟨rfl, rfl, rfl⟩
        dsimp only [Option.toList, List.cons_append, List.nil_append]
        refine V.ifB_eq (tgt := 61) (pc := 40) d_Mo_joined_40 (by decide) (fun c_40 => ?_) (fun c_40 => ?_)
        · skip
          refine V.ldc (pc := 61) (-1000001) ck_Mo_112 rfl ⟨by decide, by decide⟩ d_Mo_joined_61 ?_
          refine V.ret (pc := 63) (r := some (vI _)) d_Mo_joined_63 (Or.inl rfl) rfl ?_
          first
            | exact qs_of (by unfold sp_joined; rw [if_pos (by omega)]; simp only [hS]; rw [if_pos hof]; rw [if_neg (by omega)]; try rfl) hI
            | exact qs_of (by unfold sp_joined; rw [if_pos (by omega)]; simp only [hS]; rw [if_pos hof]; rw [if_pos (by omega)]; try rfl) (hI.st 0)
        · skip
          refine V.aload_n (pc := 43) 0 d_Mo_joined_43 rfl rfl ?_
          refine V.aload_n (pc := 44) 0 d_Mo_joined_44 rfl rfl ?_
          refine V.getf (pc := 45) 8 cl_Mo fl_Mo_34_Mo d_Mo_joined_45 (hM_o _) (Nat.le_of_ble_eq_true rfl) rfl ?_
          refine V.bipush (pc := 48) d_Mo_joined_48 ⟨by decide, by decide⟩ ?_
          refine V.iload_n (pc := 50) 1 d_Mo_joined_50 rfl rfl ?_
          refine V.imul (pc := 51) d_Mo_joined_51 ⟨by omega, by omega⟩ ?_
          refine V.iload_n (pc := 52) 2 d_Mo_joined_52 rfl rfl ?_
          refine V.iadd (pc := 53) d_Mo_joined_53 ⟨by omega, by omega⟩ ?_
          refine V.iald (pc := 54) d_Mo_joined_54 (ar_over _).1 (by omega) (by omega) ?_
          try simp (disch := omega) only [sset_n, sset_e]
          rw [show (40 * p + q).toNat = 40 * p.toNat + q.toNat by omega, h6 (by omega) (by omega) q.toNat (by omega)]
          refine V.cV1 (pc := 55) (kc2 := 0) (ks2 := 0) ml_Mo_117 (hM_o _) (ct_Mo_well _ _ _) d_Mo_joined_55 (Nat.le_of_ble_eq_true rfl) (Nat.le_of_ble_eq_true rfl) (Nat.le_of_ble_eq_true rfl) (Nat.le_of_ble_eq_true rfl) ?_
          rintro _ _ _ ⟨rfl, rfl, rfl⟩
          dsimp only [Option.toList, List.cons_append, List.nil_append]
          refine V.goto (tgt := 63) (pc := 58) d_Mo_joined_58 (by decide) ?_
          refine V.ret (pc := 63) (r := some (vI _)) d_Mo_joined_63 (Or.inl rfl) rfl ?_
          first
            | exact qs_of (by unfold sp_joined; rw [if_pos (by omega)]; simp only [hS]; rw [if_pos hof]; rw [if_neg (by omega)]; try rfl) hI
            | exact qs_of (by unfold sp_joined; rw [if_pos (by omega)]; simp only [hS]; rw [if_pos hof]; rw [if_pos (by omega)]; try rfl) (hI.st 0)
      · skip
        exact absurd rfl c_18
    · skip
      obtain ⟨hw, hk, hn, h3, h4, h5, h6⟩ := id hone
      have hwk := wf_kind hw
      refine V.aload_n (pc := 10) 0 d_Mo_joined_10 rfl rfl ?_
      refine V.iload_n (pc := 11) 1 d_Mo_joined_11 rfl rfl ?_
      refine V.iconst (pc := 12) d_Mo_joined_12 ⟨by decide, by decide⟩ ?_
      refine V.cV2 (pc := 13) (kc2 := 0) (ks2 := 0) ml_Mo_165 (hM_o _) (refK (by omega) (by omega) (by rw [hk]; exact hof) _) d_Mo_joined_13 (Nat.le_of_ble_eq_true rfl) (Nat.le_of_ble_eq_true rfl) (Nat.le_of_ble_eq_true rfl) (Nat.le_of_ble_eq_true rfl) ?_
      rintro _ _ _ ⟨rfl, rfl, rfl⟩
      dsimp only [Option.toList, List.cons_append, List.nil_append]
      refine V.istore_n (pc := 16) 3 d_Mo_joined_16 rfl (Nat.le_of_ble_eq_true rfl) rfl ?_
      dsimp only [put]
      refine V.iload_n (pc := 17) 3 d_Mo_joined_17 rfl rfl ?_
      refine V.if_eq (tgt := 23) (pc := 18) d_Mo_joined_18 (by decide) (fun c_18 => ?_) (fun c_18 => ?_)
      · skip
        exact absurd c_18 (by decide)
      · skip
        refine V.iload_n (pc := 21) 3 d_Mo_joined_21 rfl rfl ?_
        refine V.ret (pc := 22) (r := some (vI _)) d_Mo_joined_22 (Or.inl rfl) rfl ?_
        first
          | exact qs_of (by unfold sp_joined; rw [if_pos (by omega)]; simp only [hS]; try rfl) (hI.st 1)
          | exact qs_of (by unfold sp_joined; rw [if_pos (by omega)]; simp only [hS]; rw [if_neg hof]; try rfl) (hI.st 3)
    · skip
      refine V.aload_n (pc := 10) 0 d_Mo_joined_10 rfl rfl ?_
      refine V.iload_n (pc := 11) 1 d_Mo_joined_11 rfl rfl ?_
      refine V.iconst (pc := 12) d_Mo_joined_12 ⟨by decide, by decide⟩ ?_
      refine V.cV2 (pc := 13) (kc2 := 0) (ks2 := 0) ml_Mo_165 (hM_o _) (refN (by omega) hk _) d_Mo_joined_13 (Nat.le_of_ble_eq_true rfl) (Nat.le_of_ble_eq_true rfl) (Nat.le_of_ble_eq_true rfl) (Nat.le_of_ble_eq_true rfl) ?_
      rintro _ _ _ ⟨rfl, rfl, rfl⟩
      dsimp only [Option.toList, List.cons_append, List.nil_append]
      refine V.istore_n (pc := 16) 3 d_Mo_joined_16 rfl (Nat.le_of_ble_eq_true rfl) rfl ?_
      dsimp only [put]
      refine V.iload_n (pc := 17) 3 d_Mo_joined_17 rfl rfl ?_
      refine V.if_eq (tgt := 23) (pc := 18) d_Mo_joined_18 (by decide) (fun c_18 => ?_) (fun c_18 => ?_)
      · skip
        exact absurd c_18 (by decide)
      · skip
        refine V.iload_n (pc := 21) 3 d_Mo_joined_21 rfl rfl ?_
        refine V.ret (pc := 22) (r := some (vI _)) d_Mo_joined_22 (Or.inl rfl) rfl ?_
        first
          | exact qs_of (by unfold sp_joined; rw [if_pos (by omega)]; simp only [hS]; try rfl) (hI.st 1)
          | exact qs_of (by unfold sp_joined; rw [if_pos (by omega)]; simp only [hS]; rw [if_neg hof]; try rfl) (hI.st 3)
  · skip
    refine V.ldc (pc := 7) (-1000001) ck_Mo_112 rfl ⟨by decide, by decide⟩ d_Mo_joined_7 ?_
    refine V.ret (pc := 9) (r := some (vI _)) d_Mo_joined_9 (Or.inl rfl) rfl ?_
    exact qs_of (by unfold sp_joined; rw [if_neg (by omega)]) hI
set_option maxRecDepth 20000 in
theorem cs_Mo_stamp (S : SS) (σ : SM) (hI : RI S σ) (p q : Int) (sz : Nat) : Ct M_Mo_stamp 2 0 0 (vR 8 :: [vI p, vI q]) (hM σ) sz (QS (sp_stamp S p q) sz) := by
  refine Ct.of rfl (Nat.le_of_ble_eq_true rfl) ?_
  dsimp only [lsOf]
  refine V.iload_n (pc := 0) 1 d_Mo_stamp_0 rfl rfl ?_
  refine V.cS1 (pc := 1) (kc2 := 0) (ks2 := 0) ml_Mo_152 (ct_Mo_isPlace _ _ _) d_Mo_stamp_1 (Nat.le_of_ble_eq_true rfl) (Nat.le_of_ble_eq_true rfl) (Nat.le_of_ble_eq_true rfl) (Nat.le_of_ble_eq_true rfl) ?_
  rintro _ _ _ ⟨rfl, rfl, rfl⟩
  dsimp only [Option.toList, List.cons_append, List.nil_append]
  refine V.ifB_ne (tgt := 10) (pc := 4) d_Mo_stamp_4 (by decide) (fun c_4 => ?_) (fun c_4 => ?_)
  · skip
    rcases th_cases hI.2.1 (show p.toNat < 10 by omega) with ⟨hS, hk⟩ | ⟨kd, n, a, b, hS, hone⟩
    rotate_left
    by_cases hof : isOf kd 7
    · skip
      obtain ⟨hw, hk, hn, h3, h4, h5, h6⟩ := id hone
      have hwk := wf_kind hw
      refine V.aload_n (pc := 10) 0 d_Mo_stamp_10 rfl rfl ?_
      refine V.iload_n (pc := 11) 1 d_Mo_stamp_11 rfl rfl ?_
      refine V.bipush (pc := 12) d_Mo_stamp_12 ⟨by decide, by decide⟩ ?_
      refine V.cV2 (pc := 14) (kc2 := 0) (ks2 := 0) ml_Mo_165 (hM_o _) (refY (by omega) (by omega) (by rw [hk]; exact hof) _) d_Mo_stamp_14 (Nat.le_of_ble_eq_true rfl) (Nat.le_of_ble_eq_true rfl) (Nat.le_of_ble_eq_true rfl) (Nat.le_of_ble_eq_true rfl) ?_
      rintro _ _ _ ⟨rfl, rfl, rfl⟩
      dsimp only [Option.toList, List.cons_append, List.nil_append]
      refine V.istore_n (pc := 17) 3 d_Mo_stamp_17 rfl (Nat.le_of_ble_eq_true rfl) rfl ?_
      dsimp only [put]
      refine V.iload_n (pc := 18) 3 d_Mo_stamp_18 rfl rfl ?_
      refine V.if_eq (tgt := 24) (pc := 19) d_Mo_stamp_19 (by decide) (fun c_19 => ?_) (fun c_19 => ?_)
      · skip
        refine V.iload_n (pc := 24) 2 d_Mo_stamp_24 rfl rfl ?_
        refine V.i2l (pc := 25) d_Mo_stamp_25 ?_
        refine V.lconst0 (pc := 26) d_Mo_stamp_26 ?_
        refine V.aload_n (pc := 27) 0 d_Mo_stamp_27 rfl rfl ?_
        refine V.getf (pc := 28) 5 cl_Mo fl_Mo_25_Mo d_Mo_stamp_28 (hM_o _) (Nat.le_of_ble_eq_true rfl) rfl ?_
        refine V.iload_n (pc := 31) 1 d_Mo_stamp_31 rfl rfl ?_
        refine V.iald (pc := 32) d_Mo_stamp_32 (ar_many _).1 (by omega) (by omega) ?_
        try simp (disch := omega) only [sset_n, sset_e]
        refine V.iconst (pc := 33) d_Mo_stamp_33 ⟨by decide, by decide⟩ ?_
        rw [hn]
        refine V.isub (pc := 34) d_Mo_stamp_34 ⟨by omega, by omega⟩ ?_
        refine V.i2l (pc := 35) d_Mo_stamp_35 ?_
        refine V.cS3 (pc := 36) (kc2 := 0) (ks2 := 0) ml_Mo_102 (ct_Mo_in _ _ _ _ _) d_Mo_stamp_36 (Nat.le_of_ble_eq_true rfl) (Nat.le_of_ble_eq_true rfl) (Nat.le_of_ble_eq_true rfl) (Nat.le_of_ble_eq_true rfl) ?_
        rintro _ _ _ ⟨rfl, rfl, rfl⟩
        dsimp only [Option.toList, List.cons_append, List.nil_append]
        refine V.ifB_eq (tgt := 60) (pc := 39) d_Mo_stamp_39 (by decide) (fun c_39 => ?_) (fun c_39 => ?_)
        · skip
          refine V.ldc (pc := 60) (-1000001) ck_Mo_112 rfl ⟨by decide, by decide⟩ d_Mo_stamp_60 ?_
          refine V.ret (pc := 62) (r := some (vI _)) d_Mo_stamp_62 (Or.inl rfl) rfl ?_
          first
            | exact qs_of (by unfold sp_stamp; rw [if_pos (by omega)]; simp only [hS]; rw [if_pos hof]; rw [if_neg (by omega)]; try rfl) hI
            | exact qs_of (by unfold sp_stamp; rw [if_pos (by omega)]; simp only [hS]; rw [if_pos hof]; rw [if_pos (by omega)]; try rfl) (hI.st 0)
        · skip
          refine V.aload_n (pc := 42) 0 d_Mo_stamp_42 rfl rfl ?_
          refine V.aload_n (pc := 43) 0 d_Mo_stamp_43 rfl rfl ?_
          refine V.getf (pc := 44) 6 cl_Mo fl_Mo_28_Mo d_Mo_stamp_44 (hM_o _) (Nat.le_of_ble_eq_true rfl) rfl ?_
          refine V.bipush (pc := 47) d_Mo_stamp_47 ⟨by decide, by decide⟩ ?_
          refine V.iload_n (pc := 49) 1 d_Mo_stamp_49 rfl rfl ?_
          refine V.imul (pc := 50) d_Mo_stamp_50 ⟨by omega, by omega⟩ ?_
          refine V.iload_n (pc := 51) 2 d_Mo_stamp_51 rfl rfl ?_
          refine V.iadd (pc := 52) d_Mo_stamp_52 ⟨by omega, by omega⟩ ?_
          refine V.iald (pc := 53) d_Mo_stamp_53 (ar_one _).1 (by omega) (by omega) ?_
          try simp (disch := omega) only [sset_n, sset_e]
          rw [show (40 * p + q).toNat = 40 * p.toNat + q.toNat by omega, h4 (by omega) q.toNat (by omega)]
          refine V.cV1 (pc := 54) (kc2 := 0) (ks2 := 0) ml_Mo_117 (hM_o _) (ct_Mo_well _ _ _) d_Mo_stamp_54 (Nat.le_of_ble_eq_true rfl) (Nat.le_of_ble_eq_true rfl) (Nat.le_of_ble_eq_true rfl) (Nat.le_of_ble_eq_true rfl) ?_
          rintro _ _ _ ⟨rfl, rfl, rfl⟩
          dsimp only [Option.toList, List.cons_append, List.nil_append]
          refine V.goto (tgt := 62) (pc := 57) d_Mo_stamp_57 (by decide) ?_
          refine V.ret (pc := 62) (r := some (vI _)) d_Mo_stamp_62 (Or.inl rfl) rfl ?_
          first
            | exact qs_of (by unfold sp_stamp; rw [if_pos (by omega)]; simp only [hS]; rw [if_pos hof]; rw [if_neg (by omega)]; try rfl) hI
            | exact qs_of (by unfold sp_stamp; rw [if_pos (by omega)]; simp only [hS]; rw [if_pos hof]; rw [if_pos (by omega)]; try rfl) (hI.st 0)
      · skip
        exact absurd rfl c_19
    · skip
      obtain ⟨hw, hk, hn, h3, h4, h5, h6⟩ := id hone
      have hwk := wf_kind hw
      refine V.aload_n (pc := 10) 0 d_Mo_stamp_10 rfl rfl ?_
      refine V.iload_n (pc := 11) 1 d_Mo_stamp_11 rfl rfl ?_
      refine V.bipush (pc := 12) d_Mo_stamp_12 ⟨by decide, by decide⟩ ?_
      refine V.cV2 (pc := 14) (kc2 := 0) (ks2 := 0) ml_Mo_165 (hM_o _) (refK (by omega) (by omega) (by rw [hk]; exact hof) _) d_Mo_stamp_14 (Nat.le_of_ble_eq_true rfl) (Nat.le_of_ble_eq_true rfl) (Nat.le_of_ble_eq_true rfl) (Nat.le_of_ble_eq_true rfl) ?_
      rintro _ _ _ ⟨rfl, rfl, rfl⟩
      dsimp only [Option.toList, List.cons_append, List.nil_append]
      refine V.istore_n (pc := 17) 3 d_Mo_stamp_17 rfl (Nat.le_of_ble_eq_true rfl) rfl ?_
      dsimp only [put]
      refine V.iload_n (pc := 18) 3 d_Mo_stamp_18 rfl rfl ?_
      refine V.if_eq (tgt := 24) (pc := 19) d_Mo_stamp_19 (by decide) (fun c_19 => ?_) (fun c_19 => ?_)
      · skip
        exact absurd c_19 (by decide)
      · skip
        refine V.iload_n (pc := 22) 3 d_Mo_stamp_22 rfl rfl ?_
        refine V.ret (pc := 23) (r := some (vI _)) d_Mo_stamp_23 (Or.inl rfl) rfl ?_
        first
          | exact qs_of (by unfold sp_stamp; rw [if_pos (by omega)]; simp only [hS]; try rfl) (hI.st 1)
          | exact qs_of (by unfold sp_stamp; rw [if_pos (by omega)]; simp only [hS]; rw [if_neg hof]; try rfl) (hI.st 3)
    · skip
      refine V.aload_n (pc := 10) 0 d_Mo_stamp_10 rfl rfl ?_
      refine V.iload_n (pc := 11) 1 d_Mo_stamp_11 rfl rfl ?_
      refine V.bipush (pc := 12) d_Mo_stamp_12 ⟨by decide, by decide⟩ ?_
      refine V.cV2 (pc := 14) (kc2 := 0) (ks2 := 0) ml_Mo_165 (hM_o _) (refN (by omega) hk _) d_Mo_stamp_14 (Nat.le_of_ble_eq_true rfl) (Nat.le_of_ble_eq_true rfl) (Nat.le_of_ble_eq_true rfl) (Nat.le_of_ble_eq_true rfl) ?_
      rintro _ _ _ ⟨rfl, rfl, rfl⟩
      dsimp only [Option.toList, List.cons_append, List.nil_append]
      refine V.istore_n (pc := 17) 3 d_Mo_stamp_17 rfl (Nat.le_of_ble_eq_true rfl) rfl ?_
      dsimp only [put]
      refine V.iload_n (pc := 18) 3 d_Mo_stamp_18 rfl rfl ?_
      refine V.if_eq (tgt := 24) (pc := 19) d_Mo_stamp_19 (by decide) (fun c_19 => ?_) (fun c_19 => ?_)
      · skip
        exact absurd c_19 (by decide)
      · skip
        refine V.iload_n (pc := 22) 3 d_Mo_stamp_22 rfl rfl ?_
        refine V.ret (pc := 23) (r := some (vI _)) d_Mo_stamp_23 (Or.inl rfl) rfl ?_
        first
          | exact qs_of (by unfold sp_stamp; rw [if_pos (by omega)]; simp only [hS]; try rfl) (hI.st 1)
          | exact qs_of (by unfold sp_stamp; rw [if_pos (by omega)]; simp only [hS]; rw [if_neg hof]; try rfl) (hI.st 3)
  · skip
    refine V.ldc (pc := 7) (-1000001) ck_Mo_112 rfl ⟨by decide, by decide⟩ d_Mo_stamp_7 ?_
    refine V.ret (pc := 9) (r := some (vI _)) d_Mo_stamp_9 (Or.inl rfl) rfl ?_
    exact qs_of (by unfold sp_stamp; rw [if_neg (by omega)]) hI
set_option maxRecDepth 20000 in
theorem cs_Mo_drop (S : SS) (σ : SM) (hI : RI S σ) (sh : Int) (sz : Nat) : Ct M_Mo_drop 2 0 0 (vR 8 :: [vI sh]) (hM σ) sz (QS (sp_drop S sh) sz) := by
  refine Ct.of rfl (Nat.le_of_ble_eq_true rfl) ?_
  dsimp only [lsOf]
  refine V.iload_n (pc := 0) 1 d_Mo_drop_0 rfl rfl ?_
  refine V.cS1 (pc := 1) (kc2 := 0) (ks2 := 0) ml_Mo_106 (ct_Mo_isSheet _ _ _) d_Mo_drop_1 (Nat.le_of_ble_eq_true rfl) (Nat.le_of_ble_eq_true rfl) (Nat.le_of_ble_eq_true rfl) (Nat.le_of_ble_eq_true rfl) ?_
  rintro _ _ _ ⟨rfl, rfl, rfl⟩
  dsimp only [Option.toList, List.cons_append, List.nil_append]
  refine V.ifB_ne (tgt := 10) (pc := 4) d_Mo_drop_4 (by decide) (fun c_4 => ?_) (fun c_4 => ?_)
  · skip
    rcases sh_cases hI.1 (show sh.toNat < 8 by omega) with ⟨hS, hk⟩ | ⟨l, n, g, hS, hl1, hl2, hn1, hk, hn, hit⟩
    · skip
      refine V.aload_n (pc := 10) 0 d_Mo_drop_10 rfl rfl ?_
      refine V.getf (pc := 11) 0 cl_Mo fl_Mo_7_Mo d_Mo_drop_11 (hM_o _) (Nat.le_of_ble_eq_true rfl) rfl ?_
      refine V.iload_n (pc := 14) 1 d_Mo_drop_14 rfl rfl ?_
      refine V.iald (pc := 15) d_Mo_drop_15 (ar_lane _).1 (by omega) (by omega) ?_
      try simp (disch := omega) only [sset_n, sset_e]
      refine V.if_ne (tgt := 25) (pc := 16) d_Mo_drop_16 (by decide) (fun c_16 => ?_) (fun c_16 => ?_)
      · skip
        exfalso; omega
      · skip
        refine V.aload_n (pc := 19) 0 d_Mo_drop_19 rfl rfl ?_
        refine V.iconst (pc := 20) d_Mo_drop_20 ⟨by decide, by decide⟩ ?_
        refine V.cV1 (pc := 21) (kc2 := 0) (ks2 := 0) ml_Mo_113 (hM_o _) (ct_Mo_finds _ (by omega) _ _) d_Mo_drop_21 (Nat.le_of_ble_eq_true rfl) (Nat.le_of_ble_eq_true rfl) (Nat.le_of_ble_eq_true rfl) (Nat.le_of_ble_eq_true rfl) ?_
        rintro _ _ _ ⟨rfl, rfl, rfl⟩
        dsimp only [Option.toList, List.cons_append, List.nil_append]
        first | rw [fi1] | rw [fi2] | rw [fi3] | rw [fi4] | rw [fi5]
        refine V.ret (pc := 24) (r := some (vI _)) d_Mo_drop_24 (Or.inl rfl) rfl ?_
        exact qs_of (by unfold sp_drop; rw [if_pos (by omega)]; simp only [hS]; repeat (first | rw [if_pos (by omega)] | rw [if_neg (by omega)]); try rfl) (hI.st 1)
    · skip
      refine V.aload_n (pc := 10) 0 d_Mo_drop_10 rfl rfl ?_
      refine V.getf (pc := 11) 0 cl_Mo fl_Mo_7_Mo d_Mo_drop_11 (hM_o _) (Nat.le_of_ble_eq_true rfl) rfl ?_
      refine V.iload_n (pc := 14) 1 d_Mo_drop_14 rfl rfl ?_
      refine V.iald (pc := 15) d_Mo_drop_15 (ar_lane _).1 (by omega) (by omega) ?_
      try simp (disch := omega) only [sset_n, sset_e]
      refine V.if_ne (tgt := 25) (pc := 16) d_Mo_drop_16 (by decide) (fun c_16 => ?_) (fun c_16 => ?_)
      · skip
        refine V.aload_n (pc := 25) 0 d_Mo_drop_25 rfl rfl ?_
        refine V.getf (pc := 26) 0 cl_Mo fl_Mo_7_Mo d_Mo_drop_26 (hM_o _) (Nat.le_of_ble_eq_true rfl) rfl ?_
        refine V.iload_n (pc := 29) 1 d_Mo_drop_29 rfl rfl ?_
        refine V.iconst (pc := 30) d_Mo_drop_30 ⟨by decide, by decide⟩ ?_
        refine V.iast (pc := 31) d_Mo_drop_31 (ar_lane _).1 (by omega) (by omega) ?_
        rw [(ar_lane _).2]
        refine V.aload_n (pc := 32) 0 d_Mo_drop_32 rfl rfl ?_
        refine V.aload_n (pc := 33) 0 d_Mo_drop_33 rfl rfl ?_
        refine V.getf (pc := 34) 1 cl_Mo fl_Mo_13_Mo d_Mo_drop_34 (hM_o _) (Nat.le_of_ble_eq_true rfl) rfl ?_
        refine V.iload_n (pc := 37) 1 d_Mo_drop_37 rfl rfl ?_
        refine V.iald (pc := 38) d_Mo_drop_38 (ar_size _).1 (by omega) (by omega) ?_
        try simp (disch := omega) only [sset_n, sset_e]
        refine V.cV1 (pc := 39) (kc2 := 0) (ks2 := 0) ml_Mo_117 (hM_o _) (ct_Mo_well _ _ _) d_Mo_drop_39 (Nat.le_of_ble_eq_true rfl) (Nat.le_of_ble_eq_true rfl) (Nat.le_of_ble_eq_true rfl) (Nat.le_of_ble_eq_true rfl) ?_
        rintro _ _ _ ⟨rfl, rfl, rfl⟩
        dsimp only [Option.toList, List.cons_append, List.nil_append]
        refine V.ret (pc := 42) (r := some (vI _)) d_Mo_drop_42 (Or.inl rfl) rfl ?_
        rw [hn]
        refine qs_of (S2 := sSh S sh.toNat none) (by unfold sp_drop; rw [if_pos (by omega)]; simp only [hS]; repeat (first | rw [if_pos (by omega)] | rw [if_neg (by omega)]); try rfl) (RI.sh hI (R_sh_upd hI.1 (fun j hj hne => ⟨upf_n hne, fun _ _ => ⟨rfl, fun _ _ => rfl⟩⟩) ?_) rfl (fun j h4 h10 => ?_))
        · show upf (σ 0) sh.toNat 0 sh.toNat = 0
          exact upf_e
        · rw [sset_n h10, sset_n (by omega)]
      · skip
        exfalso; omega
  · skip
    refine V.ldc (pc := 7) (-1000001) ck_Mo_112 rfl ⟨by decide, by decide⟩ d_Mo_drop_7 ?_
    refine V.ret (pc := 9) (r := some (vI _)) d_Mo_drop_9 (Or.inl rfl) rfl ?_
    exact qs_of (by unfold sp_drop; rw [if_neg (by omega)]) hI
set_option maxRecDepth 20000 in
theorem cs_Mo_set (S : SS) (σ : SM) (hI : RI S σ) (sh i v : Int) (sz : Nat) : Ct M_Mo_set 2 0 0 (vR 8 :: [vI sh, vI i, vI v]) (hM σ) sz (QS (sp_set S sh i v) sz) := by
  refine Ct.of rfl (Nat.le_of_ble_eq_true rfl) ?_
  dsimp only [lsOf]
  refine V.iload_n (pc := 0) 1 d_Mo_set_0 rfl rfl ?_
  refine V.cS1 (pc := 1) (kc2 := 0) (ks2 := 0) ml_Mo_106 (ct_Mo_isSheet _ _ _) d_Mo_set_1 (Nat.le_of_ble_eq_true rfl) (Nat.le_of_ble_eq_true rfl) (Nat.le_of_ble_eq_true rfl) (Nat.le_of_ble_eq_true rfl) ?_
  rintro _ _ _ ⟨rfl, rfl, rfl⟩
  dsimp only [Option.toList, List.cons_append, List.nil_append]
  refine V.ifB_ne (tgt := 10) (pc := 4) d_Mo_set_4 (by decide) (fun c_4 => ?_) (fun c_4 => ?_)
  · skip
    rcases sh_cases hI.1 (show sh.toNat < 8 by omega) with ⟨hS, hk⟩ | ⟨l, n, g, hS, hl1, hl2, hn1, hk, hn, hit⟩
    · skip
      refine V.aload_n (pc := 10) 0 d_Mo_set_10 rfl rfl ?_
      refine V.getf (pc := 11) 0 cl_Mo fl_Mo_7_Mo d_Mo_set_11 (hM_o _) (Nat.le_of_ble_eq_true rfl) rfl ?_
      refine V.iload_n (pc := 14) 1 d_Mo_set_14 rfl rfl ?_
      refine V.iald (pc := 15) d_Mo_set_15 (ar_lane _).1 (by omega) (by omega) ?_
      try simp (disch := omega) only [sset_n, sset_e]
      refine V.if_ne (tgt := 25) (pc := 16) d_Mo_set_16 (by decide) (fun c_16 => ?_) (fun c_16 => ?_)
      · skip
        exfalso; omega
      · skip
        refine V.aload_n (pc := 19) 0 d_Mo_set_19 rfl rfl ?_
        refine V.iconst (pc := 20) d_Mo_set_20 ⟨by decide, by decide⟩ ?_
        refine V.cV1 (pc := 21) (kc2 := 0) (ks2 := 0) ml_Mo_113 (hM_o _) (ct_Mo_finds _ (by omega) _ _) d_Mo_set_21 (Nat.le_of_ble_eq_true rfl) (Nat.le_of_ble_eq_true rfl) (Nat.le_of_ble_eq_true rfl) (Nat.le_of_ble_eq_true rfl) ?_
        rintro _ _ _ ⟨rfl, rfl, rfl⟩
        dsimp only [Option.toList, List.cons_append, List.nil_append]
        first | rw [fi1] | rw [fi2] | rw [fi3] | rw [fi4] | rw [fi5]
        refine V.ret (pc := 24) (r := some (vI _)) d_Mo_set_24 (Or.inl rfl) rfl ?_
        exact qs_of (by unfold sp_set; rw [if_pos (by omega)]; simp only [hS]; repeat (first | rw [if_pos (by omega)] | rw [if_neg (by omega)]); try rfl) (hI.st 1)
    · skip
      refine V.aload_n (pc := 10) 0 d_Mo_set_10 rfl rfl ?_
      refine V.getf (pc := 11) 0 cl_Mo fl_Mo_7_Mo d_Mo_set_11 (hM_o _) (Nat.le_of_ble_eq_true rfl) rfl ?_
      refine V.iload_n (pc := 14) 1 d_Mo_set_14 rfl rfl ?_
      refine V.iald (pc := 15) d_Mo_set_15 (ar_lane _).1 (by omega) (by omega) ?_
      try simp (disch := omega) only [sset_n, sset_e]
      refine V.if_ne (tgt := 25) (pc := 16) d_Mo_set_16 (by decide) (fun c_16 => ?_) (fun c_16 => ?_)
      · skip
        refine V.iload_n (pc := 25) 2 d_Mo_set_25 rfl rfl ?_
        refine V.i2l (pc := 26) d_Mo_set_26 ?_
        refine V.lconst0 (pc := 27) d_Mo_set_27 ?_
        refine V.aload_n (pc := 28) 0 d_Mo_set_28 rfl rfl ?_
        refine V.getf (pc := 29) 1 cl_Mo fl_Mo_13_Mo d_Mo_set_29 (hM_o _) (Nat.le_of_ble_eq_true rfl) rfl ?_
        refine V.iload_n (pc := 32) 1 d_Mo_set_32 rfl rfl ?_
        refine V.iald (pc := 33) d_Mo_set_33 (ar_size _).1 (by omega) (by omega) ?_
        try simp (disch := omega) only [sset_n, sset_e]
        rw [hn]
        refine V.iconst (pc := 34) d_Mo_set_34 ⟨by decide, by decide⟩ ?_
        refine V.isub (pc := 35) d_Mo_set_35 ⟨by omega, by omega⟩ ?_
        refine V.i2l (pc := 36) d_Mo_set_36 ?_
        refine V.cS3 (pc := 37) (kc2 := 0) (ks2 := 0) ml_Mo_102 (ct_Mo_in _ _ _ _ _) d_Mo_set_37 (Nat.le_of_ble_eq_true rfl) (Nat.le_of_ble_eq_true rfl) (Nat.le_of_ble_eq_true rfl) (Nat.le_of_ble_eq_true rfl) ?_
        rintro _ _ _ ⟨rfl, rfl, rfl⟩
        dsimp only [Option.toList, List.cons_append, List.nil_append]
        refine V.ifB_ne (tgt := 49) (pc := 40) d_Mo_set_40 (by decide) (fun c_40 => ?_) (fun c_40 => ?_)
        · skip
          refine V.aload_n (pc := 49) 0 d_Mo_set_49 rfl rfl ?_
          refine V.getf (pc := 50) 0 cl_Mo fl_Mo_7_Mo d_Mo_set_50 (hM_o _) (Nat.le_of_ble_eq_true rfl) rfl ?_
          refine V.iload_n (pc := 53) 1 d_Mo_set_53 rfl rfl ?_
          refine V.iald (pc := 54) d_Mo_set_54 (ar_lane _).1 (by omega) (by omega) ?_
          try simp (disch := omega) only [sset_n, sset_e]
          refine V.iconst (pc := 55) d_Mo_set_55 ⟨by decide, by decide⟩ ?_
          refine V.icmp_ne (tgt := 64) (pc := 56) d_Mo_set_56 (by decide) (fun c_56 => ?_) (fun c_56 => ?_)
          · skip
            refine V.aload_n (pc := 64) 0 d_Mo_set_64 rfl rfl ?_
            refine V.getf (pc := 65) 0 cl_Mo fl_Mo_7_Mo d_Mo_set_65 (hM_o _) (Nat.le_of_ble_eq_true rfl) rfl ?_
            refine V.iload_n (pc := 68) 1 d_Mo_set_68 rfl rfl ?_
            refine V.iald (pc := 69) d_Mo_set_69 (ar_lane _).1 (by omega) (by omega) ?_
            try simp (disch := omega) only [sset_n, sset_e]
            refine V.iconst (pc := 70) d_Mo_set_70 ⟨by decide, by decide⟩ ?_
            refine V.icmp_ne (tgt := 79) (pc := 71) d_Mo_set_71 (by decide) (fun c_71 => ?_) (fun c_71 => ?_)
            · skip
              refine V.iload_n (pc := 79) 3 d_Mo_set_79 rfl rfl ?_
              refine V.istore (pc := 80) d_Mo_set_80 (Nat.le_of_ble_eq_true rfl) rfl ?_
              dsimp only [put]
              refine V.aload_n (pc := 82) 0 d_Mo_set_82 rfl rfl ?_
              refine V.getf (pc := 83) 2 cl_Mo fl_Mo_16_Mo d_Mo_set_83 (hM_o _) (Nat.le_of_ble_eq_true rfl) rfl ?_
              refine V.bipush (pc := 86) d_Mo_set_86 ⟨by decide, by decide⟩ ?_
              refine V.iload_n (pc := 88) 1 d_Mo_set_88 rfl rfl ?_
              refine V.imul (pc := 89) d_Mo_set_89 ⟨by omega, by omega⟩ ?_
              refine V.iload_n (pc := 90) 2 d_Mo_set_90 rfl rfl ?_
              refine V.iadd (pc := 91) d_Mo_set_91 ⟨by omega, by omega⟩ ?_
              refine V.iload (pc := 92) d_Mo_set_92 rfl ?_
              refine V.iast (pc := 94) d_Mo_set_94 (ar_item _).1 (by omega) (by omega) ?_
              rw [(ar_item _).2]
              refine V.aload_n (pc := 95) 0 d_Mo_set_95 rfl rfl ?_
              refine V.iload (pc := 96) d_Mo_set_96 rfl ?_
              refine V.cV1 (pc := 98) (kc2 := 0) (ks2 := 0) ml_Mo_117 (hM_o _) (ct_Mo_well _ _ _) d_Mo_set_98 (Nat.le_of_ble_eq_true rfl) (Nat.le_of_ble_eq_true rfl) (Nat.le_of_ble_eq_true rfl) (Nat.le_of_ble_eq_true rfl) ?_
              rintro _ _ _ ⟨rfl, rfl, rfl⟩
              dsimp only [Option.toList, List.cons_append, List.nil_append]
              refine V.ret (pc := 101) (r := some (vI _)) d_Mo_set_101 (Or.inl rfl) rfl ?_
              refine qs_of (S2 := sSh S sh.toNat (some (l, n, upf g i.toNat (cutv l v)))) (by unfold sp_set cutv; rw [if_pos (by omega)]; simp only [hS]; rw [if_pos (by omega)]; repeat (first | rw [if_pos (by omega)] | rw [if_neg (by omega)])) (RI.sh hI (R_sh_upd hI.1 (fun j hj hne => ⟨rfl, fun _ _ => ⟨rfl, fun q hq => upf_n (by omega)⟩⟩) ⟨hl1, hl2, hn1, hk, hn, fun q hq => ?_⟩) rfl (fun j h4 h10 => by rw [sset_n h10, sset_n (by omega)]))
              show upf (σ 2) (100 * sh + i).toNat _ (100 * sh.toNat + q) = _
              rw [show (100 * sh + i).toNat = 100 * sh.toNat + i.toNat by omega]
              unfold upf cutv
              by_cases e : q = i.toNat
              · rw [if_pos (by omega), if_pos e]; repeat (first | rw [if_pos (by omega)] | rw [if_neg (by omega)])
              · rw [if_neg (by omega), if_neg e]; exact hit q hq
            · skip
              refine V.iload_n (pc := 74) 3 d_Mo_set_74 rfl rfl ?_
              refine V.i2s (pc := 75) d_Mo_set_75 ?_
              refine V.goto (tgt := 80) (pc := 76) d_Mo_set_76 (by decide) ?_
              refine V.istore (pc := 80) d_Mo_set_80 (Nat.le_of_ble_eq_true rfl) rfl ?_
              dsimp only [put]
              refine V.aload_n (pc := 82) 0 d_Mo_set_82 rfl rfl ?_
              refine V.getf (pc := 83) 2 cl_Mo fl_Mo_16_Mo d_Mo_set_83 (hM_o _) (Nat.le_of_ble_eq_true rfl) rfl ?_
              refine V.bipush (pc := 86) d_Mo_set_86 ⟨by decide, by decide⟩ ?_
              refine V.iload_n (pc := 88) 1 d_Mo_set_88 rfl rfl ?_
              refine V.imul (pc := 89) d_Mo_set_89 ⟨by omega, by omega⟩ ?_
              refine V.iload_n (pc := 90) 2 d_Mo_set_90 rfl rfl ?_
              refine V.iadd (pc := 91) d_Mo_set_91 ⟨by omega, by omega⟩ ?_
              refine V.iload (pc := 92) d_Mo_set_92 rfl ?_
              refine V.iast (pc := 94) d_Mo_set_94 (ar_item _).1 (by omega) (by omega) ?_
              rw [(ar_item _).2]
              refine V.aload_n (pc := 95) 0 d_Mo_set_95 rfl rfl ?_
              refine V.iload (pc := 96) d_Mo_set_96 rfl ?_
              refine V.cV1 (pc := 98) (kc2 := 0) (ks2 := 0) ml_Mo_117 (hM_o _) (ct_Mo_well _ _ _) d_Mo_set_98 (Nat.le_of_ble_eq_true rfl) (Nat.le_of_ble_eq_true rfl) (Nat.le_of_ble_eq_true rfl) (Nat.le_of_ble_eq_true rfl) ?_
              rintro _ _ _ ⟨rfl, rfl, rfl⟩
              dsimp only [Option.toList, List.cons_append, List.nil_append]
              refine V.ret (pc := 101) (r := some (vI _)) d_Mo_set_101 (Or.inl rfl) rfl ?_
              refine qs_of (S2 := sSh S sh.toNat (some (l, n, upf g i.toNat (cutv l v)))) (by unfold sp_set cutv; rw [if_pos (by omega)]; simp only [hS]; rw [if_pos (by omega)]; repeat (first | rw [if_pos (by omega)] | rw [if_neg (by omega)])) (RI.sh hI (R_sh_upd hI.1 (fun j hj hne => ⟨rfl, fun _ _ => ⟨rfl, fun q hq => upf_n (by omega)⟩⟩) ⟨hl1, hl2, hn1, hk, hn, fun q hq => ?_⟩) rfl (fun j h4 h10 => by rw [sset_n h10, sset_n (by omega)]))
              show upf (σ 2) (100 * sh + i).toNat _ (100 * sh.toNat + q) = _
              rw [show (100 * sh + i).toNat = 100 * sh.toNat + i.toNat by omega]
              unfold upf cutv
              by_cases e : q = i.toNat
              · rw [if_pos (by omega), if_pos e]; repeat (first | rw [if_pos (by omega)] | rw [if_neg (by omega)])
              · rw [if_neg (by omega), if_neg e]; exact hit q hq
          · skip
            refine V.iload_n (pc := 59) 3 d_Mo_set_59 rfl rfl ?_
            refine V.i2b (pc := 60) d_Mo_set_60 ?_
            refine V.goto (tgt := 80) (pc := 61) d_Mo_set_61 (by decide) ?_
            refine V.istore (pc := 80) d_Mo_set_80 (Nat.le_of_ble_eq_true rfl) rfl ?_
            dsimp only [put]
            refine V.aload_n (pc := 82) 0 d_Mo_set_82 rfl rfl ?_
            refine V.getf (pc := 83) 2 cl_Mo fl_Mo_16_Mo d_Mo_set_83 (hM_o _) (Nat.le_of_ble_eq_true rfl) rfl ?_
            refine V.bipush (pc := 86) d_Mo_set_86 ⟨by decide, by decide⟩ ?_
            refine V.iload_n (pc := 88) 1 d_Mo_set_88 rfl rfl ?_
            refine V.imul (pc := 89) d_Mo_set_89 ⟨by omega, by omega⟩ ?_
            refine V.iload_n (pc := 90) 2 d_Mo_set_90 rfl rfl ?_
            refine V.iadd (pc := 91) d_Mo_set_91 ⟨by omega, by omega⟩ ?_
            refine V.iload (pc := 92) d_Mo_set_92 rfl ?_
            refine V.iast (pc := 94) d_Mo_set_94 (ar_item _).1 (by omega) (by omega) ?_
            rw [(ar_item _).2]
            refine V.aload_n (pc := 95) 0 d_Mo_set_95 rfl rfl ?_
            refine V.iload (pc := 96) d_Mo_set_96 rfl ?_
            refine V.cV1 (pc := 98) (kc2 := 0) (ks2 := 0) ml_Mo_117 (hM_o _) (ct_Mo_well _ _ _) d_Mo_set_98 (Nat.le_of_ble_eq_true rfl) (Nat.le_of_ble_eq_true rfl) (Nat.le_of_ble_eq_true rfl) (Nat.le_of_ble_eq_true rfl) ?_
            rintro _ _ _ ⟨rfl, rfl, rfl⟩
            dsimp only [Option.toList, List.cons_append, List.nil_append]
            refine V.ret (pc := 101) (r := some (vI _)) d_Mo_set_101 (Or.inl rfl) rfl ?_
            refine qs_of (S2 := sSh S sh.toNat (some (l, n, upf g i.toNat (cutv l v)))) (by unfold sp_set cutv; rw [if_pos (by omega)]; simp only [hS]; rw [if_pos (by omega)]; repeat (first | rw [if_pos (by omega)] | rw [if_neg (by omega)])) (RI.sh hI (R_sh_upd hI.1 (fun j hj hne => ⟨rfl, fun _ _ => ⟨rfl, fun q hq => upf_n (by omega)⟩⟩) ⟨hl1, hl2, hn1, hk, hn, fun q hq => ?_⟩) rfl (fun j h4 h10 => by rw [sset_n h10, sset_n (by omega)]))
            show upf (σ 2) (100 * sh + i).toNat _ (100 * sh.toNat + q) = _
            rw [show (100 * sh + i).toNat = 100 * sh.toNat + i.toNat by omega]
            unfold upf cutv
            by_cases e : q = i.toNat
            · rw [if_pos (by omega), if_pos e]; repeat (first | rw [if_pos (by omega)] | rw [if_neg (by omega)])
            · rw [if_neg (by omega), if_neg e]; exact hit q hq
        · skip
          refine V.aload_n (pc := 43) 0 d_Mo_set_43 rfl rfl ?_
          refine V.iconst (pc := 44) d_Mo_set_44 ⟨by decide, by decide⟩ ?_
          refine V.cV1 (pc := 45) (kc2 := 0) (ks2 := 0) ml_Mo_113 (hM_o _) (ct_Mo_finds _ (by omega) _ _) d_Mo_set_45 (Nat.le_of_ble_eq_true rfl) (Nat.le_of_ble_eq_true rfl) (Nat.le_of_ble_eq_true rfl) (Nat.le_of_ble_eq_true rfl) ?_
          rintro _ _ _ ⟨rfl, rfl, rfl⟩
          dsimp only [Option.toList, List.cons_append, List.nil_append]
          first | rw [fi1] | rw [fi2] | rw [fi3] | rw [fi4] | rw [fi5]
          refine V.ret (pc := 48) (r := some (vI _)) d_Mo_set_48 (Or.inl rfl) rfl ?_
          exact qs_of (by unfold sp_set; rw [if_pos (by omega)]; simp only [hS]; repeat (first | rw [if_pos (by omega)] | rw [if_neg (by omega)]); try rfl) (hI.st 2)
      · skip
        exfalso; omega
  · skip
    refine V.ldc (pc := 7) (-1000001) ck_Mo_112 rfl ⟨by decide, by decide⟩ d_Mo_set_7 ?_
    refine V.ret (pc := 9) (r := some (vI _)) d_Mo_set_9 (Or.inl rfl) rfl ?_
    exact qs_of (by unfold sp_set; rw [if_neg (by omega)]) hI
theorem land_pr {kd : Int} {n : Nat} {a b : Nat → Int} (hw : wfT (kd, n, a, b)) (h : kd = 5 ∨ kd = 6) : arch a n ∧ arch b n := by
  obtain ⟨-, -, h3⟩ := hw
  rcases h3 with h3 | h3 | h3
  · have := h3.1; have := h3.2.1; omega
  · exact ⟨h3.2.2.2.1, h3.2.2.2.2.1⟩
  · have := h3.1; omega
theorem RI.lf {S : SS} {σ : SM} (hI : RI S σ) (f : Nat → Int) (x : Int) : RI (sSt S x) (sset (sset σ 14 f) 10 (fun _ => x)) := by
  obtain ⟨h1, h2, ⟨h3, h4⟩, h5⟩ := hI
  exact ⟨h1, h2, ⟨rfl, h4⟩, h5⟩
set_option maxRecDepth 20000 in
theorem cs_Mo_loops (S : SS) (σ : SM) (hI : RI S σ) (p q : Int) (sz : Nat) : Ct M_Mo_loops 2 0 0 (vR 8 :: [vI p, vI q]) (hM σ) sz (QS (sp_loops S p q) sz) := by
  refine Ct.of rfl (Nat.le_of_ble_eq_true rfl) ?_
  dsimp only [lsOf]
  refine V.iload_n (pc := 0) 1 d_Mo_loops_0 rfl rfl ?_
  refine V.cS1 (pc := 1) (kc2 := 0) (ks2 := 0) ml_Mo_152 (ct_Mo_isPlace _ _ _) d_Mo_loops_1 (Nat.le_of_ble_eq_true rfl) (Nat.le_of_ble_eq_true rfl) (Nat.le_of_ble_eq_true rfl) (Nat.le_of_ble_eq_true rfl) ?_
  rintro _ _ _ ⟨rfl, rfl, rfl⟩
  dsimp only [Option.toList, List.cons_append, List.nil_append]
  refine V.ifB_ne (tgt := 10) (pc := 4) d_Mo_loops_4 (by decide) (fun c_4 => ?_) (fun c_4 => ?_)
  · skip
    rcases th_cases hI.2.1 (show p.toNat < 10 by omega) with ⟨hS, hk⟩ | ⟨kd, n, a, b, hS, hone⟩
    rotate_left
    by_cases hof : isOf kd 5
    · skip
      obtain ⟨hw, hk, hn, h3, h4, h5, h6⟩ := id hone
      have hwk := wf_kind hw
      refine V.aload_n (pc := 10) 0 d_Mo_loops_10 rfl rfl ?_
      refine V.iload_n (pc := 11) 1 d_Mo_loops_11 rfl rfl ?_
      refine V.iconst (pc := 12) d_Mo_loops_12 ⟨by decide, by decide⟩ ?_
      refine V.cV2 (pc := 13) (kc2 := 0) (ks2 := 0) ml_Mo_165 (hM_o _) (refY (by omega) (by omega) (by rw [hk]; exact hof) _) d_Mo_loops_13 (Nat.le_of_ble_eq_true rfl) (Nat.le_of_ble_eq_true rfl) (Nat.le_of_ble_eq_true rfl) (Nat.le_of_ble_eq_true rfl) ?_
      rintro _ _ _ ⟨rfl, rfl, rfl⟩
      dsimp only [Option.toList, List.cons_append, List.nil_append]
      refine V.istore_n (pc := 16) 3 d_Mo_loops_16 rfl (Nat.le_of_ble_eq_true rfl) rfl ?_
      dsimp only [put]
      refine V.iload_n (pc := 17) 3 d_Mo_loops_17 rfl rfl ?_
      refine V.if_eq (tgt := 23) (pc := 18) d_Mo_loops_18 (by decide) (fun c_18 => ?_) (fun c_18 => ?_)
      · skip
        refine V.iload_n (pc := 23) 2 d_Mo_loops_23 rfl rfl ?_
        refine V.i2l (pc := 24) d_Mo_loops_24 ?_
        refine V.ldc2 (pc := 25) (-1) ck_Mo_211 rfl ⟨by decide, by decide⟩ d_Mo_loops_25 ?_
        refine V.iconst (pc := 28) d_Mo_loops_28 ⟨by decide, by decide⟩ ?_
        refine V.aload_n (pc := 29) 0 d_Mo_loops_29 rfl rfl ?_
        refine V.getf (pc := 30) 5 cl_Mo fl_Mo_25_Mo d_Mo_loops_30 (hM_o _) (Nat.le_of_ble_eq_true rfl) rfl ?_
        refine V.iload_n (pc := 33) 1 d_Mo_loops_33 rfl rfl ?_
        refine V.iald (pc := 34) d_Mo_loops_34 (ar_many _).1 (by omega) (by omega) ?_
        try simp (disch := omega) only [sset_n, sset_e]
        rw [hn]
        refine V.imul (pc := 35) d_Mo_loops_35 ⟨by omega, by omega⟩ ?_
        refine V.iconst (pc := 36) d_Mo_loops_36 ⟨by decide, by decide⟩ ?_
        refine V.isub (pc := 37) d_Mo_loops_37 ⟨by omega, by omega⟩ ?_
        refine V.i2l (pc := 38) d_Mo_loops_38 ?_
        refine V.cS3 (pc := 39) (kc2 := 0) (ks2 := 0) ml_Mo_102 (ct_Mo_in _ _ _ _ _) d_Mo_loops_39 (Nat.le_of_ble_eq_true rfl) (Nat.le_of_ble_eq_true rfl) (Nat.le_of_ble_eq_true rfl) (Nat.le_of_ble_eq_true rfl) ?_
        rintro _ _ _ ⟨rfl, rfl, rfl⟩
        dsimp only [Option.toList, List.cons_append, List.nil_append]
        refine V.ifB_ne (tgt := 48) (pc := 42) d_Mo_loops_42 (by decide) (fun c_42 => ?_) (fun c_42 => ?_)
        · skip
          obtain ⟨har, hbr⟩ := land_pr hw (by omega)
          refine V.aload_n (pc := 48) 0 d_Mo_loops_48 rfl rfl ?_
          refine V.iload_n (pc := 49) 1 d_Mo_loops_49 rfl rfl ?_
          refine V.cV1 (pc := 50) (kc2 := 0) (ks2 := 0) ml_Mo_141 (hM_o _) (ct_Mo_landLoops σ p.toNat n p (by omega) (by omega) hn (by omega) (pt a n) (pt b n) (fun q hq => h6 (by omega) (by omega) q hq) (fun q hq => (h5 (by omega) q hq).2) (PR_pt har) (PR_pt hbr) _) d_Mo_loops_50 (Nat.le_of_ble_eq_true rfl) (Nat.le_of_ble_eq_true rfl) (Nat.le_of_ble_eq_true rfl) (Nat.le_of_ble_eq_true rfl) ?_
          rintro _ _ _ ⟨rfl, fl, rfl, rfl, hfl⟩
          dsimp only [Option.toList, List.cons_append, List.nil_append]
          refine V.istore (pc := 53) d_Mo_loops_53 (Nat.le_of_ble_eq_true rfl) rfl ?_
          dsimp only [put]
          refine V.aload_n (pc := 55) 0 d_Mo_loops_55 rfl rfl ?_
          refine V.iload_n (pc := 56) 2 d_Mo_loops_56 rfl rfl ?_
          refine V.if_ge (tgt := 65) (pc := 57) d_Mo_loops_57 (by decide) (fun c_57 => ?_) (fun c_57 => ?_)
          · skip
            refine V.aload_n (pc := 65) 0 d_Mo_loops_65 rfl rfl ?_
            refine V.getf (pc := 66) 14 cl_Mo fl_Mo_46_Mo d_Mo_loops_66 (hM_o _) (Nat.le_of_ble_eq_true rfl) rfl ?_
            refine V.iload_n (pc := 69) 2 d_Mo_loops_69 rfl rfl ?_
            refine V.iald (pc := 70) d_Mo_loops_70 (ar_loopOf _).1 (by omega) (by omega) ?_
            try simp (disch := omega) only [sset_n, sset_e]
            refine V.cV1 (pc := 71) (kc2 := 0) (ks2 := 0) ml_Mo_117 (hM_o _) (ct_Mo_well _ _ _) d_Mo_loops_71 (Nat.le_of_ble_eq_true rfl) (Nat.le_of_ble_eq_true rfl) (Nat.le_of_ble_eq_true rfl) (Nat.le_of_ble_eq_true rfl) ?_
            rintro _ _ _ ⟨rfl, rfl, rfl⟩
            dsimp only [Option.toList, List.cons_append, List.nil_append]
            refine V.ret (pc := 74) (r := some (vI _)) d_Mo_loops_74 (Or.inl rfl) rfl ?_
            first
              | exact qs_of (by unfold sp_loops; rw [if_pos (by omega)]; simp only [hS]; rw [if_pos hof]; rw [if_pos (by omega)]; try rfl) (hI.lf fl 0)
              | (rw [hfl q.toNat (by omega)]; exact qs_of (by unfold sp_loops; rw [if_pos (by omega)]; simp only [hS]; rw [if_pos hof]; rw [if_neg (by omega)]; rw [if_pos (by omega)]; try rfl) (hI.lf fl 0))
          · skip
            refine V.iload (pc := 60) d_Mo_loops_60 rfl ?_
            refine V.goto (tgt := 71) (pc := 62) d_Mo_loops_62 (by decide) ?_
            refine V.cV1 (pc := 71) (kc2 := 0) (ks2 := 0) ml_Mo_117 (hM_o _) (ct_Mo_well _ _ _) d_Mo_loops_71 (Nat.le_of_ble_eq_true rfl) (Nat.le_of_ble_eq_true rfl) (Nat.le_of_ble_eq_true rfl) (Nat.le_of_ble_eq_true rfl) ?_
            rintro _ _ _ ⟨rfl, rfl, rfl⟩
            dsimp only [Option.toList, List.cons_append, List.nil_append]
            refine V.ret (pc := 74) (r := some (vI _)) d_Mo_loops_74 (Or.inl rfl) rfl ?_
            first
              | exact qs_of (by unfold sp_loops; rw [if_pos (by omega)]; simp only [hS]; rw [if_pos hof]; rw [if_pos (by omega)]; try rfl) (hI.lf fl 0)
              | (rw [hfl q.toNat (by omega)]; exact qs_of (by unfold sp_loops; rw [if_pos (by omega)]; simp only [hS]; rw [if_pos hof]; rw [if_neg (by omega)]; rw [if_pos (by omega)]; try rfl) (hI.lf fl 0))
        · skip
          refine V.ldc (pc := 45) (-1000001) ck_Mo_112 rfl ⟨by decide, by decide⟩ d_Mo_loops_45 ?_
          refine V.ret (pc := 47) (r := some (vI _)) d_Mo_loops_47 (Or.inl rfl) rfl ?_
          exact qs_of (by unfold sp_loops; rw [if_pos (by omega)]; simp only [hS]; rw [if_pos hof]; rw [if_neg (by omega)]; rw [if_neg (by omega)]; try rfl) hI
      · skip
        exact absurd rfl c_18
    · skip
      obtain ⟨hw, hk, hn, h3, h4, h5, h6⟩ := id hone
      have hwk := wf_kind hw
      refine V.aload_n (pc := 10) 0 d_Mo_loops_10 rfl rfl ?_
      refine V.iload_n (pc := 11) 1 d_Mo_loops_11 rfl rfl ?_
      refine V.iconst (pc := 12) d_Mo_loops_12 ⟨by decide, by decide⟩ ?_
      refine V.cV2 (pc := 13) (kc2 := 0) (ks2 := 0) ml_Mo_165 (hM_o _) (refK (by omega) (by omega) (by rw [hk]; exact hof) _) d_Mo_loops_13 (Nat.le_of_ble_eq_true rfl) (Nat.le_of_ble_eq_true rfl) (Nat.le_of_ble_eq_true rfl) (Nat.le_of_ble_eq_true rfl) ?_
      rintro _ _ _ ⟨rfl, rfl, rfl⟩
      dsimp only [Option.toList, List.cons_append, List.nil_append]
      refine V.istore_n (pc := 16) 3 d_Mo_loops_16 rfl (Nat.le_of_ble_eq_true rfl) rfl ?_
      dsimp only [put]
      refine V.iload_n (pc := 17) 3 d_Mo_loops_17 rfl rfl ?_
      refine V.if_eq (tgt := 23) (pc := 18) d_Mo_loops_18 (by decide) (fun c_18 => ?_) (fun c_18 => ?_)
      · skip
        exact absurd c_18 (by decide)
      · skip
        refine V.iload_n (pc := 21) 3 d_Mo_loops_21 rfl rfl ?_
        refine V.ret (pc := 22) (r := some (vI _)) d_Mo_loops_22 (Or.inl rfl) rfl ?_
        first
          | exact qs_of (by unfold sp_loops; rw [if_pos (by omega)]; simp only [hS]; try rfl) (hI.st 1)
          | exact qs_of (by unfold sp_loops; rw [if_pos (by omega)]; simp only [hS]; rw [if_neg hof]; try rfl) (hI.st 3)
    · skip
      refine V.aload_n (pc := 10) 0 d_Mo_loops_10 rfl rfl ?_
      refine V.iload_n (pc := 11) 1 d_Mo_loops_11 rfl rfl ?_
      refine V.iconst (pc := 12) d_Mo_loops_12 ⟨by decide, by decide⟩ ?_
      refine V.cV2 (pc := 13) (kc2 := 0) (ks2 := 0) ml_Mo_165 (hM_o _) (refN (by omega) hk _) d_Mo_loops_13 (Nat.le_of_ble_eq_true rfl) (Nat.le_of_ble_eq_true rfl) (Nat.le_of_ble_eq_true rfl) (Nat.le_of_ble_eq_true rfl) ?_
      rintro _ _ _ ⟨rfl, rfl, rfl⟩
      dsimp only [Option.toList, List.cons_append, List.nil_append]
      refine V.istore_n (pc := 16) 3 d_Mo_loops_16 rfl (Nat.le_of_ble_eq_true rfl) rfl ?_
      dsimp only [put]
      refine V.iload_n (pc := 17) 3 d_Mo_loops_17 rfl rfl ?_
      refine V.if_eq (tgt := 23) (pc := 18) d_Mo_loops_18 (by decide) (fun c_18 => ?_) (fun c_18 => ?_)
      · skip
        exact absurd c_18 (by decide)
      · skip
        refine V.iload_n (pc := 21) 3 d_Mo_loops_21 rfl rfl ?_
        refine V.ret (pc := 22) (r := some (vI _)) d_Mo_loops_22 (Or.inl rfl) rfl ?_
        first
          | exact qs_of (by unfold sp_loops; rw [if_pos (by omega)]; simp only [hS]; try rfl) (hI.st 1)
          | exact qs_of (by unfold sp_loops; rw [if_pos (by omega)]; simp only [hS]; rw [if_neg hof]; try rfl) (hI.st 3)
  · skip
    refine V.ldc (pc := 7) (-1000001) ck_Mo_112 rfl ⟨by decide, by decide⟩ d_Mo_loops_7 ?_
    refine V.ret (pc := 9) (r := some (vI _)) d_Mo_loops_9 (Or.inl rfl) rfl ?_
    exact qs_of (by unfold sp_loops; rw [if_neg (by omega)]) hI
