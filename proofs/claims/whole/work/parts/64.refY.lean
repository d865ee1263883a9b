/-! THE REFERENCE: goThrough, folds, nthFold, printed by wip/whole/gen/refY.py -/
noncomputable def FLn (n : Nat) : List Nat := match n with
  | 1 => FL1
  | 2 => FL2
  | 3 => FL3
  | 4 => FL4
  | 5 => FL5
  | 6 => FL6
  | 7 => FL7
  | _ => FL8
def idP (n : Nat) : Nat := match n with
  | 1 => 0
  | 2 => 16
  | 3 => 528
  | 4 => 12816
  | 5 => 274960
  | 6 => 5517840
  | 7 => 106181136
  | _ => 1985229328
theorem FLn_ok {n : Nat} (h1 : 1 ≤ n) (h8 : n ≤ 8) : ∃ f, chk n f (idP n) (FLn n) = true := by
  match n, h1, h8 with
  | 1, _, _ => exact ⟨_, chk_1⟩
  | 2, _, _ => exact ⟨_, chk_2⟩
  | 3, _, _ => exact ⟨_, chk_3⟩
  | 4, _, _ => exact ⟨_, chk_4⟩
  | 5, _, _ => exact ⟨_, chk_5⟩
  | 6, _, _ => exact ⟨_, chk_6⟩
  | 7, _, _ => exact ⟨_, chk_7⟩
  | 8, _, _ => exact ⟨_, chk_8⟩
theorem FLn_len {n : Nat} (h1 : 1 ≤ n) (h8 : n ≤ 8) : ((FLn n).length : Int) = foldT n := by
  match n, h1, h8 with
  | 1, _, _ => decide +kernel
  | 2, _, _ => decide +kernel
  | 3, _, _ => decide +kernel
  | 4, _, _ => decide +kernel
  | 5, _, _ => decide +kernel
  | 6, _, _ => decide +kernel
  | 7, _, _ => decide +kernel
  | 8, _, _ => decide +kernel
theorem idP_dg {n k : Nat} (h1 : 1 ≤ n) (h8 : n ≤ 8) (hk : k < n) : dg (idP n) k = k := by
  have : ∀ n : Fin 9, 1 ≤ n.val → ∀ k : Fin 8, k.val < n.val → dg (idP n.val) k.val = k.val := by decide +kernel
  exact this ⟨n, by omega⟩ h1 ⟨k, by omega⟩ hk
theorem idP_perm {n : Nat} (h1 : 1 ≤ n) (h8 : n ≤ 8) : isPerm (dgI (idP n)) n := by
  refine ⟨fun k hk => ?_, fun j hj k hk e => ?_⟩
  · show 0 ≤ (dg (idP n) k : Int) ∧ (dg (idP n) k : Int) < n
    rw [idP_dg h1 h8 hk]; omega
  · have e2 : (dg (idP n) j : Int) = (dg (idP n) k : Int) := e
    rw [idP_dg h1 h8 hj, idP_dg h1 h8 hk] at e2; omega
def EG (σ τ : SM) : Prop := ∀ j, j ≠ 15 → j ≠ 16 → j ≠ 17 → j ≠ 33 → τ j = σ j
theorem EG.put {σ τ : SM} (h : EG σ τ) {k : Nat} (hk : k = 15 ∨ k = 16 ∨ k = 17 ∨ k = 33) (f : Nat → Int) : EG σ (sset τ k f) := fun j h1 h2 h3 h4 => (sset_n (by omega)).trans (h j h1 h2 h3 h4)
def QG (σ : SM) (n : Nat) (w : Int) (c : Nat) (L : List Nat) (sz : Nat) : QT := fun r h s => s = sz ∧ ∃ τ, h = hM τ ∧ EG σ τ ∧ ((∃ i : Nat, w = (c : Int) + i ∧ (∃ P, L[i]? = some P ∧ isPerm (dgI P) n ∧ fdK n P = true ∧ ∀ k, k < n → τ 33 k = (dg P k : Int)) ∧ r = some (vI (w + 1))) ∨ ((∀ i : Nat, w = (c : Int) + i → L.length ≤ i) ∧ r = some (vI ((c : Int) + L.length))))
set_option maxRecDepth 20000 in
theorem lp_Mo_goThrough (σ : SM) (n : Nat) (hn : 1 ≤ n ∧ n ≤ 8) (w : Int) (sz : Nat) : ∀ (f P : Nat) (L : List Nat) (c : Nat) (cc : Int) (τ : SM) {Q : QT}, chk n f P L = true → isPerm (dgI P) n → (∀ k, k < n → τ 33 k = (dg P k : Int)) → EG σ τ → (cc = c ∧ c + L.length < 100000) → (∀ r h s, QG σ n w c L sz r h s → Q r h s) →
    V M_Mo_goThrough 1 25 [some (vR 8), some (vI (n : Nat)), some (vI w), some (vI cc), some (vI 1)] [] (hM τ) sz 0 0 Q := by
  intro f
  induction f with
  | zero =>
    intro P L c cc τ Q hck
    cases hck
  | succ f ih =>
    intro P L c cc τ Q hck hpm ho hE hcc hQ
    obtain ⟨hcc, hcl⟩ := hcc
    refine V.iload (pc := 25) d_Mo_goThrough_25 rfl ?_
    refine V.if_eq (tgt := 65) (pc := 27) d_Mo_goThrough_27 (by decide) (fun c_27 => ?_) (fun c_27 => ?_)
    · exact absurd c_27 (by decide)
    · skip
      obtain ⟨M, hM1, hM2⟩ := chk_inv hck
      have hoq : ∀ q, q < n → (fun q => τ 33 (0 + q)) q = dgI P q := fun q hq => by
        show τ 33 (0 + q) = (dg P q : Int)
        rw [Nat.zero_add]; exact ho q hq
      have hpm2 : isPerm (fun q => τ 33 (0 + q)) n := perm_cong (fun q hq => (hoq q hq).symm) hpm
      have e0 : (vI 0 : MV) = vI ((0 : Nat) : Int) := rfl
      refine V.aload_n (pc := 30) 0 d_Mo_goThrough_30 rfl rfl ?_
      refine V.aload_n (pc := 31) 0 d_Mo_goThrough_31 rfl rfl ?_
      refine V.getf (pc := 32) 33 cl_Mo fl_Mo_92_Mo d_Mo_goThrough_32 (hM_o _) (Nat.le_of_ble_eq_true rfl) rfl ?_
      refine V.iconst (pc := 35) d_Mo_goThrough_35 ⟨by decide, by decide⟩ ?_
      refine V.iload_n (pc := 36) 1 d_Mo_goThrough_36 rfl rfl ?_
      rw [e0]
      refine V.cV3 (pc := 37) (kc2 := 0) (ks2 := 0) ml_Mo_144 (hM_o _) (ct_Mo_isFolding ar_order (by decide) τ _ 0 n rfl (by omega) (by omega) (by decide) hpm2 _) d_Mo_goThrough_37 (Nat.le_of_ble_eq_true rfl) (Nat.le_of_ble_eq_true rfl) (Nat.le_of_ble_eq_true rfl) (Nat.le_of_ble_eq_true rfl) ?_
      rintro r9 _ _ ⟨rfl, ps, u, v, rfl, hps, hfc, hr9⟩
      have hE2 := ((hE.put (k := 15) (by omega) ps).put (k := 16) (by omega) (fun _ => u)).put (k := 17) (by omega) (fun _ => v)
      have ho2 : ∀ k, k < n → sset (sset (sset τ 15 ps) 16 (fun _ => u)) 17 (fun _ => v) 33 k = (dg P k : Int) := fun k hk => by rw [sset_n (by decide), sset_n (by decide), sset_n (by decide)]; exact ho k hk
      generalize sset (sset (sset τ 15 ps) 16 (fun _ => u)) 17 (fun _ => v) = t2 at hE2 ho2 ⊢
      have hfd := fd_iff hn.2 hpm (pos_cong (fun q hq => hoq q hq) hps)
      rcases hr9 with ⟨rfl, hnc⟩ | ⟨rfl, hnc⟩
      · skip
        have hfT := hfd.mpr hnc
        have hL : L = P :: M := by
          rcases hM1 with q | q
          · exact q.2
          · rw [q.1] at hfT; cases hfT
        have hLl := congrArg List.length hL
        rw [List.length_cons] at hLl
        dsimp only [Option.toList, List.cons_append, List.nil_append]
        refine V.if_eq (tgt := 55) (pc := 40) d_Mo_goThrough_40 (by decide) (fun c_40 => ?_) (fun c_40 => ?_)
        · skip
          exact absurd c_40 (by decide)
        · skip
          refine V.iload_n (pc := 43) 3 d_Mo_goThrough_43 rfl rfl ?_
          refine V.iload_n (pc := 44) 2 d_Mo_goThrough_44 rfl rfl ?_
          refine V.icmp_ne (tgt := 52) (pc := 45) d_Mo_goThrough_45 (by decide) (fun c_45 => ?_) (fun c_45 => ?_)
          · skip
            refine V.iinc (pc := 52) d_Mo_goThrough_52 rfl ⟨by omega, by omega⟩ (Nat.le_of_ble_eq_true rfl) rfl ?_
            dsimp only [put]
            refine V.aload_n (pc := 55) 0 d_Mo_goThrough_55 rfl rfl ?_
            refine V.iload_n (pc := 56) 1 d_Mo_goThrough_56 rfl rfl ?_
            refine V.cV1 (pc := 57) (kc2 := 0) (ks2 := 0) ml_Mo_225 (hM_o _) (ct_Mo_nextOrder t2 n P hn ho2 _) d_Mo_goThrough_57 (Nat.le_of_ble_eq_true rfl) (Nat.le_of_ble_eq_true rfl) (Nat.le_of_ble_eq_true rfl) (Nat.le_of_ble_eq_true rfl) ?_
            rintro r8 h8 s8' ⟨rfl, hnx⟩
            rcases hnx with ⟨hz, rfl, rfl⟩ | ⟨hz, rfl, g, rfl, hg⟩
            · skip
              dsimp only [Option.toList, List.cons_append, List.nil_append]
              refine V.istore (pc := 60) d_Mo_goThrough_60 (Nat.le_of_ble_eq_true rfl) rfl ?_
              dsimp only [put]
              refine V.goto (tgt := 25) (pc := 62) d_Mo_goThrough_62 (by decide) ?_
              refine V.iload (pc := 25) d_Mo_goThrough_25 rfl ?_
              refine V.if_eq (tgt := 65) (pc := 27) d_Mo_goThrough_27 (by decide) (fun c_27 => ?_) (fun c_27 => ?_)
              · skip
                refine V.iload_n (pc := 65) 3 d_Mo_goThrough_65 rfl rfl ?_
                refine V.ret (pc := 66) (r := some (vI _)) d_Mo_goThrough_66 (Or.inl rfl) rfl ?_
                refine hQ _ _ _ ⟨rfl, t2, rfl, hE2, Or.inr ⟨fun i hi => ?_, ?_⟩⟩
                · rw [hL, (hM2.resolve_right (fun q => q.1 hz)).2]
                  show 1 ≤ i
                  omega
                · rw [hL, (hM2.resolve_right (fun q => q.1 hz)).2]
                  congr 2
                  show _ = (c : Int) + 1
                  omega
              · skip
                exact absurd rfl c_27
            · skip
              dsimp only [Option.toList, List.cons_append, List.nil_append]
              refine V.istore (pc := 60) d_Mo_goThrough_60 (Nat.le_of_ble_eq_true rfl) rfl ?_
              dsimp only [put]
              refine V.goto (tgt := 25) (pc := 62) d_Mo_goThrough_62 (by decide) ?_
              refine ih (nxK n P) M (c + 1) _ _ (hM2.resolve_left (fun q => hz q.1)).2 (perm_nx hn.2 hpm hz) (fun k hk => by rw [sset_e]; exact hg k hk) (hE2.put (k := 33) (by omega) g) (by omega) ?_
              rintro r h s ⟨rfl, t3, rfl, k1, k2⟩
              refine hQ _ _ _ ⟨rfl, t3, rfl, k1, ?_⟩
              rcases k2 with ⟨i, k3, ⟨P9, k4, k5⟩, k6⟩ | ⟨k3, k4⟩
              · exact Or.inl ⟨i + 1, by omega, ⟨P9, by rw [hL, List.getElem?_cons_succ]; exact k4, k5⟩, k6⟩
              · refine Or.inr ⟨fun i hi => ?_, by rw [k4, hL, List.length_cons]; congr 2; omega⟩
                rw [hL, List.length_cons]
                have := k3 (i - 1) (by omega)
                omega
          · skip
            refine V.iload_n (pc := 48) 3 d_Mo_goThrough_48 rfl rfl ?_
            refine V.iconst (pc := 49) d_Mo_goThrough_49 ⟨by decide, by decide⟩ ?_
            refine V.iadd (pc := 50) d_Mo_goThrough_50 ⟨by omega, by omega⟩ ?_
            refine V.ret (pc := 51) (r := some (vI _)) d_Mo_goThrough_51 (Or.inl rfl) rfl ?_
            refine hQ _ _ _ ⟨rfl, t2, rfl, hE2, Or.inl ⟨0, by omega, ⟨P, by rw [hL]; rfl, hpm, hfT, ho2⟩, by congr 2; omega⟩⟩
      · skip
        have hL : L = M := by
          rcases hM1 with q | q
          · exact absurd (hfd.mp q.1) hnc
          · exact q.2
        have hLl := congrArg List.length hL
        dsimp only [Option.toList, List.cons_append, List.nil_append]
        refine V.if_eq (tgt := 55) (pc := 40) d_Mo_goThrough_40 (by decide) (fun c_40 => ?_) (fun c_40 => ?_)
        · skip
          refine V.aload_n (pc := 55) 0 d_Mo_goThrough_55 rfl rfl ?_
          refine V.iload_n (pc := 56) 1 d_Mo_goThrough_56 rfl rfl ?_
          refine V.cV1 (pc := 57) (kc2 := 0) (ks2 := 0) ml_Mo_225 (hM_o _) (ct_Mo_nextOrder t2 n P hn ho2 _) d_Mo_goThrough_57 (Nat.le_of_ble_eq_true rfl) (Nat.le_of_ble_eq_true rfl) (Nat.le_of_ble_eq_true rfl) (Nat.le_of_ble_eq_true rfl) ?_
          rintro r8 h8 s8' ⟨rfl, hnx⟩
          rcases hnx with ⟨hz, rfl, rfl⟩ | ⟨hz, rfl, g, rfl, hg⟩
          · skip
            dsimp only [Option.toList, List.cons_append, List.nil_append]
            refine V.istore (pc := 60) d_Mo_goThrough_60 (Nat.le_of_ble_eq_true rfl) rfl ?_
            dsimp only [put]
            refine V.goto (tgt := 25) (pc := 62) d_Mo_goThrough_62 (by decide) ?_
            refine V.iload (pc := 25) d_Mo_goThrough_25 rfl ?_
            refine V.if_eq (tgt := 65) (pc := 27) d_Mo_goThrough_27 (by decide) (fun c_27 => ?_) (fun c_27 => ?_)
            · skip
              refine V.iload_n (pc := 65) 3 d_Mo_goThrough_65 rfl rfl ?_
              refine V.ret (pc := 66) (r := some (vI _)) d_Mo_goThrough_66 (Or.inl rfl) rfl ?_
              refine hQ _ _ _ ⟨rfl, t2, rfl, hE2, Or.inr ⟨fun i hi => ?_, ?_⟩⟩
              · rw [hL, (hM2.resolve_right (fun q => q.1 hz)).2]
                exact Nat.zero_le _
              · rw [hL, (hM2.resolve_right (fun q => q.1 hz)).2]
                rw [hcc]; rfl
            · skip
              exact absurd rfl c_27
          · skip
            dsimp only [Option.toList, List.cons_append, List.nil_append]
            refine V.istore (pc := 60) d_Mo_goThrough_60 (Nat.le_of_ble_eq_true rfl) rfl ?_
            dsimp only [put]
            refine V.goto (tgt := 25) (pc := 62) d_Mo_goThrough_62 (by decide) ?_
            refine ih (nxK n P) M c _ _ (hM2.resolve_left (fun q => hz q.1)).2 (perm_nx hn.2 hpm hz) (fun k hk => by rw [sset_e]; exact hg k hk) (hE2.put (k := 33) (by omega) g) (by omega) ?_
            rw [← hL]; exact hQ
        · skip
          exact absurd rfl c_40
theorem foldT_b {n : Nat} (h1 : 1 ≤ n) (h8 : n ≤ 8) : 1 ≤ foldT n ∧ foldT n ≤ 1392 := by
  have : ∀ n : Fin 9, 1 ≤ n.val → 1 ≤ foldT n.val ∧ foldT n.val ≤ 1392 := by decide +kernel
  exact this ⟨n, by omega⟩ h1
set_option maxRecDepth 20000 in
theorem lp_Mo_goFill (σ : SM) (n : Nat) (hn : 1 ≤ n ∧ n ≤ 8) (w : Int) (sz : Nat) : ∀ (c p : Nat) (kk : Int) (g : Nat → Int), p + c = n → kk = p → (∀ q, q < p → g q = (dg (idP n) q : Int)) →
    V M_Mo_goThrough 1 2 [some (vR 8), some (vI (n : Nat)), some (vI w), some (vI kk)] [] (hM (sset σ 33 g)) sz 0 0 (QG σ n w 0 (FLn n) sz) := by
  intro c
  induction c with
  | zero =>
    intro p kk g hc hkk hg
    refine V.iload_n (pc := 2) 3 d_Mo_goThrough_2 rfl rfl ?_
    refine V.iload_n (pc := 3) 1 d_Mo_goThrough_3 rfl rfl ?_
    refine V.icmp_ge (tgt := 20) (pc := 4) d_Mo_goThrough_4 (by decide) (fun c_4 => ?_) (fun c_4 => ?_)
    · skip
      refine V.iconst (pc := 20) d_Mo_goThrough_20 ⟨by decide, by decide⟩ ?_
      refine V.istore_n (pc := 21) 3 d_Mo_goThrough_21 rfl (Nat.le_of_ble_eq_true rfl) rfl ?_
      dsimp only [put]
      refine V.iconst (pc := 22) d_Mo_goThrough_22 ⟨by decide, by decide⟩ ?_
      refine V.istore (pc := 23) d_Mo_goThrough_23 (Nat.le_of_ble_eq_true rfl) rfl ?_
      dsimp only [put]
      obtain ⟨f, hf⟩ := FLn_ok hn.1 hn.2
      have hlen := FLn_len hn.1 hn.2
      have hfb := foldT_b hn.1 hn.2
      exact lp_Mo_goThrough σ n hn w _ f (idP n) (FLn n) 0 0 _ hf (idP_perm hn.1 hn.2) (fun k hk => by rw [sset_e]; exact hg k (by omega)) (EG.put (fun _ _ _ _ _ => rfl) (by omega) g) ⟨rfl, by omega⟩ (fun _ _ _ h => h)
    · skip
      exfalso; omega
  | succ c ih =>
    intro p kk g hc hkk hg
    refine V.iload_n (pc := 2) 3 d_Mo_goThrough_2 rfl rfl ?_
    refine V.iload_n (pc := 3) 1 d_Mo_goThrough_3 rfl rfl ?_
    refine V.icmp_ge (tgt := 20) (pc := 4) d_Mo_goThrough_4 (by decide) (fun c_4 => ?_) (fun c_4 => ?_)
    · skip
      exfalso; omega
    · skip
      refine V.aload_n (pc := 7) 0 d_Mo_goThrough_7 rfl rfl ?_
      refine V.getf (pc := 8) 33 cl_Mo fl_Mo_92_Mo d_Mo_goThrough_8 (hM_o _) (Nat.le_of_ble_eq_true rfl) rfl ?_
      refine V.iload_n (pc := 11) 3 d_Mo_goThrough_11 rfl rfl ?_
      refine V.iload_n (pc := 12) 3 d_Mo_goThrough_12 rfl rfl ?_
      refine V.iast (pc := 13) d_Mo_goThrough_13 (ar_order _).1 (by omega) (by omega) ?_
      rw [(ar_order _).2]
      refine V.iinc (pc := 14) d_Mo_goThrough_14 rfl ⟨by omega, by omega⟩ (Nat.le_of_ble_eq_true rfl) rfl ?_
      dsimp only [put]
      refine V.goto (tgt := 2) (pc := 17) d_Mo_goThrough_17 (by decide) ?_
      rw [sset_tw]
      refine ih (p + 1) _ _ (by omega) (by omega) (fun q hq => ?_)
      rw [show kk.toNat = p by omega]
      by_cases e : q = p
      · rw [e, upf_e, idP_dg hn.1 hn.2 (by omega)]; omega
      · rw [upf_n e]; exact hg q (by omega)
set_option maxRecDepth 20000 in
theorem ct_Mo_goThrough (σ : SM) (n : Nat) (hn : 1 ≤ n ∧ n ≤ 8) (w : Int) (sz : Nat) : Ct M_Mo_goThrough 1 0 0 [vR 8, vI (n : Nat), vI w] (hM σ) sz (QG σ n w 0 (FLn n) sz) := by
  refine Ct.of rfl (Nat.le_of_ble_eq_true rfl) ?_
  dsimp only [lsOf]
  refine V.iconst (pc := 0) d_Mo_goThrough_0 ⟨by decide, by decide⟩ ?_
  refine V.istore_n (pc := 1) 3 d_Mo_goThrough_1 rfl (Nat.le_of_ble_eq_true rfl) rfl ?_
  dsimp only [put]
  have e9 := fun s9 => lp_Mo_goFill σ n hn w s9 n 0 0 (σ 33) (by omega) rfl (fun q hq => by omega)
  rw [sset_id] at e9
  exact e9 _
