/-! THE LAW: its turns, printed by wip/whole/gen/law1.py -/
/-- the world of the law: the class's cells and the reference's -/
def hU (hA : MH) (σ : SM) : MH := fun a => match hA a with
  | some c => some c
  | none => hM σ a
def gap (hA : MH) : Prop := ∀ a, 8 ≤ a → a < 37 → hA a = none
theorem CI.gap {S : SS} {h : MH} (q : CI S h) : gap h := by
  obtain ⟨gs, gt, tr, en, fs, fp, -, c⟩ := q
  exact c.1
theorem hM_out {σ : SM} {a : Nat} (h : a < 8 ∨ 37 ≤ a) : hM σ a = none := by
  unfold hM
  split
  · rfl
  · exact List.getElem?_eq_none (show 29 ≤ a - 8 by omega)
theorem hM_in {σ : SM} {a : Nat} (h1 : 8 ≤ a) (h2 : a < 37) : ∃ c, hM σ a = some c := by
  unfold hM
  rw [if_neg (by omega)]
  have : a - 8 < (mcells σ).length := show a - 8 < 29 by omega
  exact ⟨_, List.getElem?_eq_getElem this⟩
theorem hU_A {hA : MH} {σ : SM} {a : Nat} {c : MC} (h : hA a = some c) : hU hA σ a = some c := by unfold hU; rw [h]
theorem hU_M {hA : MH} {σ : SM} (hg : gap hA) {a : Nat} {c : MC} (h : hM σ a = some c) : hU hA σ a = some c := by
  have : hA a = none := by
    by_cases e : 8 ≤ a ∧ a < 37
    · exact hg a e.1 e.2
    · rw [hM_out (by omega)] at h; cases h
  unfold hU; rw [this]; exact h
theorem hov_a {hA h2 : MH} {σ : SM} {sz : Nat} (hg : gap hA) (hg2 : gap h2) (hsz : 37 ≤ sz) : hov h2 (hU hA σ) hA sz = hU h2 σ := by
  funext a
  unfold hov
  show _ = (match h2 a with | some c => some c | none => hM σ a)
  cases e : h2 a with
  | some c => rfl
  | none =>
    simp only
    by_cases r : 8 ≤ a ∧ a < 37
    · rw [if_pos ⟨hg a r.1 r.2, by omega⟩]; unfold hU; rw [hg a r.1 r.2]
    · have z := hM_out (σ := σ) (a := a) (by omega)
      rw [z]
      split
      · rename_i q; unfold hU; rw [q.1]; exact z
      · rfl
theorem hov_b {hA : MH} {σ τ : SM} {sz : Nat} (hg : gap hA) (hfr : ∀ a c, hU hA σ a = some c → a < sz) : hov (hM τ) (hU hA σ) (hM σ) sz = hU hA τ := by
  funext a
  unfold hov
  by_cases r : 8 ≤ a ∧ a < 37
  · obtain ⟨c, hc⟩ := hM_in (σ := τ) r.1 r.2
    rw [hc]; exact (hU_M hg hc).symm
  · have z := hM_out (σ := σ) (a := a) (by omega)
    have z2 := hM_out (σ := τ) (a := a) (by omega)
    rw [z2]
    simp only
    have e2 : hU hA τ a = hA a := by unfold hU; rw [z2]; cases hA a <;> rfl
    have e1 : hU hA σ a = hA a := by unfold hU; rw [z]; cases hA a <;> rfl
    rw [e2, e1]
    split
    · rfl
    · rename_i q
      cases e : hA a with
      | none => rfl
      | some c => exact absurd ⟨z, hfr a c (by rw [e1]; exact e)⟩ q
section LAWC
variable {g : GS} {M : MD} {d pc : Nat} {ls : List (Option MV)} {st : List MV} {sz kc ks : Nat} {Q : QT} {hA : MH} {σ : SM} {S : SS}
theorem VL.cA {M2 : MD} {d2 mc ms kc2 ks2 index n : Nat} {Qc : QT} (as : List MV) (hL : LinkV M.1.cls index M2 n 0 7 F_RR t_RR) (hI : CI S hA) (hC : Ct M2 d2 mc ms (vR 0 :: as) hA sz Qc) (hn : as.length = n) (hsz : 37 ≤ sz) (hd : decode M.2.1 pc = .ok (.invokevirtual index, 3)) (hdd : d2 + 1 ≤ d) (h4 : st.length ≤ 4) (g1 : kc2 + mc ≤ kc) (g2 : ks2 + ms ≤ ks) (hg2 : ∀ r h2 s2, Qc r h2 s2 → gap h2) (kk : ∀ (r : Option MV) (h2 : MH) (sz2 : Nat), Qc r h2 sz2 → VL g M d (pc + 3) ls (r.toList ++ st) (hU h2 σ) sz2 kc2 ks2 Q) : VL g M d pc ls (as.reverse ++ vR 0 :: st) (hU hA σ) sz kc ks Q := by
  obtain ⟨gs, gt, tr, en, fs, fp, hB, hcc⟩ := id hI
  refine VL.call (st0 := as.reverse ++ vR 0 :: st) (hc := hA) (run_V (as := as) hC hL.1 hL.2.1 (hU_A hB.1) hL.2.2.1 hL.2.2.2.1 hL.2.2.2.2 hn hdd h4 hd) (fun a c z => hU_A z) (fun hst v hv => hst v (List.mem_append_right _ (List.mem_cons_of_mem _ hv))) g1 g2 (fun r h2 sz2 hq => ?_)
  rw [hov_a hI.gap (hg2 r h2 sz2 hq) hsz]
  exact kk r h2 sz2 hq
theorem VL.cB {M2 : MD} {d2 kc2 ks2 index n : Nat} {Qc : QT} (as : List MV) (hL : LinkV M.1.cls index M2 n 11 34 F_Mo t_Mo) (hI : gap hA) (hC : Ct M2 d2 0 0 (vR 8 :: as) (hM σ) sz Qc) (hn : as.length = n) (hd : decode M.2.1 pc = .ok (.invokevirtual index, 3)) (hdd : d2 + 1 ≤ d) (h4 : st.length ≤ 4) (g1 : kc2 ≤ kc) (g2 : ks2 ≤ ks) (hg2 : ∀ r h2 s2, Qc r h2 s2 → ∃ τ, h2 = hM τ) (kk : ∀ (r : Option MV) (τ : SM) (sz2 : Nat), Qc r (hM τ) sz2 → VL g M d (pc + 3) ls (r.toList ++ st) (hU hA τ) sz2 kc2 ks2 Q) : VL g M d pc ls (as.reverse ++ vR 8 :: st) (hU hA σ) sz kc ks Q := by
  refine VL.fresh (fun hfr => ?_)
  refine VL.call (st0 := as.reverse ++ vR 8 :: st) (hc := hM σ) (run_V (as := as) hC hL.1 hL.2.1 (hU_M hI (hM_o σ)) hL.2.2.1 hL.2.2.2.1 hL.2.2.2.2 hn hdd h4 hd) (fun a c z => hU_M hI z) (fun hst v hv => hst v (List.mem_append_right _ (List.mem_cons_of_mem _ hv))) g1 g2 (fun r h2 sz2 hq => ?_)
  obtain ⟨τ, rfl⟩ := hg2 r h2 sz2 hq
  rw [hov_b hI hfr]
  exact kk r τ sz2 hq
end LAWC
theorem gQCI {x : Int × SS} {sz : Nat} (r : Option MV) (h2 : MH) (s2 : Nat) (q : QCI x sz r h2 s2) : gap h2 := q.2.2.gap
theorem gQCL {x : Int × SS} {sz : Nat} (r : Option MV) (h2 : MH) (s2 : Nat) (q : QCL2 x sz r h2 s2) : gap h2 := q.2.2.gap
theorem gQCX {P : Int × SS → Prop} {sz : Nat} (r : Option MV) (h2 : MH) (s2 : Nat) (q : QCX P sz r h2 s2) : gap h2 := by
  obtain ⟨-, x, -, -, k⟩ := q; exact k.gap
theorem gQS {x : Int × SS} {sz : Nat} (r : Option MV) (h2 : MH) (s2 : Nat) (q : QS x sz r h2 s2) : ∃ τ, h2 = hM τ := by obtain ⟨-, -, τ, e, -⟩ := q; exact ⟨τ, e⟩
theorem gQSL {x : Int × SS} {sz : Nat} (r : Option MV) (h2 : MH) (s2 : Nat) (q : QSL x sz r h2 s2) : ∃ τ, h2 = hM τ := by obtain ⟨-, -, τ, e, -⟩ := q; exact ⟨τ, e⟩
theorem gQX {P : Int × SS → Prop} {sz : Nat} (r : Option MV) (h2 : MH) (s2 : Nat) (q : QX P sz r h2 s2) : ∃ τ, h2 = hM τ := by obtain ⟨-, x, -, -, τ, e, -⟩ := q; exact ⟨τ, e⟩
theorem hM_RI {S : SS} {τ τ2 : SM} (e : hM τ = hM τ2) : (∀ a, hM τ a = hM τ2 a) := fun a => by rw [e]
theorem strip_one {S : SS} {pl sh i n : Int} {x y : Int × SS} (hx : sp_strip S pl sh i n x) (hy : sp_strip S pl sh i n y) : x = y := by
  unfold sp_strip at hx hy
  split at hx
  · rename_i c; rw [if_pos c] at hy
    cases e : S.1 sh.toNat with
    | none => rw [e] at hx hy; exact hx.trans hy.symm
    | some T =>
      obtain ⟨l, m, f⟩ := T
      rw [e] at hx hy
      simp only at hx hy
      split at hx
      · rename_i c2; rw [if_pos c2] at hy
        split at hx
        · rename_i c3; rw [if_pos c3] at hy
          obtain ⟨k, hk, rfl⟩ := hx
          obtain ⟨k2, hk2, rfl⟩ := hy
          have : k = k2 := by
            by_cases z : ∃ ps, isPos (fun q => f (i.toNat + q)) ps n.toNat ∧ noClash ps n.toNat
            · rw [hk.2.mpr z, hk2.2.mpr z]
            · have a1 : k ≠ 8 := fun w => z (hk.2.mp w)
              have a2 : k2 ≠ 8 := fun w => z (hk2.2.mp w)
              have b1 := hk.1
              have b2 := hk2.1
              omega
          rw [this]
        · rename_i c3; rw [if_neg c3] at hy; exact hx.trans hy.symm
      · rename_i c2; rw [if_neg c2] at hy; exact hx.trans hy.symm
  · rename_i c; rw [if_neg c] at hy; exact hx.trans hy.symm
