/-! RULES: super.m(..), of the superclass or of the one above it -/
theorem sub_of {vm : Vm} {a b : ClassId} {k : Class} (h1 : vm.classes[a]? = some k) (h2 : a = b ∨ k.super = some b) : vm.isSubclass a b = true := by
  have hpos : 0 < vm.classes.size := Nat.lt_of_le_of_lt (Nat.zero_le _) (Array.getElem?_eq_some_iff.mp h1).1
  obtain ⟨n, hn⟩ : ∃ n, vm.classes.size = n + 1 := ⟨vm.classes.size - 1, by omega⟩
  unfold Vm.isSubclass
  rw [hn]
  rcases h2 with rfl | h2
  · simp [Vm.isSubclassAux]
  · simp [Vm.isSubclassAux, h1, h2]
section SUP
variable {M : MD} {d pc : Nat} {ls : List (Option MV)} {st : List MV} {h : MH} {sz kc ks : Nat} {Q : QT}
theorem run_SU {M2 : MD} {d2 mc ms n index b ci N : Nat} {C owner : String} {T : u_T} {ty : Nat → FieldType} {fs : List MV} {as : List MV} {hc : MH} {Qc : QT} (x : MethodName) (hC : Ct M2 d2 mc ms (vR b :: as) hc sz Qc) (ho : MOK M2 n) (hcl : Cls ci C T N ty) (hbo : h b = some (kO ci fs)) (hm2 : M2.1 = ⟨owner, x.name, x.desc⟩) (hno : x.name ≠ "<init>") (hw1 : Cond.methodLink M.1.cls index x ∈ lw_tbl) (hw4 : Cond.sameMethod x.cls owner x.name x.desc ∈ lw_tbl) (hw5 : Cond.superclass M.1.cls x.cls ∈ lw_tbl) (hw6 : x.cls = owner ∨ Cond.superclass x.cls owner ∈ lw_tbl) (hw2 : Cond.instanceMethod M2.1 ∈ lw_tbl) (hn : as.length = n) (hdd : d2 + 1 ≤ d) (h4 : st.length ≤ 4) (hd : decode M.2.1 pc = .ok (.invokespecial index, 3)) : RunC M d pc (as.reverse ++ vR b :: st) st h sz hc mc ms Qc := by
  intro p l e R s m args below meth c E F H locs cells slots lv hB hSF hFF hrm hR hRc hS hlv hok hc1 hc2
  obtain ⟨hx, hb, hml, hown⟩ := hB
  have hoka : ∀ v ∈ vR b :: as, okV v := fun v hv => by
    rcases List.mem_cons.mp hv with rfl | hv
    · trivial
    · exact hok v (List.mem_append_left _ (List.mem_reverse.mpr hv))
  have ho5 := ho.2.2.2.2
  refine ⟨((vR b :: as).map (cv E)).toArray, ?_⟩
  have hini : (Cond.initialized M2.1.cls).before args s = true := hSF.w ho.2.1 rfl args
  have hK : Back l R p e below s args M2.1 3 8 (PreOf R mc ms (cPre E (vR b :: as) hc sz)) (PostOf (cPost E hc sz Qc) mc ms (FR E hc sz)) := back_of (bytes := M2.2.1) (maxL := M2.2.2.1) (ret := M2.2.2.2) (hC l E) (cPre_blind E (vR b :: as) hc sz) rfl rfl (by show d2 + 1 ≤ R.frames; omega) (by show 8 + (M2.2.2.1 + 11) + 40 * d2 ≤ R.locals; omega) (code_good hSF ho) (List.mem_singleton.mpr rfl) (fun a' U hW => word_at hW (Or.inl rfl) hini)
  obtain ⟨mk, methM, hnamed, hmethM, hstM, habM⟩ := Cond.instanceMethod_spec (hSF.w hw2 rfl args)
  obtain ⟨methM', cM, hmethM', -, -, -, -, -, -, hsigM⟩ := Cond.code_spec hnamed (hSF.w ho.1 rfl args)
  cases hmethM.symm.trans hmethM'
  obtain ⟨ps, dk, kp, hps, hdk, hkp, hsuper, -, -, hnid⟩ := Cond.superclass_spec hown (hSF.w hw5 rfl args)
  have hnm2 : s.methodNamed? ⟨owner, x.name, x.desc⟩ = some mk := by rw [← hm2]; exact hnamed
  have hcown : s.vm.findClass owner = some mk.cls := findClass_of_methodNamed hnm2
  have hsub : s.vm.isSubclass ps mk.cls = true := by
    refine sub_of hkp ?_
    rcases hw6 with e6 | hw6
    · left
      rw [← e6] at hcown
      exact Option.some.inj (hps.symm.trans hcown)
    · right
      obtain ⟨ps2, dk2, kp2, hps2, hdk2, hkp2, hsuper2, -⟩ := Cond.superclass_spec hps (hSF.w hw6 rfl args)
      cases hkp.symm.trans hdk2
      rw [hsuper2]
      exact congrArg some (Option.some.inj (hps2.symm.trans hcown))
  obtain ⟨cellB, hcB, hoB, hclB⟩ := recv hSF hR hcl hbo
  obtain ⟨kB, hkB, -⟩ := (hSF.1.1 ci _ hcl.1).2.2
  have hkB2 : s.vm.classes[cellB.cls]? = some kB := by
    have e9 : E.1.1 ci = cellB.cls := Option.some.inj ((hSF.1.1 ci _ hcl.1).2.1.symm.trans hclB)
    rw [← e9]; exact hkB
  have hlen : (as.map (cv E)).length = methM.sig.parameters.length := by
    rw [List.length_map, hn]
    exact ho.len _ hsigM
  intro T9 hT X
  obtain ⟨vm₁, X₁, hstep₁⟩ := X.invokespecialUp hx hown (hSF.w hw1 rfl args) (hSF.w hw4 rfl args) hnm2 hmethM hstM habM hno hdk hnid hps hsuper hsub (a := eb E + b) (cell := cellB) (by rw [hT]; exact hcB)
    (fun z q => by rw [q] at hoB; cases hoB) hkB2 (g := F0 m pc lv ((as.reverse ++ vR b :: st).map (cv E))) rfl (argsL := as.map (cv E)) (rest := st.map (cv E)) hlen (by show (as.reverse ++ vR b :: st).map (cv E) = _; rw [List.map_append, List.map_reverse]; rfl) (by rw [hb]; exact hd)
  have hpre : PreOf R mc ms (cPre E (vR b :: as) hc sz) ⟨T9.setVm vm₁, locs, cells, slots⟩ (Value.ref (eb E + b) :: as.map (cv E)).toArray := ⟨hc1, hc2, pre_of (U := T9.setVm vm₁) hSF hFF hRc hS hoka hT X₁.warmed⟩
  obtain ⟨v, B, X', hpost, hsteps⟩ := hK m meth c ⟨T9.setVm vm₁, locs, cells, slots⟩ { F0 m pc lv ((as.reverse ++ vR b :: st).map (cv E)) with stack := st.map (cv E) } (.invokespecial index) mk (Value.ref (eb E + b) :: as.map (cv E)).toArray X₁ rfl (by rw [hml]; exact hlv) (by rw [hb]; exact hd) (lroom (E := E) (st0 := st) st h4) (X₁.named hnamed) hpre
  obtain ⟨U', l2, c2, s2⟩ := B
  obtain ⟨g', mk', t, L, e1, e2, hq, q1, hL, q2, q3⟩ := hpost
  dsimp only [Pt.U, Pt.locs, Pt.cells, Pt.slots] at X' e1 e2 q1 q2 q3 hsteps
  subst q1; subst q2; subst q3
  exact ⟨v, (T9.setVm vm₁).calling g' mk' _, t, U', L, hT, X', hL, e1, e2, hq, fun target ht => hstep₁ _ (by rw [doInvoke_state]; exact hsteps.trans ht)⟩
end SUP
