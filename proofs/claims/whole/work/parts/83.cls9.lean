/-! THE CLASS: calls, printed by wip/whole/gen/cls9.py -/
theorem Th.ob2 {h : MH} {a : Nat} {k : Int} {n : Nat} {s b : Nat → Int} (g : Th h a (k, n, s, b)) : 37 ≤ a ∧ ∃ (ci N : Nat) (T : u_T) (ty : Nat → FieldType) (fs : List MV), Cls ci (cnm k) T N ty ∧ h a = some (kO ci fs) ∧ FL "RiverRoad" 154 T 0 ∧ 0 < N ∧ fs[0]? = some (vI (n : Int)) := by
  obtain ⟨w, g⟩ := g
  rcases g with ⟨g1, g2, g3⟩ | g | g | g
  · have e : k = 1 := g1
    subst e
    exact ⟨g2, 3, 2, F_Row, t_Row, _, cl_Row, g3, fl_RR_154_Row, by decide, rfl⟩
  · obtain ⟨g1, g2, c, f, g3, g4, g5, g6⟩ := g
    exact ⟨g2, _, _, _, _, _, cl_rci g1, g4, fl_RR_154_Ar, by decide, rfl⟩
  · obtain ⟨g1, g2, o, u, c, ko, ku, l, g3, g4, g5, g6, g7, g8⟩ := g
    exact ⟨g2, _, _, _, _, _, cl_la g1, g6, fl_RR_154_La, by decide, rfl⟩
  · obtain ⟨g1, g2, bs, bp, st, ps, x, y, g3, g4, g5, g6, g7, g8⟩ := g
    exact ⟨g2, _, _, _, _, _, cl_st g1, g5, fl_RR_154_St, by decide, rfl⟩
/-- its KIND, told -/
theorem Th.told {h : MH} {a : Nat} {k : Int} {n : Nat} {s b : Nat → Int} (g : Th h a (k, n, s, b)) : ∃ (C : String) (M2 : MD) (ci N : Nat) (T : u_T) (ty : Nat → FieldType) (fs : List MV), LinkU "RiverRoad" 146 ⟨"RiverRoad$Thing", "told", "()I"⟩ "RiverRoad$Thing" C M2 0 ci N T ty ∧ h a = some (kO ci fs) ∧ ∀ h sz, Ct M2 0 0 0 [vR a] h sz (Det (some (vI k)) h sz) := by
  obtain ⟨w, g⟩ := g
  rcases g with ⟨g1, g2, g3⟩ | g | g | g
  · have e : k = 1 := g1
    subst e
    exact ⟨_, _, _, _, _, _, _, ml_RR_146_Row, g3, fun h sz => cc_Row_told a h sz⟩
  · obtain ⟨g1, g2, c, f, g3, g4, g5, g6⟩ := g
    have : k = 2 ∨ k = 3 ∨ k = 4 := by have : 2 ≤ k ∧ k ≤ 4 := g1; omega
    rcases this with rfl | rfl | rfl
    · exact ⟨_, _, _, _, _, _, _, ml_RR_146_Ar, g4, fun h sz => cc_Ar_told a h sz⟩
    · exact ⟨_, _, _, _, _, _, _, ml_RR_146_Ne, g4, fun h sz => cc_Ne_told a h sz⟩
    · exact ⟨_, _, _, _, _, _, _, ml_RR_146_Pe, g4, fun h sz => cc_Pe_told a h sz⟩
  · obtain ⟨g1, g2, o, u, c, ko, ku, l, g3, g4, g5, g6, g7, g8⟩ := g
    have : k = 5 ∨ k = 6 := g1
    rcases this with rfl | rfl
    · exact ⟨_, _, _, _, _, _, _, ml_RR_146_La, g6, fun h sz => cc_La_told a h sz⟩
    · exact ⟨_, _, _, _, _, _, _, ml_RR_146_Lo, g6, fun h sz => cc_Lo_told a h sz⟩
  · obtain ⟨g1, g2, bs, bp, st, ps, x, y, g3, g4, g5, g6, g7, g8⟩ := g
    have : k = 7 ∨ k = 8 := g1
    rcases this with rfl | rfl
    · exact ⟨_, _, _, _, _, _, _, ml_RR_146_St, g5, fun h sz => cc_St_told a h sz⟩
    · exact ⟨_, _, _, _, _, _, _, ml_RR_146_Fo, g5, fun h sz => cc_Fo_told a h sz⟩
def thB (k : Int) : Bool := caL.contains (cnm k, "RiverRoad$Thing")
theorem ins_th {k : Int} (hk : 1 ≤ k ∧ k ≤ 8) : (cnm k, "RiverRoad$Thing") ∈ caL := by
  have h : ∀ k : Fin 9, 1 ≤ k.val → thB (k.val : Int) = true := by decide +kernel
  have := h ⟨k.toNat, by omega⟩ (by show 1 ≤ k.toNat; omega)
  have e1 : ((k.toNat : Nat) : Int) = k := by omega
  simp only [e1] at this
  exact List.contains_iff_mem.mp this
theorem upq_id {g : Nat → Option Nat} {p : Nat} {v : Option Nat} (e : g p = v) : upq g p v = g := by
  funext q; unfold upq; split
  · rename_i z; rw [z, e]
  · rfl
theorem ups_id {α : Type} {f : Nat → Option α} {p : Nat} {v : Option α} (e : f p = v) : ups f p v = f := by
  funext q; unfold ups; split
  · rename_i z; rw [z, e]
  · rfl
set_option maxRecDepth 20000 in
theorem cc_RR_isOfKind (a : Nat) (k j : Int) (hj0 : 0 ≤ j ∧ j ≤ 8) (h : MH) (hth : (1 ≤ k ∧ k ≤ 8) ∧ ∃ (ci N : Nat) (T : u_T) (ty : Nat → FieldType) (fs : List MV), Cls ci (cnm k) T N ty ∧ h a = some (kO ci fs)) (sz : Nat) : Ct M_RR_isOfKind 0 0 0 [vR a, vI j] h sz (Det (some (vI (if isOf k j then 1 else 0))) h sz) := by
  refine Ct.of rfl (Nat.le_of_ble_eq_true rfl) ?_
  dsimp only [lsOf]
  obtain ⟨hk, ci, N, T, ty, fs, hC, hob⟩ := hth
  have hj : j = 0 ∨ j = 1 ∨ j = 2 ∨ j = 3 ∨ j = 4 ∨ j = 5 ∨ j = 6 ∨ j = 7 ∨ j = 8 := by omega
  by_cases hof : isOf k j
  · rcases hj with rfl | rfl | rfl | rfl | rfl | rfl | rfl | rfl | rfl
    skip
    · skip
      refine V.iload_n (pc := 0) 1 d_RR_isOfKind_0 rfl rfl ?_
      refine V.tswIn (pc := 1) (tgt := 48) d_RR_isOfKind_1 (by decide) (by decide) rfl (by decide) ?_
      refine V.aload_n (pc := 48) 0 d_RR_isOfKind_48 rfl rfl ?_
      refine V.ifnull (tgt := 56) (pc := 49) d_RR_isOfKind_49 (by decide) (fun c_49 => ?_) (fun a_49 c_49 => ?_)
      · skip
        cases c_49
      · skip
        refine V.iconst (pc := 52) d_RR_isOfKind_52 ⟨by decide, by decide⟩ ?_
        refine V.goto (tgt := 57) (pc := 53) d_RR_isOfKind_53 (by decide) ?_
        refine V.ret (pc := 57) (r := some (vI _)) d_RR_isOfKind_57 (Or.inr ⟨rfl, Or.inr rfl⟩) rfl ?_
        exact detT (by omega)
    · skip
      refine V.iload_n (pc := 0) 1 d_RR_isOfKind_0 rfl rfl ?_
      refine V.tswIn (pc := 1) (tgt := 58) d_RR_isOfKind_1 (by decide) (by decide) rfl (by decide) ?_
      refine V.aload_n (pc := 58) 0 d_RR_isOfKind_58 rfl rfl ?_
      refine V.instY (pc := 59) "RiverRoad$Row" hC (ins_y hk (by decide) hof) cl_RR_171 d_RR_isOfKind_59 hob ?_
      refine V.ret (pc := 62) (r := some (vI _)) d_RR_isOfKind_62 (Or.inr ⟨rfl, Or.inr rfl⟩) rfl ?_
      exact detT hof
    · skip
      refine V.iload_n (pc := 0) 1 d_RR_isOfKind_0 rfl rfl ?_
      refine V.tswIn (pc := 1) (tgt := 63) d_RR_isOfKind_1 (by decide) (by decide) rfl (by decide) ?_
      refine V.aload_n (pc := 63) 0 d_RR_isOfKind_63 rfl rfl ?_
      refine V.instY (pc := 64) "RiverRoad$Arches" hC (ins_y hk (by decide) hof) cl_RR_91 d_RR_isOfKind_64 hob ?_
      refine V.ret (pc := 67) (r := some (vI _)) d_RR_isOfKind_67 (Or.inr ⟨rfl, Or.inr rfl⟩) rfl ?_
      exact detT hof
    · skip
      refine V.iload_n (pc := 0) 1 d_RR_isOfKind_0 rfl rfl ?_
      refine V.tswIn (pc := 1) (tgt := 68) d_RR_isOfKind_1 (by decide) (by decide) rfl (by decide) ?_
      refine V.aload_n (pc := 68) 0 d_RR_isOfKind_68 rfl rfl ?_
      refine V.instY (pc := 69) "RiverRoad$Nest" hC (ins_y hk (by decide) hof) cl_RR_231 d_RR_isOfKind_69 hob ?_
      refine V.ret (pc := 72) (r := some (vI _)) d_RR_isOfKind_72 (Or.inr ⟨rfl, Or.inr rfl⟩) rfl ?_
      exact detT hof
    · skip
      refine V.iload_n (pc := 0) 1 d_RR_isOfKind_0 rfl rfl ?_
      refine V.tswIn (pc := 1) (tgt := 73) d_RR_isOfKind_1 (by decide) (by decide) rfl (by decide) ?_
      refine V.aload_n (pc := 73) 0 d_RR_isOfKind_73 rfl rfl ?_
      refine V.instY (pc := 74) "RiverRoad$Peaks" hC (ins_y hk (by decide) hof) cl_RR_233 d_RR_isOfKind_74 hob ?_
      refine V.ret (pc := 77) (r := some (vI _)) d_RR_isOfKind_77 (Or.inr ⟨rfl, Or.inr rfl⟩) rfl ?_
      exact detT hof
    · skip
      refine V.iload_n (pc := 0) 1 d_RR_isOfKind_0 rfl rfl ?_
      refine V.tswIn (pc := 1) (tgt := 78) d_RR_isOfKind_1 (by decide) (by decide) rfl (by decide) ?_
      refine V.aload_n (pc := 78) 0 d_RR_isOfKind_78 rfl rfl ?_
      refine V.instY (pc := 79) "RiverRoad$Land" hC (ins_y hk (by decide) hof) cl_RR_137 d_RR_isOfKind_79 hob ?_
      refine V.ret (pc := 82) (r := some (vI _)) d_RR_isOfKind_82 (Or.inr ⟨rfl, Or.inr rfl⟩) rfl ?_
      exact detT hof
    · skip
      refine V.iload_n (pc := 0) 1 d_RR_isOfKind_0 rfl rfl ?_
      refine V.tswIn (pc := 1) (tgt := 83) d_RR_isOfKind_1 (by decide) (by decide) rfl (by decide) ?_
      refine V.aload_n (pc := 83) 0 d_RR_isOfKind_83 rfl rfl ?_
      refine V.instY (pc := 84) "RiverRoad$Loop" hC (ins_y hk (by decide) hof) cl_RR_235 d_RR_isOfKind_84 hob ?_
      refine V.ret (pc := 87) (r := some (vI _)) d_RR_isOfKind_87 (Or.inr ⟨rfl, Or.inr rfl⟩) rfl ?_
      exact detT hof
    · skip
      refine V.iload_n (pc := 0) 1 d_RR_isOfKind_0 rfl rfl ?_
      refine V.tswIn (pc := 1) (tgt := 88) d_RR_isOfKind_1 (by decide) (by decide) rfl (by decide) ?_
      refine V.aload_n (pc := 88) 0 d_RR_isOfKind_88 rfl rfl ?_
      refine V.instY (pc := 89) "RiverRoad$Strip" hC (ins_y hk (by decide) hof) cl_RR_205 d_RR_isOfKind_89 hob ?_
      refine V.ret (pc := 92) (r := some (vI _)) d_RR_isOfKind_92 (Or.inr ⟨rfl, Or.inr rfl⟩) rfl ?_
      exact detT hof
    · skip
      refine V.iload_n (pc := 0) 1 d_RR_isOfKind_0 rfl rfl ?_
      refine V.tswOut (pc := 1) (tgt := 93) d_RR_isOfKind_1 (by decide) (by decide) ?_
      refine V.aload_n (pc := 93) 0 d_RR_isOfKind_93 rfl rfl ?_
      refine V.instY (pc := 94) "RiverRoad$Fold" hC (ins_y hk (by decide) hof) cl_RR_237 d_RR_isOfKind_94 hob ?_
      refine V.ret (pc := 97) (r := some (vI _)) d_RR_isOfKind_97 (Or.inr ⟨rfl, Or.inr rfl⟩) rfl ?_
      exact detT hof
  · rcases hj with rfl | rfl | rfl | rfl | rfl | rfl | rfl | rfl | rfl
    · exact absurd (Or.inr ⟨by omega, Or.inl rfl⟩) hof
    skip
    · skip
      refine V.iload_n (pc := 0) 1 d_RR_isOfKind_0 rfl rfl ?_
      refine V.tswIn (pc := 1) (tgt := 58) d_RR_isOfKind_1 (by decide) (by decide) rfl (by decide) ?_
      refine V.aload_n (pc := 58) 0 d_RR_isOfKind_58 rfl rfl ?_
      refine V.instNo (pc := 59) "RiverRoad$Row" hC (ins_n hk (by decide) hof) cl_RR_171 d_RR_isOfKind_59 hob ?_
      refine V.ret (pc := 62) (r := some (vI _)) d_RR_isOfKind_62 (Or.inr ⟨rfl, Or.inl rfl⟩) rfl ?_
      exact detF hof
    · skip
      refine V.iload_n (pc := 0) 1 d_RR_isOfKind_0 rfl rfl ?_
      refine V.tswIn (pc := 1) (tgt := 63) d_RR_isOfKind_1 (by decide) (by decide) rfl (by decide) ?_
      refine V.aload_n (pc := 63) 0 d_RR_isOfKind_63 rfl rfl ?_
      refine V.instNo (pc := 64) "RiverRoad$Arches" hC (ins_n hk (by decide) hof) cl_RR_91 d_RR_isOfKind_64 hob ?_
      refine V.ret (pc := 67) (r := some (vI _)) d_RR_isOfKind_67 (Or.inr ⟨rfl, Or.inl rfl⟩) rfl ?_
      exact detF hof
    · skip
      refine V.iload_n (pc := 0) 1 d_RR_isOfKind_0 rfl rfl ?_
      refine V.tswIn (pc := 1) (tgt := 68) d_RR_isOfKind_1 (by decide) (by decide) rfl (by decide) ?_
      refine V.aload_n (pc := 68) 0 d_RR_isOfKind_68 rfl rfl ?_
      refine V.instNo (pc := 69) "RiverRoad$Nest" hC (ins_n hk (by decide) hof) cl_RR_231 d_RR_isOfKind_69 hob ?_
      refine V.ret (pc := 72) (r := some (vI _)) d_RR_isOfKind_72 (Or.inr ⟨rfl, Or.inl rfl⟩) rfl ?_
      exact detF hof
    · skip
      refine V.iload_n (pc := 0) 1 d_RR_isOfKind_0 rfl rfl ?_
      refine V.tswIn (pc := 1) (tgt := 73) d_RR_isOfKind_1 (by decide) (by decide) rfl (by decide) ?_
      refine V.aload_n (pc := 73) 0 d_RR_isOfKind_73 rfl rfl ?_
      refine V.instNo (pc := 74) "RiverRoad$Peaks" hC (ins_n hk (by decide) hof) cl_RR_233 d_RR_isOfKind_74 hob ?_
      refine V.ret (pc := 77) (r := some (vI _)) d_RR_isOfKind_77 (Or.inr ⟨rfl, Or.inl rfl⟩) rfl ?_
      exact detF hof
    · skip
      refine V.iload_n (pc := 0) 1 d_RR_isOfKind_0 rfl rfl ?_
      refine V.tswIn (pc := 1) (tgt := 78) d_RR_isOfKind_1 (by decide) (by decide) rfl (by decide) ?_
      refine V.aload_n (pc := 78) 0 d_RR_isOfKind_78 rfl rfl ?_
      refine V.instNo (pc := 79) "RiverRoad$Land" hC (ins_n hk (by decide) hof) cl_RR_137 d_RR_isOfKind_79 hob ?_
      refine V.ret (pc := 82) (r := some (vI _)) d_RR_isOfKind_82 (Or.inr ⟨rfl, Or.inl rfl⟩) rfl ?_
      exact detF hof
    · skip
      refine V.iload_n (pc := 0) 1 d_RR_isOfKind_0 rfl rfl ?_
      refine V.tswIn (pc := 1) (tgt := 83) d_RR_isOfKind_1 (by decide) (by decide) rfl (by decide) ?_
      refine V.aload_n (pc := 83) 0 d_RR_isOfKind_83 rfl rfl ?_
      refine V.instNo (pc := 84) "RiverRoad$Loop" hC (ins_n hk (by decide) hof) cl_RR_235 d_RR_isOfKind_84 hob ?_
      refine V.ret (pc := 87) (r := some (vI _)) d_RR_isOfKind_87 (Or.inr ⟨rfl, Or.inl rfl⟩) rfl ?_
      exact detF hof
    · skip
      refine V.iload_n (pc := 0) 1 d_RR_isOfKind_0 rfl rfl ?_
      refine V.tswIn (pc := 1) (tgt := 88) d_RR_isOfKind_1 (by decide) (by decide) rfl (by decide) ?_
      refine V.aload_n (pc := 88) 0 d_RR_isOfKind_88 rfl rfl ?_
      refine V.instNo (pc := 89) "RiverRoad$Strip" hC (ins_n hk (by decide) hof) cl_RR_205 d_RR_isOfKind_89 hob ?_
      refine V.ret (pc := 92) (r := some (vI _)) d_RR_isOfKind_92 (Or.inr ⟨rfl, Or.inl rfl⟩) rfl ?_
      exact detF hof
    · skip
      refine V.iload_n (pc := 0) 1 d_RR_isOfKind_0 rfl rfl ?_
      refine V.tswOut (pc := 1) (tgt := 93) d_RR_isOfKind_1 (by decide) (by decide) ?_
      refine V.aload_n (pc := 93) 0 d_RR_isOfKind_93 rfl rfl ?_
      refine V.instNo (pc := 94) "RiverRoad$Fold" hC (ins_n hk (by decide) hof) cl_RR_237 d_RR_isOfKind_94 hob ?_
      refine V.ret (pc := 97) (r := some (vI _)) d_RR_isOfKind_97 (Or.inr ⟨rfl, Or.inl rfl⟩) rfl ?_
      exact detF hof
set_option maxRecDepth 20000 in
theorem cc_RR_isOfKindN (j : Int) (hj0 : 0 ≤ j ∧ j ≤ 8) (h : MH) (sz : Nat) : Ct M_RR_isOfKind 0 0 0 [vN, vI j] h sz (Det (some (vI 0)) h sz) := by
  refine Ct.of rfl (Nat.le_of_ble_eq_true rfl) ?_
  dsimp only [lsOf]
  have hj : j = 0 ∨ j = 1 ∨ j = 2 ∨ j = 3 ∨ j = 4 ∨ j = 5 ∨ j = 6 ∨ j = 7 ∨ j = 8 := by omega
  rcases hj with rfl | rfl | rfl | rfl | rfl | rfl | rfl | rfl | rfl
  · skip
    refine V.iload_n (pc := 0) 1 d_RR_isOfKind_0 rfl rfl ?_
    refine V.tswIn (pc := 1) (tgt := 48) d_RR_isOfKind_1 (by decide) (by decide) rfl (by decide) ?_
    refine V.aload_n (pc := 48) 0 d_RR_isOfKind_48 rfl rfl ?_
    refine V.ifnull (tgt := 56) (pc := 49) d_RR_isOfKind_49 (by decide) (fun c_49 => ?_) (fun a_49 c_49 => ?_)
    · skip
      refine V.iconst (pc := 56) d_RR_isOfKind_56 ⟨by decide, by decide⟩ ?_
      refine V.ret (pc := 57) (r := some (vI _)) d_RR_isOfKind_57 (Or.inr ⟨rfl, Or.inl rfl⟩) rfl ?_
      exact detR
    · skip
      cases c_49
  · skip
    refine V.iload_n (pc := 0) 1 d_RR_isOfKind_0 rfl rfl ?_
    refine V.tswIn (pc := 1) (tgt := 58) d_RR_isOfKind_1 (by decide) (by decide) rfl (by decide) ?_
    refine V.aload_n (pc := 58) 0 d_RR_isOfKind_58 rfl rfl ?_
    refine V.instN (pc := 59) d_RR_isOfKind_59 ?_
    refine V.ret (pc := 62) (r := some (vI _)) d_RR_isOfKind_62 (Or.inr ⟨rfl, Or.inl rfl⟩) rfl ?_
    exact detR
  · skip
    refine V.iload_n (pc := 0) 1 d_RR_isOfKind_0 rfl rfl ?_
    refine V.tswIn (pc := 1) (tgt := 63) d_RR_isOfKind_1 (by decide) (by decide) rfl (by decide) ?_
    refine V.aload_n (pc := 63) 0 d_RR_isOfKind_63 rfl rfl ?_
    refine V.instN (pc := 64) d_RR_isOfKind_64 ?_
    refine V.ret (pc := 67) (r := some (vI _)) d_RR_isOfKind_67 (Or.inr ⟨rfl, Or.inl rfl⟩) rfl ?_
    exact detR
  · skip
    refine V.iload_n (pc := 0) 1 d_RR_isOfKind_0 rfl rfl ?_
    refine V.tswIn (pc := 1) (tgt := 68) d_RR_isOfKind_1 (by decide) (by decide) rfl (by decide) ?_
    refine V.aload_n (pc := 68) 0 d_RR_isOfKind_68 rfl rfl ?_
    refine V.instN (pc := 69) d_RR_isOfKind_69 ?_
    refine V.ret (pc := 72) (r := some (vI _)) d_RR_isOfKind_72 (Or.inr ⟨rfl, Or.inl rfl⟩) rfl ?_
    exact detR
  · skip
    refine V.iload_n (pc := 0) 1 d_RR_isOfKind_0 rfl rfl ?_
    refine V.tswIn (pc := 1) (tgt := 73) d_RR_isOfKind_1 (by decide) (by decide) rfl (by decide) ?_
    refine V.aload_n (pc := 73) 0 d_RR_isOfKind_73 rfl rfl ?_
    refine V.instN (pc := 74) d_RR_isOfKind_74 ?_
    refine V.ret (pc := 77) (r := some (vI _)) d_RR_isOfKind_77 (Or.inr ⟨rfl, Or.inl rfl⟩) rfl ?_
    exact detR
  · skip
    refine V.iload_n (pc := 0) 1 d_RR_isOfKind_0 rfl rfl ?_
    refine V.tswIn (pc := 1) (tgt := 78) d_RR_isOfKind_1 (by decide) (by decide) rfl (by decide) ?_
    refine V.aload_n (pc := 78) 0 d_RR_isOfKind_78 rfl rfl ?_
    refine V.instN (pc := 79) d_RR_isOfKind_79 ?_
    refine V.ret (pc := 82) (r := some (vI _)) d_RR_isOfKind_82 (Or.inr ⟨rfl, Or.inl rfl⟩) rfl ?_
    exact detR
  · skip
    refine V.iload_n (pc := 0) 1 d_RR_isOfKind_0 rfl rfl ?_
    refine V.tswIn (pc := 1) (tgt := 83) d_RR_isOfKind_1 (by decide) (by decide) rfl (by decide) ?_
    refine V.aload_n (pc := 83) 0 d_RR_isOfKind_83 rfl rfl ?_
    refine V.instN (pc := 84) d_RR_isOfKind_84 ?_
    refine V.ret (pc := 87) (r := some (vI _)) d_RR_isOfKind_87 (Or.inr ⟨rfl, Or.inl rfl⟩) rfl ?_
    exact detR
  · skip
    refine V.iload_n (pc := 0) 1 d_RR_isOfKind_0 rfl rfl ?_
    refine V.tswIn (pc := 1) (tgt := 88) d_RR_isOfKind_1 (by decide) (by decide) rfl (by decide) ?_
    refine V.aload_n (pc := 88) 0 d_RR_isOfKind_88 rfl rfl ?_
    refine V.instN (pc := 89) d_RR_isOfKind_89 ?_
    refine V.ret (pc := 92) (r := some (vI _)) d_RR_isOfKind_92 (Or.inr ⟨rfl, Or.inl rfl⟩) rfl ?_
    exact detR
  · skip
    refine V.iload_n (pc := 0) 1 d_RR_isOfKind_0 rfl rfl ?_
    refine V.tswOut (pc := 1) (tgt := 93) d_RR_isOfKind_1 (by decide) (by decide) ?_
    refine V.aload_n (pc := 93) 0 d_RR_isOfKind_93 rfl rfl ?_
    refine V.instN (pc := 94) d_RR_isOfKind_94 ?_
    refine V.ret (pc := 97) (r := some (vI _)) d_RR_isOfKind_97 (Or.inr ⟨rfl, Or.inl rfl⟩) rfl ?_
    exact detR
def ckd (w : Int) : Int := if w = 1 then 0 else if w = 2 then 1 else if w = 3 then 5 else 7
set_option maxRecDepth 20000 in
theorem cc_RR_isCounted (a : Nat) (k j : Int) (hj0 : 1 ≤ j ∧ j ≤ 4) (h : MH) (hth : (1 ≤ k ∧ k ≤ 8) ∧ ∃ (ci N : Nat) (T : u_T) (ty : Nat → FieldType) (fs : List MV), Cls ci (cnm k) T N ty ∧ h a = some (kO ci fs)) (sz : Nat) : Ct M_RR_isCounted 0 0 0 [vR a, vI j] h sz (Det (some (vI (if isOf k (ckd j) then 1 else 0))) h sz) := by
  refine Ct.of rfl (Nat.le_of_ble_eq_true rfl) ?_
  dsimp only [lsOf]
  obtain ⟨hk, ci, N, T, ty, fs, hC, hob⟩ := hth
  have hj : j = 1 ∨ j = 2 ∨ j = 3 ∨ j = 4 := by omega
  rcases hj with rfl | rfl | rfl | rfl
  skip
  · skip
    refine V.iload_n (pc := 0) 1 d_RR_isCounted_0 rfl rfl ?_
    refine V.tswIn (pc := 1) (tgt := 28) d_RR_isCounted_1 (by decide) (by decide) rfl (by decide) ?_
    refine V.aload_n (pc := 28) 0 d_RR_isCounted_28 rfl rfl ?_
    refine V.ifnull (tgt := 36) (pc := 29) d_RR_isCounted_29 (by decide) (fun c_29 => ?_) (fun a_29 c_29 => ?_)
    · skip
      cases c_29
    · skip
      refine V.iconst (pc := 32) d_RR_isCounted_32 ⟨by decide, by decide⟩ ?_
      refine V.goto (tgt := 37) (pc := 33) d_RR_isCounted_33 (by decide) ?_
      refine V.ret (pc := 37) (r := some (vI _)) d_RR_isCounted_37 (Or.inr ⟨rfl, Or.inr rfl⟩) rfl ?_
      exact detT (by unfold ckd; rw [if_pos rfl]; omega)
  · have ej : ckd 2 = 1 := rfl
    rw [ej]
    by_cases hof : isOf k 1
    skip
    · skip
      refine V.iload_n (pc := 0) 1 d_RR_isCounted_0 rfl rfl ?_
      refine V.tswIn (pc := 1) (tgt := 38) d_RR_isCounted_1 (by decide) (by decide) rfl (by decide) ?_
      refine V.aload_n (pc := 38) 0 d_RR_isCounted_38 rfl rfl ?_
      refine V.instY (pc := 39) "RiverRoad$Row" hC (ins_y hk (by decide) hof) cl_RR_171 d_RR_isCounted_39 hob ?_
      refine V.ret (pc := 42) (r := some (vI _)) d_RR_isCounted_42 (Or.inr ⟨rfl, Or.inr rfl⟩) rfl ?_
      exact detT hof
    · skip
      refine V.iload_n (pc := 0) 1 d_RR_isCounted_0 rfl rfl ?_
      refine V.tswIn (pc := 1) (tgt := 38) d_RR_isCounted_1 (by decide) (by decide) rfl (by decide) ?_
      refine V.aload_n (pc := 38) 0 d_RR_isCounted_38 rfl rfl ?_
      refine V.instNo (pc := 39) "RiverRoad$Row" hC (ins_n hk (by decide) hof) cl_RR_171 d_RR_isCounted_39 hob ?_
      refine V.ret (pc := 42) (r := some (vI _)) d_RR_isCounted_42 (Or.inr ⟨rfl, Or.inl rfl⟩) rfl ?_
      exact detF hof
  · have ej : ckd 3 = 5 := rfl
    rw [ej]
    by_cases hof : isOf k 5
    skip
    · skip
      refine V.iload_n (pc := 0) 1 d_RR_isCounted_0 rfl rfl ?_
      refine V.tswIn (pc := 1) (tgt := 43) d_RR_isCounted_1 (by decide) (by decide) rfl (by decide) ?_
      refine V.aload_n (pc := 43) 0 d_RR_isCounted_43 rfl rfl ?_
      refine V.instY (pc := 44) "RiverRoad$Land" hC (ins_y hk (by decide) hof) cl_RR_137 d_RR_isCounted_44 hob ?_
      refine V.ret (pc := 47) (r := some (vI _)) d_RR_isCounted_47 (Or.inr ⟨rfl, Or.inr rfl⟩) rfl ?_
      exact detT hof
    · skip
      refine V.iload_n (pc := 0) 1 d_RR_isCounted_0 rfl rfl ?_
      refine V.tswIn (pc := 1) (tgt := 43) d_RR_isCounted_1 (by decide) (by decide) rfl (by decide) ?_
      refine V.aload_n (pc := 43) 0 d_RR_isCounted_43 rfl rfl ?_
      refine V.instNo (pc := 44) "RiverRoad$Land" hC (ins_n hk (by decide) hof) cl_RR_137 d_RR_isCounted_44 hob ?_
      refine V.ret (pc := 47) (r := some (vI _)) d_RR_isCounted_47 (Or.inr ⟨rfl, Or.inl rfl⟩) rfl ?_
      exact detF hof
  · have ej : ckd 4 = 7 := rfl
    rw [ej]
    by_cases hof : isOf k 7
    skip
    · skip
      refine V.iload_n (pc := 0) 1 d_RR_isCounted_0 rfl rfl ?_
      refine V.tswOut (pc := 1) (tgt := 48) d_RR_isCounted_1 (by decide) (by decide) ?_
      refine V.aload_n (pc := 48) 0 d_RR_isCounted_48 rfl rfl ?_
      refine V.instY (pc := 49) "RiverRoad$Strip" hC (ins_y hk (by decide) hof) cl_RR_205 d_RR_isCounted_49 hob ?_
      refine V.ret (pc := 52) (r := some (vI _)) d_RR_isCounted_52 (Or.inr ⟨rfl, Or.inr rfl⟩) rfl ?_
      exact detT hof
    · skip
      refine V.iload_n (pc := 0) 1 d_RR_isCounted_0 rfl rfl ?_
      refine V.tswOut (pc := 1) (tgt := 48) d_RR_isCounted_1 (by decide) (by decide) ?_
      refine V.aload_n (pc := 48) 0 d_RR_isCounted_48 rfl rfl ?_
      refine V.instNo (pc := 49) "RiverRoad$Strip" hC (ins_n hk (by decide) hof) cl_RR_205 d_RR_isCounted_49 hob ?_
      refine V.ret (pc := 52) (r := some (vI _)) d_RR_isCounted_52 (Or.inr ⟨rfl, Or.inl rfl⟩) rfl ?_
      exact detF hof
set_option maxRecDepth 20000 in
theorem cc_RR_isCountedN (j : Int) (hj0 : 1 ≤ j ∧ j ≤ 4) (h : MH) (sz : Nat) : Ct M_RR_isCounted 0 0 0 [vN, vI j] h sz (Det (some (vI 0)) h sz) := by
  refine Ct.of rfl (Nat.le_of_ble_eq_true rfl) ?_
  dsimp only [lsOf]
  have hj : j = 1 ∨ j = 2 ∨ j = 3 ∨ j = 4 := by omega
  rcases hj with rfl | rfl | rfl | rfl
  · skip
    refine V.iload_n (pc := 0) 1 d_RR_isCounted_0 rfl rfl ?_
    refine V.tswIn (pc := 1) (tgt := 28) d_RR_isCounted_1 (by decide) (by decide) rfl (by decide) ?_
    refine V.aload_n (pc := 28) 0 d_RR_isCounted_28 rfl rfl ?_
    refine V.ifnull (tgt := 36) (pc := 29) d_RR_isCounted_29 (by decide) (fun c_29 => ?_) (fun a_29 c_29 => ?_)
    · skip
      refine V.iconst (pc := 36) d_RR_isCounted_36 ⟨by decide, by decide⟩ ?_
      refine V.ret (pc := 37) (r := some (vI _)) d_RR_isCounted_37 (Or.inr ⟨rfl, Or.inl rfl⟩) rfl ?_
      exact detR
    · skip
      cases c_29
  · skip
    refine V.iload_n (pc := 0) 1 d_RR_isCounted_0 rfl rfl ?_
    refine V.tswIn (pc := 1) (tgt := 38) d_RR_isCounted_1 (by decide) (by decide) rfl (by decide) ?_
    refine V.aload_n (pc := 38) 0 d_RR_isCounted_38 rfl rfl ?_
    refine V.instN (pc := 39) d_RR_isCounted_39 ?_
    refine V.ret (pc := 42) (r := some (vI _)) d_RR_isCounted_42 (Or.inr ⟨rfl, Or.inl rfl⟩) rfl ?_
    exact detR
  · skip
    refine V.iload_n (pc := 0) 1 d_RR_isCounted_0 rfl rfl ?_
    refine V.tswIn (pc := 1) (tgt := 43) d_RR_isCounted_1 (by decide) (by decide) rfl (by decide) ?_
    refine V.aload_n (pc := 43) 0 d_RR_isCounted_43 rfl rfl ?_
    refine V.instN (pc := 44) d_RR_isCounted_44 ?_
    refine V.ret (pc := 47) (r := some (vI _)) d_RR_isCounted_47 (Or.inr ⟨rfl, Or.inl rfl⟩) rfl ?_
    exact detR
  · skip
    refine V.iload_n (pc := 0) 1 d_RR_isCounted_0 rfl rfl ?_
    refine V.tswOut (pc := 1) (tgt := 48) d_RR_isCounted_1 (by decide) (by decide) ?_
    refine V.aload_n (pc := 48) 0 d_RR_isCounted_48 rfl rfl ?_
    refine V.instN (pc := 49) d_RR_isCounted_49 ?_
    refine V.ret (pc := 52) (r := some (vI _)) d_RR_isCounted_52 (Or.inr ⟨rfl, Or.inl rfl⟩) rfl ?_
    exact detR
