/-! THE REFERENCE: its making, printed by wip/whole/gen/refi.py -/
/-- the reference while it is made: its fields, its arrays -/
def hP (fs : List MV) (cs : List MC) : MH := fun a => if a < 8 then none else (kO 11 fs :: cs)[a - 8]?
theorem hP_o (fs : List MV) (cs : List MC) : hP fs cs 8 = some (kO 11 fs) := rfl
theorem hP_new {fs : List MV} {cs : List MC} {s : Nat} (c : MC) (hs : s = 9 + cs.length) : hset (hP fs cs) s c = hP fs (cs ++ [c]) := by
  funext a
  unfold hset hP
  by_cases e : a = s
  · rw [if_pos e, if_neg (by omega), ← List.cons_append, show a - 8 = (kO 11 fs :: cs).length by rw [List.length_cons]; omega, List.getElem?_concat_length]
  · rw [if_neg e]
    split
    · rfl
    · rw [← List.cons_append]
      by_cases e2 : a - 8 < (kO 11 fs :: cs).length
      · rw [List.getElem?_append_left e2]
      · rw [List.length_cons] at e2
        rw [List.getElem?_eq_none (by rw [List.length_cons]; omega), List.getElem?_eq_none (by rw [List.length_append, List.length_cons, List.length_singleton]; omega)]
theorem hP_put {fs fs2 : List MV} {cs : List MC} : hset (hP fs cs) 8 (kO 11 fs2) = hP fs2 cs := by
  funext a
  unfold hset hP
  by_cases e : a = 8
  · rw [e, if_pos rfl]; rfl
  · rw [if_neg e]
    split
    · rfl
    · obtain ⟨b, hb⟩ : ∃ b, a - 8 = b + 1 := ⟨a - 9, by omega⟩
      rw [hb]; rfl
theorem V.heq {M : MD} {d pc : Nat} {ls : List (Option MV)} {st : List MV} {h h2 : MH} {sz kc ks : Nat} {Q : QT} (e : h = h2) (k : V M d pc ls st h2 sz kc ks Q) : V M d pc ls st h sz kc ks Q := by rw [e]; exact k
def mo0 : List MV := vN :: vN :: vN :: vN :: vN :: vN :: vN :: vN :: vN :: vN :: vI 0 :: vN :: vI 0 :: vN :: vN :: vN :: vI 0 :: vI 0 :: vN :: vN :: vI 0 :: vN :: vN :: vI 0 :: vN :: vN :: vN :: vN :: vN :: vN :: vN :: vN :: vN :: vN :: []
def σ0 : SM := fun _ _ => 0
set_option maxRecDepth 40000 in
theorem ct_Mo_init : Ct M_Mo_init 2 28 13225 [vR 8] (hP mo0 []) 9 (Det none (hM σ0) 37) := by
  refine Ct.of rfl (Nat.le_of_ble_eq_true rfl) ?_
  dsimp only [lsOf]
  unfold mo0
  refine V.aload_n (pc := 0) 0 d_Mo_init_0 rfl rfl ?_
  refine V.objInit (pc := 1) ml_Mo_1 (Nat.le_of_ble_eq_true rfl) (Nat.le_of_ble_eq_true rfl) d_Mo_init_1 ?_
  refine V.aload_n (pc := 4) 0 d_Mo_init_4 rfl rfl ?_
  refine V.bipush (pc := 5) d_Mo_init_5 ⟨by decide, by decide⟩ ?_
  refine V.newi (pc := 7) 0 (kc2 := 27) (ks2 := 13217) d_Mo_init_7 (by decide) (by decide) (Nat.le_of_ble_eq_true rfl) (Nat.le_of_ble_eq_true rfl) ?_
  refine V.heq (hP_new _ rfl) ?_
  dsimp only [List.cons_append, List.nil_append]
  refine V.putF (pc := 9) 0 cl_Mo fl_Mo_7_Mo d_Mo_init_9 (hP_o _ _) (Nat.le_of_ble_eq_true rfl) (Nat.le_of_ble_eq_true rfl) rfl rfl rfl (fun _ => ⟨rfl, rfl⟩) ?_
  refine V.heq hP_put ?_
  dsimp only [List.set]
  refine V.aload_n (pc := 12) 0 d_Mo_init_12 rfl rfl ?_
  refine V.bipush (pc := 13) d_Mo_init_13 ⟨by decide, by decide⟩ ?_
  refine V.newi (pc := 15) 0 (kc2 := 26) (ks2 := 13209) d_Mo_init_15 (by decide) (by decide) (Nat.le_of_ble_eq_true rfl) (Nat.le_of_ble_eq_true rfl) ?_
  refine V.heq (hP_new _ rfl) ?_
  dsimp only [List.cons_append, List.nil_append]
  refine V.putF (pc := 17) 1 cl_Mo fl_Mo_13_Mo d_Mo_init_17 (hP_o _ _) (Nat.le_of_ble_eq_true rfl) (Nat.le_of_ble_eq_true rfl) rfl rfl rfl (fun _ => ⟨rfl, rfl⟩) ?_
  refine V.heq hP_put ?_
  dsimp only [List.set]
  refine V.aload_n (pc := 20) 0 d_Mo_init_20 rfl rfl ?_
  refine V.sipush (pc := 21) d_Mo_init_21 ⟨by decide, by decide⟩ ?_
  refine V.newi (pc := 24) 0 (kc2 := 25) (ks2 := 12409) d_Mo_init_24 (by decide) (by decide) (Nat.le_of_ble_eq_true rfl) (Nat.le_of_ble_eq_true rfl) ?_
  refine V.heq (hP_new _ rfl) ?_
  dsimp only [List.cons_append, List.nil_append]
  refine V.putF (pc := 26) 2 cl_Mo fl_Mo_16_Mo d_Mo_init_26 (hP_o _ _) (Nat.le_of_ble_eq_true rfl) (Nat.le_of_ble_eq_true rfl) rfl rfl rfl (fun _ => ⟨rfl, rfl⟩) ?_
  refine V.heq hP_put ?_
  dsimp only [List.set]
  refine V.aload_n (pc := 29) 0 d_Mo_init_29 rfl rfl ?_
  refine V.bipush (pc := 30) d_Mo_init_30 ⟨by decide, by decide⟩ ?_
  refine V.newi (pc := 32) 0 (kc2 := 24) (ks2 := 12309) d_Mo_init_32 (by decide) (by decide) (Nat.le_of_ble_eq_true rfl) (Nat.le_of_ble_eq_true rfl) ?_
  refine V.heq (hP_new _ rfl) ?_
  dsimp only [List.cons_append, List.nil_append]
  refine V.putF (pc := 34) 3 cl_Mo fl_Mo_19_Mo d_Mo_init_34 (hP_o _ _) (Nat.le_of_ble_eq_true rfl) (Nat.le_of_ble_eq_true rfl) rfl rfl rfl (fun _ => ⟨rfl, rfl⟩) ?_
  refine V.heq hP_put ?_
  dsimp only [List.set]
  refine V.aload_n (pc := 37) 0 d_Mo_init_37 rfl rfl ?_
  refine V.bipush (pc := 38) d_Mo_init_38 ⟨by decide, by decide⟩ ?_
  refine V.newi (pc := 40) 0 (kc2 := 23) (ks2 := 12298) d_Mo_init_40 (by decide) (by decide) (Nat.le_of_ble_eq_true rfl) (Nat.le_of_ble_eq_true rfl) ?_
  refine V.heq (hP_new _ rfl) ?_
  dsimp only [List.cons_append, List.nil_append]
  refine V.putF (pc := 42) 4 cl_Mo fl_Mo_22_Mo d_Mo_init_42 (hP_o _ _) (Nat.le_of_ble_eq_true rfl) (Nat.le_of_ble_eq_true rfl) rfl rfl rfl (fun _ => ⟨rfl, rfl⟩) ?_
  refine V.heq hP_put ?_
  dsimp only [List.set]
  refine V.aload_n (pc := 45) 0 d_Mo_init_45 rfl rfl ?_
  refine V.bipush (pc := 46) d_Mo_init_46 ⟨by decide, by decide⟩ ?_
  refine V.newi (pc := 48) 0 (kc2 := 22) (ks2 := 12287) d_Mo_init_48 (by decide) (by decide) (Nat.le_of_ble_eq_true rfl) (Nat.le_of_ble_eq_true rfl) ?_
  refine V.heq (hP_new _ rfl) ?_
  dsimp only [List.cons_append, List.nil_append]
  refine V.putF (pc := 50) 5 cl_Mo fl_Mo_25_Mo d_Mo_init_50 (hP_o _ _) (Nat.le_of_ble_eq_true rfl) (Nat.le_of_ble_eq_true rfl) rfl rfl rfl (fun _ => ⟨rfl, rfl⟩) ?_
  refine V.heq hP_put ?_
  dsimp only [List.set]
  refine V.aload_n (pc := 53) 0 d_Mo_init_53 rfl rfl ?_
  refine V.sipush (pc := 54) d_Mo_init_54 ⟨by decide, by decide⟩ ?_
  refine V.newi (pc := 57) 0 (kc2 := 21) (ks2 := 11847) d_Mo_init_57 (by decide) (by decide) (Nat.le_of_ble_eq_true rfl) (Nat.le_of_ble_eq_true rfl) ?_
  refine V.heq (hP_new _ rfl) ?_
  dsimp only [List.cons_append, List.nil_append]
  refine V.putF (pc := 59) 6 cl_Mo fl_Mo_28_Mo d_Mo_init_59 (hP_o _ _) (Nat.le_of_ble_eq_true rfl) (Nat.le_of_ble_eq_true rfl) rfl rfl rfl (fun _ => ⟨rfl, rfl⟩) ?_
  refine V.heq hP_put ?_
  dsimp only [List.set]
  refine V.aload_n (pc := 62) 0 d_Mo_init_62 rfl rfl ?_
  refine V.sipush (pc := 63) d_Mo_init_63 ⟨by decide, by decide⟩ ?_
  refine V.newi (pc := 66) 0 (kc2 := 20) (ks2 := 11407) d_Mo_init_66 (by decide) (by decide) (Nat.le_of_ble_eq_true rfl) (Nat.le_of_ble_eq_true rfl) ?_
  refine V.heq (hP_new _ rfl) ?_
  dsimp only [List.cons_append, List.nil_append]
  refine V.putF (pc := 68) 7 cl_Mo fl_Mo_31_Mo d_Mo_init_68 (hP_o _ _) (Nat.le_of_ble_eq_true rfl) (Nat.le_of_ble_eq_true rfl) rfl rfl rfl (fun _ => ⟨rfl, rfl⟩) ?_
  refine V.heq hP_put ?_
  dsimp only [List.set]
  refine V.aload_n (pc := 71) 0 d_Mo_init_71 rfl rfl ?_
  refine V.sipush (pc := 72) d_Mo_init_72 ⟨by decide, by decide⟩ ?_
  refine V.newi (pc := 75) 0 (kc2 := 19) (ks2 := 10967) d_Mo_init_75 (by decide) (by decide) (Nat.le_of_ble_eq_true rfl) (Nat.le_of_ble_eq_true rfl) ?_
  refine V.heq (hP_new _ rfl) ?_
  dsimp only [List.cons_append, List.nil_append]
  refine V.putF (pc := 77) 8 cl_Mo fl_Mo_34_Mo d_Mo_init_77 (hP_o _ _) (Nat.le_of_ble_eq_true rfl) (Nat.le_of_ble_eq_true rfl) rfl rfl rfl (fun _ => ⟨rfl, rfl⟩) ?_
  refine V.heq hP_put ?_
  dsimp only [List.set]
  refine V.aload_n (pc := 80) 0 d_Mo_init_80 rfl rfl ?_
  refine V.sipush (pc := 81) d_Mo_init_81 ⟨by decide, by decide⟩ ?_
  refine V.newi (pc := 84) 0 (kc2 := 18) (ks2 := 10527) d_Mo_init_84 (by decide) (by decide) (Nat.le_of_ble_eq_true rfl) (Nat.le_of_ble_eq_true rfl) ?_
  refine V.heq (hP_new _ rfl) ?_
  dsimp only [List.cons_append, List.nil_append]
  refine V.putF (pc := 86) 9 cl_Mo fl_Mo_37_Mo d_Mo_init_86 (hP_o _ _) (Nat.le_of_ble_eq_true rfl) (Nat.le_of_ble_eq_true rfl) rfl rfl rfl (fun _ => ⟨rfl, rfl⟩) ?_
  refine V.heq hP_put ?_
  dsimp only [List.set]
  refine V.aload_n (pc := 89) 0 d_Mo_init_89 rfl rfl ?_
  refine V.bipush (pc := 90) d_Mo_init_90 ⟨by decide, by decide⟩ ?_
  refine V.newi (pc := 92) 0 (kc2 := 17) (ks2 := 10511) d_Mo_init_92 (by decide) (by decide) (Nat.le_of_ble_eq_true rfl) (Nat.le_of_ble_eq_true rfl) ?_
  refine V.heq (hP_new _ rfl) ?_
  dsimp only [List.cons_append, List.nil_append]
  refine V.putF (pc := 94) 11 cl_Mo fl_Mo_40_Mo d_Mo_init_94 (hP_o _ _) (Nat.le_of_ble_eq_true rfl) (Nat.le_of_ble_eq_true rfl) rfl rfl rfl (fun _ => ⟨rfl, rfl⟩) ?_
  refine V.heq hP_put ?_
  dsimp only [List.set]
  refine V.aload_n (pc := 97) 0 d_Mo_init_97 rfl rfl ?_
  refine V.bipush (pc := 98) d_Mo_init_98 ⟨by decide, by decide⟩ ?_
  refine V.newi (pc := 100) 0 (kc2 := 16) (ks2 := 10471) d_Mo_init_100 (by decide) (by decide) (Nat.le_of_ble_eq_true rfl) (Nat.le_of_ble_eq_true rfl) ?_
  refine V.heq (hP_new _ rfl) ?_
  dsimp only [List.cons_append, List.nil_append]
  refine V.putF (pc := 102) 13 cl_Mo fl_Mo_43_Mo d_Mo_init_102 (hP_o _ _) (Nat.le_of_ble_eq_true rfl) (Nat.le_of_ble_eq_true rfl) rfl rfl rfl (fun _ => ⟨rfl, rfl⟩) ?_
  refine V.heq hP_put ?_
  dsimp only [List.set]
  refine V.aload_n (pc := 105) 0 d_Mo_init_105 rfl rfl ?_
  refine V.bipush (pc := 106) d_Mo_init_106 ⟨by decide, by decide⟩ ?_
  refine V.newi (pc := 108) 0 (kc2 := 15) (ks2 := 10431) d_Mo_init_108 (by decide) (by decide) (Nat.le_of_ble_eq_true rfl) (Nat.le_of_ble_eq_true rfl) ?_
  refine V.heq (hP_new _ rfl) ?_
  dsimp only [List.cons_append, List.nil_append]
  refine V.putF (pc := 110) 14 cl_Mo fl_Mo_46_Mo d_Mo_init_110 (hP_o _ _) (Nat.le_of_ble_eq_true rfl) (Nat.le_of_ble_eq_true rfl) rfl rfl rfl (fun _ => ⟨rfl, rfl⟩) ?_
  refine V.heq hP_put ?_
  dsimp only [List.set]
  refine V.aload_n (pc := 113) 0 d_Mo_init_113 rfl rfl ?_
  refine V.bipush (pc := 114) d_Mo_init_114 ⟨by decide, by decide⟩ ?_
  refine V.newi (pc := 116) 0 (kc2 := 14) (ks2 := 10411) d_Mo_init_116 (by decide) (by decide) (Nat.le_of_ble_eq_true rfl) (Nat.le_of_ble_eq_true rfl) ?_
  refine V.heq (hP_new _ rfl) ?_
  dsimp only [List.cons_append, List.nil_append]
  refine V.putF (pc := 118) 15 cl_Mo fl_Mo_49_Mo d_Mo_init_118 (hP_o _ _) (Nat.le_of_ble_eq_true rfl) (Nat.le_of_ble_eq_true rfl) rfl rfl rfl (fun _ => ⟨rfl, rfl⟩) ?_
  refine V.heq hP_put ?_
  dsimp only [List.set]
  refine V.aload_n (pc := 121) 0 d_Mo_init_121 rfl rfl ?_
  refine V.bipush (pc := 122) d_Mo_init_122 ⟨by decide, by decide⟩ ?_
  refine V.newz (pc := 124) (kc2 := 13) (ks2 := 10391) d_Mo_init_124 (by decide) (by decide) (Nat.le_of_ble_eq_true rfl) (Nat.le_of_ble_eq_true rfl) ?_
  refine V.heq (hP_new _ rfl) ?_
  dsimp only [List.cons_append, List.nil_append]
  refine V.putF (pc := 126) 18 cl_Mo fl_Mo_52_Mo d_Mo_init_126 (hP_o _ _) (Nat.le_of_ble_eq_true rfl) (Nat.le_of_ble_eq_true rfl) rfl rfl rfl (fun _ => ⟨rfl, rfl⟩) ?_
  refine V.heq hP_put ?_
  dsimp only [List.set]
  refine V.aload_n (pc := 129) 0 d_Mo_init_129 rfl rfl ?_
  refine V.sipush (pc := 130) d_Mo_init_130 ⟨by decide, by decide⟩ ?_
  refine V.newi (pc := 133) 0 (kc2 := 12) (ks2 := 9741) d_Mo_init_133 (by decide) (by decide) (Nat.le_of_ble_eq_true rfl) (Nat.le_of_ble_eq_true rfl) ?_
  refine V.heq (hP_new _ rfl) ?_
  dsimp only [List.cons_append, List.nil_append]
  refine V.putF (pc := 135) 19 cl_Mo fl_Mo_56_Mo d_Mo_init_135 (hP_o _ _) (Nat.le_of_ble_eq_true rfl) (Nat.le_of_ble_eq_true rfl) rfl rfl rfl (fun _ => ⟨rfl, rfl⟩) ?_
  refine V.heq hP_put ?_
  dsimp only [List.set]
  refine V.aload_n (pc := 138) 0 d_Mo_init_138 rfl rfl ?_
  refine V.bipush (pc := 139) d_Mo_init_139 ⟨by decide, by decide⟩ ?_
  refine V.newi (pc := 141) 0 (kc2 := 11) (ks2 := 9727) d_Mo_init_141 (by decide) (by decide) (Nat.le_of_ble_eq_true rfl) (Nat.le_of_ble_eq_true rfl) ?_
  refine V.heq (hP_new _ rfl) ?_
  dsimp only [List.cons_append, List.nil_append]
  refine V.putF (pc := 143) 21 cl_Mo fl_Mo_59_Mo d_Mo_init_143 (hP_o _ _) (Nat.le_of_ble_eq_true rfl) (Nat.le_of_ble_eq_true rfl) rfl rfl rfl (fun _ => ⟨rfl, rfl⟩) ?_
  refine V.heq hP_put ?_
  dsimp only [List.set]
  refine V.aload_n (pc := 146) 0 d_Mo_init_146 rfl rfl ?_
  refine V.sipush (pc := 147) d_Mo_init_147 ⟨by decide, by decide⟩ ?_
  refine V.newi (pc := 150) 0 (kc2 := 10) (ks2 := 3721) d_Mo_init_150 (by decide) (by decide) (Nat.le_of_ble_eq_true rfl) (Nat.le_of_ble_eq_true rfl) ?_
  refine V.heq (hP_new _ rfl) ?_
  dsimp only [List.cons_append, List.nil_append]
  refine V.putF (pc := 152) 22 cl_Mo fl_Mo_62_Mo d_Mo_init_152 (hP_o _ _) (Nat.le_of_ble_eq_true rfl) (Nat.le_of_ble_eq_true rfl) rfl rfl rfl (fun _ => ⟨rfl, rfl⟩) ?_
  refine V.heq hP_put ?_
  dsimp only [List.set]
  refine V.aload_n (pc := 155) 0 d_Mo_init_155 rfl rfl ?_
  refine V.bipush (pc := 156) d_Mo_init_156 ⟨by decide, by decide⟩ ?_
  refine V.newi (pc := 158) 0 (kc2 := 9) (ks2 := 3657) d_Mo_init_158 (by decide) (by decide) (Nat.le_of_ble_eq_true rfl) (Nat.le_of_ble_eq_true rfl) ?_
  refine V.heq (hP_new _ rfl) ?_
  dsimp only [List.cons_append, List.nil_append]
  refine V.putF (pc := 160) 24 cl_Mo fl_Mo_65_Mo d_Mo_init_160 (hP_o _ _) (Nat.le_of_ble_eq_true rfl) (Nat.le_of_ble_eq_true rfl) rfl rfl rfl (fun _ => ⟨rfl, rfl⟩) ?_
  refine V.heq hP_put ?_
  dsimp only [List.set]
  refine V.aload_n (pc := 163) 0 d_Mo_init_163 rfl rfl ?_
  refine V.bipush (pc := 164) d_Mo_init_164 ⟨by decide, by decide⟩ ?_
  refine V.newz (pc := 166) (kc2 := 8) (ks2 := 3649) d_Mo_init_166 (by decide) (by decide) (Nat.le_of_ble_eq_true rfl) (Nat.le_of_ble_eq_true rfl) ?_
  refine V.heq (hP_new _ rfl) ?_
  dsimp only [List.cons_append, List.nil_append]
  refine V.putF (pc := 168) 25 cl_Mo fl_Mo_68_Mo d_Mo_init_168 (hP_o _ _) (Nat.le_of_ble_eq_true rfl) (Nat.le_of_ble_eq_true rfl) rfl rfl rfl (fun _ => ⟨rfl, rfl⟩) ?_
  refine V.heq hP_put ?_
  dsimp only [List.set]
  refine V.aload_n (pc := 171) 0 d_Mo_init_171 rfl rfl ?_
  refine V.bipush (pc := 172) d_Mo_init_172 ⟨by decide, by decide⟩ ?_
  refine V.newi (pc := 174) 0 (kc2 := 7) (ks2 := 3643) d_Mo_init_174 (by decide) (by decide) (Nat.le_of_ble_eq_true rfl) (Nat.le_of_ble_eq_true rfl) ?_
  refine V.heq (hP_new _ rfl) ?_
  dsimp only [List.cons_append, List.nil_append]
  refine V.putF (pc := 176) 26 cl_Mo fl_Mo_71_Mo d_Mo_init_176 (hP_o _ _) (Nat.le_of_ble_eq_true rfl) (Nat.le_of_ble_eq_true rfl) rfl rfl rfl (fun _ => ⟨rfl, rfl⟩) ?_
  refine V.heq hP_put ?_
  dsimp only [List.set]
  refine V.aload_n (pc := 179) 0 d_Mo_init_179 rfl rfl ?_
  refine V.bipush (pc := 180) d_Mo_init_180 ⟨by decide, by decide⟩ ?_
  refine V.newi (pc := 182) 0 (kc2 := 6) (ks2 := 3634) d_Mo_init_182 (by decide) (by decide) (Nat.le_of_ble_eq_true rfl) (Nat.le_of_ble_eq_true rfl) ?_
  refine V.heq (hP_new _ rfl) ?_
  dsimp only [List.cons_append, List.nil_append]
  refine V.putF (pc := 184) 27 cl_Mo fl_Mo_74_Mo d_Mo_init_184 (hP_o _ _) (Nat.le_of_ble_eq_true rfl) (Nat.le_of_ble_eq_true rfl) rfl rfl rfl (fun _ => ⟨rfl, rfl⟩) ?_
  refine V.heq hP_put ?_
  dsimp only [List.set]
  refine V.aload_n (pc := 187) 0 d_Mo_init_187 rfl rfl ?_
  refine V.bipush (pc := 188) d_Mo_init_188 ⟨by decide, by decide⟩ ?_
  refine V.newi (pc := 190) 0 (kc2 := 5) (ks2 := 3620) d_Mo_init_190 (by decide) (by decide) (Nat.le_of_ble_eq_true rfl) (Nat.le_of_ble_eq_true rfl) ?_
  refine V.heq (hP_new _ rfl) ?_
  dsimp only [List.cons_append, List.nil_append]
  refine V.putF (pc := 192) 28 cl_Mo fl_Mo_77_Mo d_Mo_init_192 (hP_o _ _) (Nat.le_of_ble_eq_true rfl) (Nat.le_of_ble_eq_true rfl) rfl rfl rfl (fun _ => ⟨rfl, rfl⟩) ?_
  refine V.heq hP_put ?_
  dsimp only [List.set]
  refine V.aload_n (pc := 195) 0 d_Mo_init_195 rfl rfl ?_
  refine V.sipush (pc := 196) d_Mo_init_196 ⟨by decide, by decide⟩ ?_
  refine V.newz (pc := 199) (kc2 := 4) (ks2 := 1856) d_Mo_init_199 (by decide) (by decide) (Nat.le_of_ble_eq_true rfl) (Nat.le_of_ble_eq_true rfl) ?_
  refine V.heq (hP_new _ rfl) ?_
  dsimp only [List.cons_append, List.nil_append]
  refine V.putF (pc := 201) 29 cl_Mo fl_Mo_80_Mo d_Mo_init_201 (hP_o _ _) (Nat.le_of_ble_eq_true rfl) (Nat.le_of_ble_eq_true rfl) rfl rfl rfl (fun _ => ⟨rfl, rfl⟩) ?_
  refine V.heq hP_put ?_
  dsimp only [List.set]
  refine V.aload_n (pc := 204) 0 d_Mo_init_204 rfl rfl ?_
  refine V.bipush (pc := 205) d_Mo_init_205 ⟨by decide, by decide⟩ ?_
  refine V.newi (pc := 207) 0 (kc2 := 3) (ks2 := 1814) d_Mo_init_207 (by decide) (by decide) (Nat.le_of_ble_eq_true rfl) (Nat.le_of_ble_eq_true rfl) ?_
  refine V.heq (hP_new _ rfl) ?_
  dsimp only [List.cons_append, List.nil_append]
  refine V.putF (pc := 209) 30 cl_Mo fl_Mo_83_Mo d_Mo_init_209 (hP_o _ _) (Nat.le_of_ble_eq_true rfl) (Nat.le_of_ble_eq_true rfl) rfl rfl rfl (fun _ => ⟨rfl, rfl⟩) ?_
  refine V.heq hP_put ?_
  dsimp only [List.set]
  refine V.aload_n (pc := 212) 0 d_Mo_init_212 rfl rfl ?_
  refine V.bipush (pc := 213) d_Mo_init_213 ⟨by decide, by decide⟩ ?_
  refine V.newi (pc := 215) 0 (kc2 := 2) (ks2 := 1772) d_Mo_init_215 (by decide) (by decide) (Nat.le_of_ble_eq_true rfl) (Nat.le_of_ble_eq_true rfl) ?_
  refine V.heq (hP_new _ rfl) ?_
  dsimp only [List.cons_append, List.nil_append]
  refine V.putF (pc := 217) 31 cl_Mo fl_Mo_86_Mo d_Mo_init_217 (hP_o _ _) (Nat.le_of_ble_eq_true rfl) (Nat.le_of_ble_eq_true rfl) rfl rfl rfl (fun _ => ⟨rfl, rfl⟩) ?_
  refine V.heq hP_put ?_
  dsimp only [List.set]
  refine V.aload_n (pc := 220) 0 d_Mo_init_220 rfl rfl ?_
  refine V.sipush (pc := 221) d_Mo_init_221 ⟨by decide, by decide⟩ ?_
  refine V.newi (pc := 224) 0 (kc2 := 1) (ks2 := 8) d_Mo_init_224 (by decide) (by decide) (Nat.le_of_ble_eq_true rfl) (Nat.le_of_ble_eq_true rfl) ?_
  refine V.heq (hP_new _ rfl) ?_
  dsimp only [List.cons_append, List.nil_append]
  refine V.putF (pc := 226) 32 cl_Mo fl_Mo_89_Mo d_Mo_init_226 (hP_o _ _) (Nat.le_of_ble_eq_true rfl) (Nat.le_of_ble_eq_true rfl) rfl rfl rfl (fun _ => ⟨rfl, rfl⟩) ?_
  refine V.heq hP_put ?_
  dsimp only [List.set]
  refine V.aload_n (pc := 229) 0 d_Mo_init_229 rfl rfl ?_
  refine V.bipush (pc := 230) d_Mo_init_230 ⟨by decide, by decide⟩ ?_
  refine V.newi (pc := 232) 0 (kc2 := 0) (ks2 := 0) d_Mo_init_232 (by decide) (by decide) (Nat.le_of_ble_eq_true rfl) (Nat.le_of_ble_eq_true rfl) ?_
  refine V.heq (hP_new _ rfl) ?_
  dsimp only [List.cons_append, List.nil_append]
  refine V.putF (pc := 234) 33 cl_Mo fl_Mo_92_Mo d_Mo_init_234 (hP_o _ _) (Nat.le_of_ble_eq_true rfl) (Nat.le_of_ble_eq_true rfl) rfl rfl rfl (fun _ => ⟨rfl, rfl⟩) ?_
  refine V.heq hP_put ?_
  dsimp only [List.set]
  refine V.ret (pc := 237) (r := none) d_Mo_init_237 rfl rfl ?_
  exact ⟨rfl, rfl, rfl⟩
