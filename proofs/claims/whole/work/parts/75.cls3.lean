/-! THE CLASS: makings, printed by wip/whole/gen/cls3.py -/
set_option maxRecDepth 20000 in
theorem ci_Th_init_Row (a : Nat) (n : Int) (h : MH) (ha : h a = some (kO 3 d0_Row)) (sz : Nat) : Ct M_Th_init 2 0 0 [vR a, vI n] h sz (Det none (hset h a (kO 3 [vI n, vL 0])) sz) := by
  refine Ct.of rfl (Nat.le_of_ble_eq_true rfl) ?_
  dsimp only [lsOf]
  refine V.aload_n (pc := 0) 0 d_Th_init_0 rfl rfl ?_
  refine V.objInit (pc := 1) ml_Th_1 (Nat.le_of_ble_eq_true rfl) (Nat.le_of_ble_eq_true rfl) d_Th_init_1 ?_
  refine V.aload_n (pc := 4) 0 d_Th_init_4 rfl rfl ?_
  refine V.iload_n (pc := 5) 1 d_Th_init_5 rfl rfl ?_
  refine V.putF (pc := 6) 0 cl_Row fl_Th_7_Row d_Th_init_6 ha (Nat.le_of_ble_eq_true rfl) (Nat.le_of_ble_eq_true rfl) rfl rfl rfl (fun _ => ⟨rfl, rfl⟩) ?_
  dsimp only [List.set]
  refine V.ret (pc := 9) (r := none) d_Th_init_9 rfl rfl ?_
  try simp only [hset_tw]
  exact detR
set_option maxRecDepth 20000 in
theorem ci_Th_init_Ar (a : Nat) (n : Int) (h : MH) (ha : h a = some (kO 4 d0_Ar)) (sz : Nat) : Ct M_Th_init 2 0 0 [vR a, vI n] h sz (Det none (hset h a (kO 4 [vI n, vL 0, vN])) sz) := by
  refine Ct.of rfl (Nat.le_of_ble_eq_true rfl) ?_
  dsimp only [lsOf]
  refine V.aload_n (pc := 0) 0 d_Th_init_0 rfl rfl ?_
  refine V.objInit (pc := 1) ml_Th_1 (Nat.le_of_ble_eq_true rfl) (Nat.le_of_ble_eq_true rfl) d_Th_init_1 ?_
  refine V.aload_n (pc := 4) 0 d_Th_init_4 rfl rfl ?_
  refine V.iload_n (pc := 5) 1 d_Th_init_5 rfl rfl ?_
  refine V.putF (pc := 6) 0 cl_Ar fl_Th_7_Ar d_Th_init_6 ha (Nat.le_of_ble_eq_true rfl) (Nat.le_of_ble_eq_true rfl) rfl rfl rfl (fun _ => ⟨rfl, rfl⟩) ?_
  dsimp only [List.set]
  refine V.ret (pc := 9) (r := none) d_Th_init_9 rfl rfl ?_
  try simp only [hset_tw]
  exact detR
set_option maxRecDepth 20000 in
theorem ci_Th_init_Ne (a : Nat) (n : Int) (h : MH) (ha : h a = some (kO 5 d0_Ar)) (sz : Nat) : Ct M_Th_init 2 0 0 [vR a, vI n] h sz (Det none (hset h a (kO 5 [vI n, vL 0, vN])) sz) := by
  refine Ct.of rfl (Nat.le_of_ble_eq_true rfl) ?_
  dsimp only [lsOf]
  refine V.aload_n (pc := 0) 0 d_Th_init_0 rfl rfl ?_
  refine V.objInit (pc := 1) ml_Th_1 (Nat.le_of_ble_eq_true rfl) (Nat.le_of_ble_eq_true rfl) d_Th_init_1 ?_
  refine V.aload_n (pc := 4) 0 d_Th_init_4 rfl rfl ?_
  refine V.iload_n (pc := 5) 1 d_Th_init_5 rfl rfl ?_
  refine V.putF (pc := 6) 0 cl_Ne fl_Th_7_Ar d_Th_init_6 ha (Nat.le_of_ble_eq_true rfl) (Nat.le_of_ble_eq_true rfl) rfl rfl rfl (fun _ => ⟨rfl, rfl⟩) ?_
  dsimp only [List.set]
  refine V.ret (pc := 9) (r := none) d_Th_init_9 rfl rfl ?_
  try simp only [hset_tw]
  exact detR
set_option maxRecDepth 20000 in
theorem ci_Th_init_Pe (a : Nat) (n : Int) (h : MH) (ha : h a = some (kO 6 d0_Ar)) (sz : Nat) : Ct M_Th_init 2 0 0 [vR a, vI n] h sz (Det none (hset h a (kO 6 [vI n, vL 0, vN])) sz) := by
  refine Ct.of rfl (Nat.le_of_ble_eq_true rfl) ?_
  dsimp only [lsOf]
  refine V.aload_n (pc := 0) 0 d_Th_init_0 rfl rfl ?_
  refine V.objInit (pc := 1) ml_Th_1 (Nat.le_of_ble_eq_true rfl) (Nat.le_of_ble_eq_true rfl) d_Th_init_1 ?_
  refine V.aload_n (pc := 4) 0 d_Th_init_4 rfl rfl ?_
  refine V.iload_n (pc := 5) 1 d_Th_init_5 rfl rfl ?_
  refine V.putF (pc := 6) 0 cl_Pe fl_Th_7_Ar d_Th_init_6 ha (Nat.le_of_ble_eq_true rfl) (Nat.le_of_ble_eq_true rfl) rfl rfl rfl (fun _ => ⟨rfl, rfl⟩) ?_
  dsimp only [List.set]
  refine V.ret (pc := 9) (r := none) d_Th_init_9 rfl rfl ?_
  try simp only [hset_tw]
  exact detR
set_option maxRecDepth 20000 in
theorem ci_Th_init_La (a : Nat) (n : Int) (h : MH) (ha : h a = some (kO 7 d0_La)) (sz : Nat) : Ct M_Th_init 2 0 0 [vR a, vI n] h sz (Det none (hset h a (kO 7 [vI n, vN, vN, vN, vI 0])) sz) := by
  refine Ct.of rfl (Nat.le_of_ble_eq_true rfl) ?_
  dsimp only [lsOf]
  refine V.aload_n (pc := 0) 0 d_Th_init_0 rfl rfl ?_
  refine V.objInit (pc := 1) ml_Th_1 (Nat.le_of_ble_eq_true rfl) (Nat.le_of_ble_eq_true rfl) d_Th_init_1 ?_
  refine V.aload_n (pc := 4) 0 d_Th_init_4 rfl rfl ?_
  refine V.iload_n (pc := 5) 1 d_Th_init_5 rfl rfl ?_
  refine V.putF (pc := 6) 0 cl_La fl_Th_7_La d_Th_init_6 ha (Nat.le_of_ble_eq_true rfl) (Nat.le_of_ble_eq_true rfl) rfl rfl rfl (fun _ => ⟨rfl, rfl⟩) ?_
  dsimp only [List.set]
  refine V.ret (pc := 9) (r := none) d_Th_init_9 rfl rfl ?_
  try simp only [hset_tw]
  exact detR
set_option maxRecDepth 20000 in
theorem ci_Th_init_Lo (a : Nat) (n : Int) (h : MH) (ha : h a = some (kO 8 d0_La)) (sz : Nat) : Ct M_Th_init 2 0 0 [vR a, vI n] h sz (Det none (hset h a (kO 8 [vI n, vN, vN, vN, vI 0])) sz) := by
  refine Ct.of rfl (Nat.le_of_ble_eq_true rfl) ?_
  dsimp only [lsOf]
  refine V.aload_n (pc := 0) 0 d_Th_init_0 rfl rfl ?_
  refine V.objInit (pc := 1) ml_Th_1 (Nat.le_of_ble_eq_true rfl) (Nat.le_of_ble_eq_true rfl) d_Th_init_1 ?_
  refine V.aload_n (pc := 4) 0 d_Th_init_4 rfl rfl ?_
  refine V.iload_n (pc := 5) 1 d_Th_init_5 rfl rfl ?_
  refine V.putF (pc := 6) 0 cl_Lo fl_Th_7_La d_Th_init_6 ha (Nat.le_of_ble_eq_true rfl) (Nat.le_of_ble_eq_true rfl) rfl rfl rfl (fun _ => ⟨rfl, rfl⟩) ?_
  dsimp only [List.set]
  refine V.ret (pc := 9) (r := none) d_Th_init_9 rfl rfl ?_
  try simp only [hset_tw]
  exact detR
set_option maxRecDepth 20000 in
theorem ci_Th_init_St (a : Nat) (n : Int) (h : MH) (ha : h a = some (kO 9 d0_St)) (sz : Nat) : Ct M_Th_init 2 0 0 [vR a, vI n] h sz (Det none (hset h a (kO 9 [vI n, vN, vN, vI 0, vI 0])) sz) := by
  refine Ct.of rfl (Nat.le_of_ble_eq_true rfl) ?_
  dsimp only [lsOf]
  refine V.aload_n (pc := 0) 0 d_Th_init_0 rfl rfl ?_
  refine V.objInit (pc := 1) ml_Th_1 (Nat.le_of_ble_eq_true rfl) (Nat.le_of_ble_eq_true rfl) d_Th_init_1 ?_
  refine V.aload_n (pc := 4) 0 d_Th_init_4 rfl rfl ?_
  refine V.iload_n (pc := 5) 1 d_Th_init_5 rfl rfl ?_
  refine V.putF (pc := 6) 0 cl_St fl_Th_7_St d_Th_init_6 ha (Nat.le_of_ble_eq_true rfl) (Nat.le_of_ble_eq_true rfl) rfl rfl rfl (fun _ => ⟨rfl, rfl⟩) ?_
  dsimp only [List.set]
  refine V.ret (pc := 9) (r := none) d_Th_init_9 rfl rfl ?_
  try simp only [hset_tw]
  exact detR
set_option maxRecDepth 20000 in
theorem ci_Th_init_Fo (a : Nat) (n : Int) (h : MH) (ha : h a = some (kO 10 d0_St)) (sz : Nat) : Ct M_Th_init 2 0 0 [vR a, vI n] h sz (Det none (hset h a (kO 10 [vI n, vN, vN, vI 0, vI 0])) sz) := by
  refine Ct.of rfl (Nat.le_of_ble_eq_true rfl) ?_
  dsimp only [lsOf]
  refine V.aload_n (pc := 0) 0 d_Th_init_0 rfl rfl ?_
  refine V.objInit (pc := 1) ml_Th_1 (Nat.le_of_ble_eq_true rfl) (Nat.le_of_ble_eq_true rfl) d_Th_init_1 ?_
  refine V.aload_n (pc := 4) 0 d_Th_init_4 rfl rfl ?_
  refine V.iload_n (pc := 5) 1 d_Th_init_5 rfl rfl ?_
  refine V.putF (pc := 6) 0 cl_Fo fl_Th_7_St d_Th_init_6 ha (Nat.le_of_ble_eq_true rfl) (Nat.le_of_ble_eq_true rfl) rfl rfl rfl (fun _ => ⟨rfl, rfl⟩) ?_
  dsimp only [List.set]
  refine V.ret (pc := 9) (r := none) d_Th_init_9 rfl rfl ?_
  try simp only [hset_tw]
  exact detR
set_option maxRecDepth 20000 in
theorem ci_Row_init_Row (a : Nat) (n N : Int) (h : MH) (ha : h a = some (kO 3 d0_Row)) (sz : Nat) : Ct M_Row_init 3 0 0 [vR a, vI n, vL N] h sz (Det none (hset h a (kO 3 [vI n, vL N])) sz) := by
  refine Ct.of rfl (Nat.le_of_ble_eq_true rfl) ?_
  dsimp only [lsOf]
  refine V.aload_n (pc := 0) 0 d_Row_init_0 rfl rfl ?_
  refine V.iload_n (pc := 1) 1 d_Row_init_1 rfl rfl ?_
  refine V.cI1 (pc := 2) (kc2 := 0) (ks2 := 0) ml_Row_1 (ci_Th_init_Row _ _ _ ha _) d_Row_init_2 (Nat.le_of_ble_eq_true rfl) (Nat.le_of_ble_eq_true rfl) (Nat.le_of_ble_eq_true rfl) (Nat.le_of_ble_eq_true rfl) ?_
  rintro _ _ _ ⟨rfl, rfl, rfl⟩
  dsimp only [Option.toList, List.cons_append, List.nil_append]
  refine V.aload_n (pc := 5) 0 d_Row_init_5 rfl rfl ?_
  refine V.lload_n (pc := 6) 2 d_Row_init_6 rfl rfl ?_
  refine V.putF (pc := 7) 1 cl_Row fl_Row_7_Row d_Row_init_7 hset_s (Nat.le_of_ble_eq_true rfl) (Nat.le_of_ble_eq_true rfl) rfl rfl rfl (fun _ => ⟨rfl, rfl⟩) ?_
  dsimp only [List.set]
  refine V.ret (pc := 10) (r := none) d_Row_init_10 rfl rfl ?_
  try simp only [hset_tw]
  exact detR
set_option maxRecDepth 20000 in
theorem ci_Row_init_Ar (a : Nat) (n N : Int) (h : MH) (ha : h a = some (kO 4 d0_Ar)) (sz : Nat) : Ct M_Row_init 3 0 0 [vR a, vI n, vL N] h sz (Det none (hset h a (kO 4 [vI n, vL N, vN])) sz) := by
  refine Ct.of rfl (Nat.le_of_ble_eq_true rfl) ?_
  dsimp only [lsOf]
  refine V.aload_n (pc := 0) 0 d_Row_init_0 rfl rfl ?_
  refine V.iload_n (pc := 1) 1 d_Row_init_1 rfl rfl ?_
  refine V.cI1 (pc := 2) (kc2 := 0) (ks2 := 0) ml_Row_1 (ci_Th_init_Ar _ _ _ ha _) d_Row_init_2 (Nat.le_of_ble_eq_true rfl) (Nat.le_of_ble_eq_true rfl) (Nat.le_of_ble_eq_true rfl) (Nat.le_of_ble_eq_true rfl) ?_
  rintro _ _ _ ⟨rfl, rfl, rfl⟩
  dsimp only [Option.toList, List.cons_append, List.nil_append]
  refine V.aload_n (pc := 5) 0 d_Row_init_5 rfl rfl ?_
  refine V.lload_n (pc := 6) 2 d_Row_init_6 rfl rfl ?_
  refine V.putF (pc := 7) 1 cl_Ar fl_Row_7_Ar d_Row_init_7 hset_s (Nat.le_of_ble_eq_true rfl) (Nat.le_of_ble_eq_true rfl) rfl rfl rfl (fun _ => ⟨rfl, rfl⟩) ?_
  dsimp only [List.set]
  refine V.ret (pc := 10) (r := none) d_Row_init_10 rfl rfl ?_
  try simp only [hset_tw]
  exact detR
set_option maxRecDepth 20000 in
theorem ci_Row_init_Ne (a : Nat) (n N : Int) (h : MH) (ha : h a = some (kO 5 d0_Ar)) (sz : Nat) : Ct M_Row_init 3 0 0 [vR a, vI n, vL N] h sz (Det none (hset h a (kO 5 [vI n, vL N, vN])) sz) := by
  refine Ct.of rfl (Nat.le_of_ble_eq_true rfl) ?_
  dsimp only [lsOf]
  refine V.aload_n (pc := 0) 0 d_Row_init_0 rfl rfl ?_
  refine V.iload_n (pc := 1) 1 d_Row_init_1 rfl rfl ?_
  refine V.cI1 (pc := 2) (kc2 := 0) (ks2 := 0) ml_Row_1 (ci_Th_init_Ne _ _ _ ha _) d_Row_init_2 (Nat.le_of_ble_eq_true rfl) (Nat.le_of_ble_eq_true rfl) (Nat.le_of_ble_eq_true rfl) (Nat.le_of_ble_eq_true rfl) ?_
  rintro _ _ _ ⟨rfl, rfl, rfl⟩
  dsimp only [Option.toList, List.cons_append, List.nil_append]
  refine V.aload_n (pc := 5) 0 d_Row_init_5 rfl rfl ?_
  refine V.lload_n (pc := 6) 2 d_Row_init_6 rfl rfl ?_
  refine V.putF (pc := 7) 1 cl_Ne fl_Row_7_Ar d_Row_init_7 hset_s (Nat.le_of_ble_eq_true rfl) (Nat.le_of_ble_eq_true rfl) rfl rfl rfl (fun _ => ⟨rfl, rfl⟩) ?_
  dsimp only [List.set]
  refine V.ret (pc := 10) (r := none) d_Row_init_10 rfl rfl ?_
  try simp only [hset_tw]
  exact detR
set_option maxRecDepth 20000 in
theorem ci_Row_init_Pe (a : Nat) (n N : Int) (h : MH) (ha : h a = some (kO 6 d0_Ar)) (sz : Nat) : Ct M_Row_init 3 0 0 [vR a, vI n, vL N] h sz (Det none (hset h a (kO 6 [vI n, vL N, vN])) sz) := by
  refine Ct.of rfl (Nat.le_of_ble_eq_true rfl) ?_
  dsimp only [lsOf]
  refine V.aload_n (pc := 0) 0 d_Row_init_0 rfl rfl ?_
  refine V.iload_n (pc := 1) 1 d_Row_init_1 rfl rfl ?_
  refine V.cI1 (pc := 2) (kc2 := 0) (ks2 := 0) ml_Row_1 (ci_Th_init_Pe _ _ _ ha _) d_Row_init_2 (Nat.le_of_ble_eq_true rfl) (Nat.le_of_ble_eq_true rfl) (Nat.le_of_ble_eq_true rfl) (Nat.le_of_ble_eq_true rfl) ?_
  rintro _ _ _ ⟨rfl, rfl, rfl⟩
  dsimp only [Option.toList, List.cons_append, List.nil_append]
  refine V.aload_n (pc := 5) 0 d_Row_init_5 rfl rfl ?_
  refine V.lload_n (pc := 6) 2 d_Row_init_6 rfl rfl ?_
  refine V.putF (pc := 7) 1 cl_Pe fl_Row_7_Ar d_Row_init_7 hset_s (Nat.le_of_ble_eq_true rfl) (Nat.le_of_ble_eq_true rfl) rfl rfl rfl (fun _ => ⟨rfl, rfl⟩) ?_
  dsimp only [List.set]
  refine V.ret (pc := 10) (r := none) d_Row_init_10 rfl rfl ?_
  try simp only [hset_tw]
  exact detR
set_option maxRecDepth 20000 in
theorem ci_Ar_init_Ar (a : Nat) (n N : Int) (b : Nat) (h : MH) (ha : h a = some (kO 4 d0_Ar)) (sz : Nat) : Ct M_Ar_init 4 0 0 [vR a, vI n, vL N, vR b] h sz (Det none (hset h a (kO 4 [vI n, vL N, vR b])) sz) := by
  refine Ct.of rfl (Nat.le_of_ble_eq_true rfl) ?_
  dsimp only [lsOf]
  refine V.aload_n (pc := 0) 0 d_Ar_init_0 rfl rfl ?_
  refine V.iload_n (pc := 1) 1 d_Ar_init_1 rfl rfl ?_
  refine V.lload_n (pc := 2) 2 d_Ar_init_2 rfl rfl ?_
  refine V.cI2 (pc := 3) (kc2 := 0) (ks2 := 0) ml_Ar_1 (ci_Row_init_Ar _ _ _ _ ha _) d_Ar_init_3 (Nat.le_of_ble_eq_true rfl) (Nat.le_of_ble_eq_true rfl) (Nat.le_of_ble_eq_true rfl) (Nat.le_of_ble_eq_true rfl) ?_
  rintro _ _ _ ⟨rfl, rfl, rfl⟩
  dsimp only [Option.toList, List.cons_append, List.nil_append]
  refine V.aload_n (pc := 6) 0 d_Ar_init_6 rfl rfl ?_
  refine V.aload (pc := 7) d_Ar_init_7 rfl ?_
  refine V.putF (pc := 9) 2 cl_Ar fl_Ar_7_Ar d_Ar_init_9 hset_s (Nat.le_of_ble_eq_true rfl) (Nat.le_of_ble_eq_true rfl) rfl rfl rfl (fun _ => ⟨rfl, rfl⟩) ?_
  dsimp only [List.set]
  refine V.ret (pc := 12) (r := none) d_Ar_init_12 rfl rfl ?_
  try simp only [hset_tw]
  exact detR
set_option maxRecDepth 20000 in
theorem ci_Ar_init_Ne (a : Nat) (n N : Int) (b : Nat) (h : MH) (ha : h a = some (kO 5 d0_Ar)) (sz : Nat) : Ct M_Ar_init 4 0 0 [vR a, vI n, vL N, vR b] h sz (Det none (hset h a (kO 5 [vI n, vL N, vR b])) sz) := by
  refine Ct.of rfl (Nat.le_of_ble_eq_true rfl) ?_
  dsimp only [lsOf]
  refine V.aload_n (pc := 0) 0 d_Ar_init_0 rfl rfl ?_
  refine V.iload_n (pc := 1) 1 d_Ar_init_1 rfl rfl ?_
  refine V.lload_n (pc := 2) 2 d_Ar_init_2 rfl rfl ?_
  refine V.cI2 (pc := 3) (kc2 := 0) (ks2 := 0) ml_Ar_1 (ci_Row_init_Ne _ _ _ _ ha _) d_Ar_init_3 (Nat.le_of_ble_eq_true rfl) (Nat.le_of_ble_eq_true rfl) (Nat.le_of_ble_eq_true rfl) (Nat.le_of_ble_eq_true rfl) ?_
  rintro _ _ _ ⟨rfl, rfl, rfl⟩
  dsimp only [Option.toList, List.cons_append, List.nil_append]
  refine V.aload_n (pc := 6) 0 d_Ar_init_6 rfl rfl ?_
  refine V.aload (pc := 7) d_Ar_init_7 rfl ?_
  refine V.putF (pc := 9) 2 cl_Ne fl_Ar_7_Ar d_Ar_init_9 hset_s (Nat.le_of_ble_eq_true rfl) (Nat.le_of_ble_eq_true rfl) rfl rfl rfl (fun _ => ⟨rfl, rfl⟩) ?_
  dsimp only [List.set]
  refine V.ret (pc := 12) (r := none) d_Ar_init_12 rfl rfl ?_
  try simp only [hset_tw]
  exact detR
set_option maxRecDepth 20000 in
theorem ci_Ar_init_Pe (a : Nat) (n N : Int) (b : Nat) (h : MH) (ha : h a = some (kO 6 d0_Ar)) (sz : Nat) : Ct M_Ar_init 4 0 0 [vR a, vI n, vL N, vR b] h sz (Det none (hset h a (kO 6 [vI n, vL N, vR b])) sz) := by
  refine Ct.of rfl (Nat.le_of_ble_eq_true rfl) ?_
  dsimp only [lsOf]
  refine V.aload_n (pc := 0) 0 d_Ar_init_0 rfl rfl ?_
  refine V.iload_n (pc := 1) 1 d_Ar_init_1 rfl rfl ?_
  refine V.lload_n (pc := 2) 2 d_Ar_init_2 rfl rfl ?_
  refine V.cI2 (pc := 3) (kc2 := 0) (ks2 := 0) ml_Ar_1 (ci_Row_init_Pe _ _ _ _ ha _) d_Ar_init_3 (Nat.le_of_ble_eq_true rfl) (Nat.le_of_ble_eq_true rfl) (Nat.le_of_ble_eq_true rfl) (Nat.le_of_ble_eq_true rfl) ?_
  rintro _ _ _ ⟨rfl, rfl, rfl⟩
  dsimp only [Option.toList, List.cons_append, List.nil_append]
  refine V.aload_n (pc := 6) 0 d_Ar_init_6 rfl rfl ?_
  refine V.aload (pc := 7) d_Ar_init_7 rfl ?_
  refine V.putF (pc := 9) 2 cl_Pe fl_Ar_7_Ar d_Ar_init_9 hset_s (Nat.le_of_ble_eq_true rfl) (Nat.le_of_ble_eq_true rfl) rfl rfl rfl (fun _ => ⟨rfl, rfl⟩) ?_
  dsimp only [List.set]
  refine V.ret (pc := 12) (r := none) d_Ar_init_12 rfl rfl ?_
  try simp only [hset_tw]
  exact detR
set_option maxRecDepth 20000 in
theorem ci_Ne_init (a : Nat) (n N : Int) (b : Nat) (h : MH) (ha : h a = some (kO 5 d0_Ar)) (sz : Nat) : Ct M_Ne_init 5 0 0 [vR a, vI n, vL N, vR b] h sz (Det none (hset h a (kO 5 [vI n, vL N, vR b])) sz) := by
  refine Ct.of rfl (Nat.le_of_ble_eq_true rfl) ?_
  dsimp only [lsOf]
  refine V.aload_n (pc := 0) 0 d_Ne_init_0 rfl rfl ?_
  refine V.iload_n (pc := 1) 1 d_Ne_init_1 rfl rfl ?_
  refine V.lload_n (pc := 2) 2 d_Ne_init_2 rfl rfl ?_
  refine V.aload (pc := 3) d_Ne_init_3 rfl ?_
  refine V.cI3 (pc := 5) (kc2 := 0) (ks2 := 0) ml_Ne_1 (ci_Ar_init_Ne _ _ _ _ _ ha _) d_Ne_init_5 (Nat.le_of_ble_eq_true rfl) (Nat.le_of_ble_eq_true rfl) (Nat.le_of_ble_eq_true rfl) (Nat.le_of_ble_eq_true rfl) ?_
  rintro _ _ _ ⟨rfl, rfl, rfl⟩
  dsimp only [Option.toList, List.cons_append, List.nil_append]
  refine V.ret (pc := 8) (r := none) d_Ne_init_8 rfl rfl ?_
  exact detR
set_option maxRecDepth 20000 in
theorem ci_Pe_init (a : Nat) (n N : Int) (b : Nat) (h : MH) (ha : h a = some (kO 6 d0_Ar)) (sz : Nat) : Ct M_Pe_init 5 0 0 [vR a, vI n, vL N, vR b] h sz (Det none (hset h a (kO 6 [vI n, vL N, vR b])) sz) := by
  refine Ct.of rfl (Nat.le_of_ble_eq_true rfl) ?_
  dsimp only [lsOf]
  refine V.aload_n (pc := 0) 0 d_Pe_init_0 rfl rfl ?_
  refine V.iload_n (pc := 1) 1 d_Pe_init_1 rfl rfl ?_
  refine V.lload_n (pc := 2) 2 d_Pe_init_2 rfl rfl ?_
  refine V.aload (pc := 3) d_Pe_init_3 rfl ?_
  refine V.cI3 (pc := 5) (kc2 := 0) (ks2 := 0) ml_Pe_1 (ci_Ar_init_Pe _ _ _ _ _ ha _) d_Pe_init_5 (Nat.le_of_ble_eq_true rfl) (Nat.le_of_ble_eq_true rfl) (Nat.le_of_ble_eq_true rfl) (Nat.le_of_ble_eq_true rfl) ?_
  rintro _ _ _ ⟨rfl, rfl, rfl⟩
  dsimp only [Option.toList, List.cons_append, List.nil_append]
  refine V.ret (pc := 8) (r := none) d_Pe_init_8 rfl rfl ?_
  exact detR
set_option maxRecDepth 20000 in
theorem ci_Sh_init (a : Nat) (l : Int) (b : Nat) (h : MH) (ha : h a = some (kO 2 d0_Sh)) (sz : Nat) : Ct M_Sh_init 2 0 0 [vR a, vI l, vR b] h sz (Det none (hset h a (kO 2 [vI l, vR b])) sz) := by
  refine Ct.of rfl (Nat.le_of_ble_eq_true rfl) ?_
  dsimp only [lsOf]
  refine V.aload_n (pc := 0) 0 d_Sh_init_0 rfl rfl ?_
  refine V.objInit (pc := 1) ml_Sh_1 (Nat.le_of_ble_eq_true rfl) (Nat.le_of_ble_eq_true rfl) d_Sh_init_1 ?_
  refine V.aload_n (pc := 4) 0 d_Sh_init_4 rfl rfl ?_
  refine V.iload_n (pc := 5) 1 d_Sh_init_5 rfl rfl ?_
  refine V.putF (pc := 6) 0 cl_Sh fl_Sh_7_Sh d_Sh_init_6 ha (Nat.le_of_ble_eq_true rfl) (Nat.le_of_ble_eq_true rfl) rfl rfl rfl (fun _ => ⟨rfl, rfl⟩) ?_
  dsimp only [List.set]
  refine V.aload_n (pc := 9) 0 d_Sh_init_9 rfl rfl ?_
  refine V.aload_n (pc := 10) 2 d_Sh_init_10 rfl rfl ?_
  refine V.putF (pc := 11) 1 cl_Sh fl_Sh_13_Sh d_Sh_init_11 hset_s (Nat.le_of_ble_eq_true rfl) (Nat.le_of_ble_eq_true rfl) rfl rfl rfl (fun _ => ⟨rfl, rfl⟩) ?_
  dsimp only [List.set]
  refine V.ret (pc := 14) (r := none) d_Sh_init_14 rfl rfl ?_
  try simp only [hset_tw]
  exact detR
/-- the number of a ROW's class, by its KIND -/
def rci (k : Int) : Nat := if k = 4 then 6 else if k = 3 then 5 else 4
def QAr (n : Nat) (a : Nat → Int) (h : MH) (sz : Nat) : QT := fun r h2 s => r = some (vR (sz + 1)) ∧ s = sz + 2 ∧ ∃ f : Nat → Int, h2 = hset (hset h sz (kA 0 (2 * n) f)) (sz + 1) (kO (rci (rowKind a n)) [vI (n : Int), vL (pls a (2 * n) : Int), vR sz]) ∧ ∀ q, q < 2 * n → f q = pt a n q
set_option maxRecDepth 20000 in
theorem cc_RR_archesOf (n : Nat) (a : Nat → Int) (hn : 1 ≤ n ∧ n ≤ 20) (ha : arch a n) (h : MH) (sz : Nat) : Ct M_RR_archesOf 6 2 43 [vI (n : Nat), vL (pls a (2 * n) : Int)] h sz (QAr n a h sz) := by
  refine Ct.of rfl (Nat.le_of_ble_eq_true rfl) ?_
  dsimp only [lsOf]
  refine V.iload_n (pc := 0) 0 d_RR_archesOf_0 rfl rfl ?_
  refine V.lload_n (pc := 1) 1 d_RR_archesOf_1 rfl rfl ?_
  refine V.cS2 (pc := 2) (kc2 := 1) (ks2 := 3) ml_RR_246 (cc_RR_partnersOf n (pls a (2 * n)) hn (by have := pls_40 a (show 2 * n ≤ 40 by omega); omega) a (fun q hq => by rw [pls_bit]; exact ⟨fun z => z.2, fun z => ⟨hq, z⟩⟩) ha _ _) d_RR_archesOf_2 (Nat.le_of_ble_eq_true rfl) (Nat.le_of_ble_eq_true rfl) (Nat.le_of_ble_eq_true rfl) (Nat.le_of_ble_eq_true rfl) ?_
  rintro _ _ _ ⟨rfl, rfl, f, rfl, hf⟩
  dsimp only [Option.toList, List.cons_append, List.nil_append]
  have hpk := peaks_iff (a := a) (show n ≤ 20 by omega)
  have hns := nest_iff (a := a) (n := n)
  have hp40 := pls_40 a (show 2 * n ≤ 40 by omega)
  have ht40 := two40 (show 2 * n ≤ 40 by omega)
  have ht20 := two40 (show n ≤ 40 by omega)
  have hps1 : 0 < 2 ^ (2 * n) := Nat.pow_pos (by decide)
  have hps2 : 0 < 2 ^ n := Nat.pow_pos (by decide)
  refine V.astore_n (pc := 5) 3 d_RR_archesOf_5 rfl (Nat.le_of_ble_eq_true rfl) rfl ?_
  dsimp only [put]
  refine V.lload_n (pc := 6) 1 d_RR_archesOf_6 rfl rfl ?_
  refine V.ldc2 (pc := 7) (366503875925) ck_RR_250 rfl ⟨by decide, by decide⟩ d_RR_archesOf_7 ?_
  refine V.lconst1 (pc := 10) d_RR_archesOf_10 ?_
  refine V.iconst (pc := 11) d_RR_archesOf_11 ⟨by decide, by decide⟩ ?_
  refine V.iload_n (pc := 12) 0 d_RR_archesOf_12 rfl rfl ?_
  refine V.imul (pc := 13) d_RR_archesOf_13 ⟨by omega, by omega⟩ ?_
  refine V.lshl (pc := 14) (((2 ^ (2 * n) : Nat) : Int)) d_RR_archesOf_14 (b_one (by omega) (by omega)) ?_
  refine V.lconst1 (pc := 15) d_RR_archesOf_15 ?_
  refine V.lsub (pc := 16) d_RR_archesOf_16 ⟨by omega, by omega⟩ ?_
  have e9 : (((2 ^ (2 * n) : Nat) : Int) - 1) = ((2 ^ (2 * n) - 1 : Nat) : Int) := by omega
  rw [e9]
  have e8 : (vL 366503875925 : MV) = vL ((366503875925 : Nat) : Int) := rfl
  rw [e8]
  refine V.land (pc := 17) (((366503875925 &&& (2 ^ (2 * n) - 1) : Nat) : Int)) d_RR_archesOf_17 (b_and (by decide) (by omega)) ?_
  refine V.lcmp (pc := 18) d_RR_archesOf_18 ?_
  refine V.if_ne (tgt := 33) (pc := 19) d_RR_archesOf_19 (by decide) (fun c_19 => ?_) (fun c_19 => ?_)
  · skip
    have hpk2 : ¬ peaks a n := fun z => by simp only [lc_ne] at c_19; exact c_19 (congrArg _ (hpk.mpr z))
    refine V.lload_n (pc := 33) 1 d_RR_archesOf_33 rfl rfl ?_
    refine V.lconst1 (pc := 34) d_RR_archesOf_34 ?_
    refine V.iload_n (pc := 35) 0 d_RR_archesOf_35 rfl rfl ?_
    refine V.lshl (pc := 36) (((2 ^ n : Nat) : Int)) d_RR_archesOf_36 (b_one rfl (by omega)) ?_
    refine V.lconst1 (pc := 37) d_RR_archesOf_37 ?_
    refine V.lsub (pc := 38) d_RR_archesOf_38 ⟨by omega, by omega⟩ ?_
    have e7 : (((2 ^ n : Nat) : Int) - 1) = ((2 ^ n - 1 : Nat) : Int) := by omega
    rw [e7]
    refine V.lcmp (pc := 39) d_RR_archesOf_39 ?_
    refine V.if_ne (tgt := 54) (pc := 40) d_RR_archesOf_40 (by decide) (fun c_40 => ?_) (fun c_40 => ?_)
    · skip
      have hns2 : ¬ nest a n := fun z => by simp only [lc_ne] at c_40; exact c_40 (congrArg _ (hns.mpr z))
      refine V.new (pc := 54) d0_Ar (kc2 := 0) (ks2 := 0) cl_Ar cl_RR_91 nw_Ar.1 nw_Ar.2 d_RR_archesOf_54 df_Ar ok_Ar (Nat.le_of_ble_eq_true rfl) (Nat.le_of_ble_eq_true rfl) ?_
      refine V.dup (pc := 57) d_RR_archesOf_57 (fun _ => rfl) ?_
      refine V.iload_n (pc := 58) 0 d_RR_archesOf_58 rfl rfl ?_
      refine V.lload_n (pc := 59) 1 d_RR_archesOf_59 rfl rfl ?_
      refine V.aload_n (pc := 60) 3 d_RR_archesOf_60 rfl rfl ?_
      refine V.cI3 (pc := 61) (kc2 := 0) (ks2 := 0) ml_RR_256 (ci_Ar_init_Ar _ _ _ _ _ hset_s _) d_RR_archesOf_61 (Nat.le_of_ble_eq_true rfl) (Nat.le_of_ble_eq_true rfl) (Nat.le_of_ble_eq_true rfl) (Nat.le_of_ble_eq_true rfl) ?_
      rintro _ _ _ ⟨rfl, rfl, rfl⟩
      dsimp only [Option.toList, List.cons_append, List.nil_append]
      refine V.ret (pc := 64) (r := some (vR _)) d_RR_archesOf_64 (Or.inr ⟨_, rfl⟩) rfl ?_
      simp only [hset_tw]
      refine ⟨rfl, rfl, f, ?_, hf⟩
      have ek : rowKind a n = 2 := by unfold rowKind; rw [if_pos ha, if_neg hpk2, if_neg hns2]
      rw [ek]; rfl
    · skip
      have hns2 : nest a n := hns.mp (by simp only [lc_eq] at c_40; exact Int.ofNat.inj c_40)
      refine V.new (pc := 43) d0_Ar (kc2 := 0) (ks2 := 0) cl_Ne cl_RR_231 nw_Ne.1 nw_Ne.2 d_RR_archesOf_43 df_Ar ok_Ar (Nat.le_of_ble_eq_true rfl) (Nat.le_of_ble_eq_true rfl) ?_
      refine V.dup (pc := 46) d_RR_archesOf_46 (fun _ => rfl) ?_
      refine V.iload_n (pc := 47) 0 d_RR_archesOf_47 rfl rfl ?_
      refine V.lload_n (pc := 48) 1 d_RR_archesOf_48 rfl rfl ?_
      refine V.aload_n (pc := 49) 3 d_RR_archesOf_49 rfl rfl ?_
      refine V.cI3 (pc := 50) (kc2 := 0) (ks2 := 0) ml_RR_255 (ci_Ne_init _ _ _ _ _ hset_s _) d_RR_archesOf_50 (Nat.le_of_ble_eq_true rfl) (Nat.le_of_ble_eq_true rfl) (Nat.le_of_ble_eq_true rfl) (Nat.le_of_ble_eq_true rfl) ?_
      rintro _ _ _ ⟨rfl, rfl, rfl⟩
      dsimp only [Option.toList, List.cons_append, List.nil_append]
      refine V.ret (pc := 53) (r := some (vR _)) d_RR_archesOf_53 (Or.inr ⟨_, rfl⟩) rfl ?_
      simp only [hset_tw]
      refine ⟨rfl, rfl, f, ?_, hf⟩
      have ek : rowKind a n = 3 := by unfold rowKind; rw [if_pos ha, if_neg hpk2, if_pos hns2]
      rw [ek]; rfl
  · skip
    have hpk2 : peaks a n := hpk.mp (by simp only [lc_eq] at c_19; exact Int.ofNat.inj c_19)
    refine V.new (pc := 22) d0_Ar (kc2 := 0) (ks2 := 0) cl_Pe cl_RR_233 nw_Pe.1 nw_Pe.2 d_RR_archesOf_22 df_Ar ok_Ar (Nat.le_of_ble_eq_true rfl) (Nat.le_of_ble_eq_true rfl) ?_
    refine V.dup (pc := 25) d_RR_archesOf_25 (fun _ => rfl) ?_
    refine V.iload_n (pc := 26) 0 d_RR_archesOf_26 rfl rfl ?_
    refine V.lload_n (pc := 27) 1 d_RR_archesOf_27 rfl rfl ?_
    refine V.aload_n (pc := 28) 3 d_RR_archesOf_28 rfl rfl ?_
    refine V.cI3 (pc := 29) (kc2 := 0) (ks2 := 0) ml_RR_252 (ci_Pe_init _ _ _ _ _ hset_s _) d_RR_archesOf_29 (Nat.le_of_ble_eq_true rfl) (Nat.le_of_ble_eq_true rfl) (Nat.le_of_ble_eq_true rfl) (Nat.le_of_ble_eq_true rfl) ?_
    rintro _ _ _ ⟨rfl, rfl, rfl⟩
    dsimp only [Option.toList, List.cons_append, List.nil_append]
    refine V.ret (pc := 32) (r := some (vR _)) d_RR_archesOf_32 (Or.inr ⟨_, rfl⟩) rfl ?_
    simp only [hset_tw]
    refine ⟨rfl, rfl, f, ?_, hf⟩
    have ek : rowKind a n = 4 := by unfold rowKind; rw [if_pos ha, if_pos hpk2]
    rw [ek]; rfl
def QRo (n : Nat) (a : Nat → Int) (h : MH) (sz : Nat) : QT := fun r h2 s => (arch a n ∧ QAr n a h sz r h2 s) ∨ (¬ arch a n ∧ r = some (vR sz) ∧ s = sz + 1 ∧ h2 = hset h sz (kO 3 [vI (n : Int), vL (pls a (2 * n) : Int)]))
set_option maxRecDepth 20000 in
theorem cc_RR_rowOf (n : Nat) (a : Nat → Int) (hn : 1 ≤ n ∧ n ≤ 20) (h : MH) (sz : Nat) : Ct M_RR_rowOf 7 2 43 [vI (n : Nat), vL (pls a (2 * n) : Int)] h sz (QRo n a h sz) := by
  refine Ct.of rfl (Nat.le_of_ble_eq_true rfl) ?_
  dsimp only [lsOf]
  refine V.iload_n (pc := 0) 0 d_RR_rowOf_0 rfl rfl ?_
  refine V.lload_n (pc := 1) 1 d_RR_rowOf_1 rfl rfl ?_
  refine V.cS2 (pc := 2) (kc2 := 2) (ks2 := 43) ml_RR_239 (cc_RR_areArches n (pls a (2 * n)) hn (by have := pls_40 a (show 2 * n ≤ 40 by omega); omega) a (fun q hq => by rw [pls_bit]; exact ⟨fun z => z.2, fun z => ⟨hq, z⟩⟩) _ _) d_RR_rowOf_2 (Nat.le_of_ble_eq_true rfl) (Nat.le_of_ble_eq_true rfl) (Nat.le_of_ble_eq_true rfl) (Nat.le_of_ble_eq_true rfl) ?_
  rintro _ _ _ ⟨rfl, rfl, rfl⟩
  dsimp only [Option.toList, List.cons_append, List.nil_append]
  refine V.ifB_eq (tgt := 16) (pc := 5) d_RR_rowOf_5 (by decide) (fun c_5 => ?_) (fun c_5 => ?_)
  · skip
    refine V.new (pc := 16) d0_Row (kc2 := 1) (ks2 := 41) cl_Row cl_RR_171 nw_Row.1 nw_Row.2 d_RR_rowOf_16 df_Row ok_Row (Nat.le_of_ble_eq_true rfl) (Nat.le_of_ble_eq_true rfl) ?_
    refine V.dup (pc := 19) d_RR_rowOf_19 (fun _ => rfl) ?_
    refine V.iload_n (pc := 20) 0 d_RR_rowOf_20 rfl rfl ?_
    refine V.lload_n (pc := 21) 1 d_RR_rowOf_21 rfl rfl ?_
    refine V.cI2 (pc := 22) (kc2 := 1) (ks2 := 41) ml_RR_243 (ci_Row_init_Row _ _ _ _ hset_s _) d_RR_rowOf_22 (Nat.le_of_ble_eq_true rfl) (Nat.le_of_ble_eq_true rfl) (Nat.le_of_ble_eq_true rfl) (Nat.le_of_ble_eq_true rfl) ?_
    rintro _ _ _ ⟨rfl, rfl, rfl⟩
    dsimp only [Option.toList, List.cons_append, List.nil_append]
    refine V.ret (pc := 25) (r := some (vR _)) d_RR_rowOf_25 (Or.inr ⟨_, rfl⟩) rfl ?_
    refine Or.inr ⟨c_5, rfl, rfl, ?_⟩
    simp only [hset_tw]
  · skip
    refine V.iload_n (pc := 8) 0 d_RR_rowOf_8 rfl rfl ?_
    refine V.lload_n (pc := 9) 1 d_RR_rowOf_9 rfl rfl ?_
    refine V.cS2 (pc := 10) (kc2 := 0) (ks2 := 0) ml_RR_122 (cc_RR_archesOf n a hn c_5 _ _) d_RR_rowOf_10 (Nat.le_of_ble_eq_true rfl) (Nat.le_of_ble_eq_true rfl) (Nat.le_of_ble_eq_true rfl) (Nat.le_of_ble_eq_true rfl) ?_
    rintro _ _ _ ⟨rfl, rfl, f, rfl, hf⟩
    dsimp only [Option.toList, List.cons_append, List.nil_append]
    refine V.goto (tgt := 25) (pc := 13) d_RR_rowOf_13 (by decide) ?_
    refine V.ret (pc := 25) (r := some (vR _)) d_RR_rowOf_25 (Or.inr ⟨_, rfl⟩) rfl ?_
    exact Or.inl ⟨c_5, rfl, rfl, f, rfl, hf⟩
