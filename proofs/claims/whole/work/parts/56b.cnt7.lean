/-! COUNTING in the kernel: the lands of 7, all, printed by wip/whole/gen/chunks.py -/
theorem P7_app : P7 = C7_0 ++ (C7_1 ++ (C7_2 ++ (C7_3 ++ (C7_4 ++ (C7_5 ++ (C7_6 ++ (C7_7 ++ (C7_8 ++ (C7_9 ++ (C7_10 ++ (C7_11 ++ (C7_12)))))))))))) := by decide +kernel
theorem kh_7 : khist2 7 (PL 7) (PL 7) = s8 (fun k => [0, 13820, 45164, 60312, 42840, 17472, 4004, 429].getD k 0) := by
  rw [P7_eq]
  have e : khist2 7 P7 P7 = khist2 7 P7 (C7_0 ++ (C7_1 ++ (C7_2 ++ (C7_3 ++ (C7_4 ++ (C7_5 ++ (C7_6 ++ (C7_7 ++ (C7_8 ++ (C7_9 ++ (C7_10 ++ (C7_11 ++ (C7_12))))))))))))) := by rw [← P7_app]
  rw [e, khist2_app, khist2_app, khist2_app, khist2_app, khist2_app, khist2_app, khist2_app, khist2_app, khist2_app, khist2_app, khist2_app, khist2_app, k7_0, k7_1, k7_2, k7_3, k7_4, k7_5, k7_6, k7_7, k7_8, k7_9, k7_10, k7_11, k7_12]
  decide +kernel
