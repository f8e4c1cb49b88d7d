/-! cells of the fresh pool, by the kernel -/
theorem p0_0 : P0[0]? = some (6, [.ref 1, .ref 27, .ref 53, .ref 79, .ref 289, .ref 291, .ref 294, .ref 298, .int 0, .int (-1004), .int 0, .int 0, .int (-1004)]) := by decide +kernel
theorem p0_1 : P0[1]? = some (5, [.ref 2, .int 0, .int 30, .int 0]) := by decide +kernel
theorem p0_2 : P0[2]? = some (10, [.ref 3, .ref 6, .ref 9, .ref 12, .ref 15, .ref 18, .ref 21, .ref 24]) := by decide +kernel
theorem p0_27 : P0[27]? = some (5, [.ref 28, .int 0, .int 30, .int 0]) := by decide +kernel
theorem p0_28 : P0[28]? = some (10, [.ref 29, .ref 32, .ref 35, .ref 38, .ref 41, .ref 44, .ref 47, .ref 50]) := by decide +kernel
theorem p0_53 : P0[53]? = some (5, [.ref 54, .int 0, .int 30, .int 0]) := by decide +kernel
theorem p0_54 : P0[54]? = some (10, [.ref 55, .ref 58, .ref 61, .ref 64, .ref 67, .ref 70, .ref 73, .ref 76]) := by decide +kernel
theorem p0_79 : P0[79]? = some (0, [.ref 80, .int 0, .int 0, .int 0]) := by decide +kernel
theorem p0_80 : P0[80]? = some (11, [.ref 81, .ref 107, .ref 133, .ref 159, .ref 185, .ref 211, .ref 237, .ref 263]) := by decide +kernel
theorem p0_81 : P0[81]? = some (5, [.ref 82, .int 0, .int 30, .int 0]) := by decide +kernel
theorem p0_82 : P0[82]? = some (10, [.ref 83, .ref 86, .ref 89, .ref 92, .ref 95, .ref 98, .ref 101, .ref 104]) := by decide +kernel
theorem p0_289 : P0[289]? = some (4, [.ref 290, .int 0, .int 0, .int 0, .int 0, .int 0, .int 0, .int 0]) := by decide +kernel
theorem p0_290 : P0[290]? = some (8, List.replicate 80 (.int 0)) := by decide +kernel
theorem p0_291 : P0[291]? = some (3, [.int 0, .int 0, .ref 292, .ref 293]) := by decide +kernel
theorem p0_294 : P0[294]? = some (1, [.int 0, .ref 295, .ref 296, .ref 297]) := by decide +kernel
theorem p0_298 : P0[298]? = some (2, [.int 0, .int 0, .int 0, .ref 299, .ref 300]) := by decide +kernel
theorem p0_299 : P0[299]? = some (8, List.replicate 8 (.int 0)) := by decide +kernel
theorem p0_300 : P0[300]? = some (8, List.replicate 8 (.int 0)) := by decide +kernel
theorem p0_3 : P0[3]? = some (2, [.int 0, .int 0, .int 0, .ref 4, .ref 5]) := by decide +kernel
theorem p0_4 : P0[4]? = some (8, List.replicate 8 (.int 0)) := by decide +kernel
theorem p0_5 : P0[5]? = some (8, List.replicate 8 (.int 0)) := by decide +kernel
theorem p0_301 : P0[301]? = some (7, [.ref 302, .ref 303, .ref 304, .ref 305, .int 0, .int 0, .int 0, .int (-1004), .int 0, .ref 306, .ref 307, .ref 308, .ref 309, .int 0, .int 0, .ref 310, .ref 311, .ref 312, .ref 313, .int 0, .int 0, .int 0, .ref 314, .int 0, .int 0, .int 0, .int 0, .int 0, .int 0, .int 0]) := by decide +kernel
theorem p0_302 : P0[302]? = some (8, (List.replicate 155 (.int 0)).set 1 (.int 30)) := by decide +kernel
theorem p0_303 : P0[303]? = some (8, List.replicate 155 (.int 0)) := by decide +kernel
theorem p0_304 : P0[304]? = some (8, List.replicate 155 (.int 0)) := by decide +kernel
theorem p0_305 : P0[305]? = some (8, List.replicate 1240 (.int 0)) := by decide +kernel
theorem p0_306 : P0[306]? = some (8, List.replicate 8 (.int 0)) := by decide +kernel
theorem p0_307 : P0[307]? = some (8, List.replicate 8 (.int 0)) := by decide +kernel
theorem p0_308 : P0[308]? = some (8, List.replicate 8 (.int 0)) := by decide +kernel
theorem p0_309 : P0[309]? = some (8, List.replicate 8 (.int 0)) := by decide +kernel
theorem p0_310 : P0[310]? = some (8, List.replicate 7 (.int 0)) := by decide +kernel
theorem p0_311 : P0[311]? = some (8, List.replicate 7 (.int 0)) := by decide +kernel
theorem p0_312 : P0[312]? = some (8, List.replicate 8 (.int 0)) := by decide +kernel
theorem p0_314 : P0[314]? = some (8, List.replicate 80 (.int 0)) := by decide +kernel
