/-! THE LAW'S LOOP: two calls a case, the cells as one of the patterns between them. Written by wip/law/asmgen.py. -/
set_option maxRecDepth 1000000 in
theorem iv_fr : pr_in iv_s ([], [], [], fr_w.map (fun x => (false, some (ab_c x)))) = true := by decide +kernel
set_option maxRecDepth 1000000 in
theorem pc0_0 : pr_ckQ [ka_1, ka_2] 3 4 [true] iv_0 (pr_QL [(iv_0, iv_l0)] false ([33, 63] ++ (sh_F ++ bf_0)) [(.inr (0, 11), 1), (.inr (59, 6), 2), (.inr (0, 13), 8), (.inr (59, 33), 7), (.inr (59, 2), 5), (.inr (59, 3), 6)]) = true := by decide +kernel
set_option maxRecDepth 1000000 in
theorem sy_0_0 : pr_sy [(.inr (0, 11), 1), (.inr (59, 6), 2), (.inr (0, 13), 8), (.inr (59, 33), 7), (.inr (59, 2), 5), (.inr (59, 3), 6)] iv_0 = true := by decide +kernel
set_option maxRecDepth 1000000 in
theorem pc1_0 : pr_ckQ [kb_1, ka_2] 3 4 [true] iv_1 (pr_QL [(iv_1, iv_l1)] false ([33, 63] ++ (sh_F ++ bf_1)) [(.inr (0, 11), 1), (.inr (59, 6), 2), (.inr (0, 13), 8), (.inr (59, 33), 7), (.inr (59, 2), 5), (.inr (59, 3), 6)]) = true := by decide +kernel
set_option maxRecDepth 1000000 in
theorem sy_1_1 : pr_sy [(.inr (0, 11), 1), (.inr (59, 6), 2), (.inr (0, 13), 8), (.inr (59, 33), 7), (.inr (59, 2), 5), (.inr (59, 3), 6)] iv_1 = true := by decide +kernel
set_option maxRecDepth 1000000 in
theorem pc0_1 : pr_ckQ [ka_3, ka_5] 5 6 [false] iv_0 (pr_QL [(iv_0, iv_l0)] false ([33, 63] ++ (sh_F ++ bf_0)) [(.inr (0, 11), 1), (.inr (59, 6), 2), (.inr (0, 13), 8), (.inr (59, 33), 7), (.inr (59, 2), 5), (.inr (59, 3), 6)]) = true := by decide +kernel
set_option maxRecDepth 1000000 in
theorem pc1_1 : pr_ckQ [kb_2, ka_5] 5 6 [false] iv_1 (pr_QL [(iv_1, iv_l1)] false ([33, 63] ++ (sh_F ++ bf_1)) [(.inr (0, 11), 1), (.inr (59, 6), 2), (.inr (0, 13), 8), (.inr (59, 33), 7), (.inr (59, 2), 5), (.inr (59, 3), 6)]) = true := by decide +kernel
set_option maxRecDepth 1000000 in
theorem pc0_2 : pr_ckQ [ka_250, ka_342] 7 8 [] iv_0 (pr_QL iv_s false ([] ++ (sh_F ++ [])) [(.inr (0, 13), 8), (.inr (59, 33), 7)]) = true := by decide +kernel
set_option maxRecDepth 1000000 in
theorem sy_0_2 : pr_sy [(.inr (0, 13), 8), (.inr (59, 33), 7)] iv_0 = true := by decide +kernel
set_option maxRecDepth 1000000 in
theorem pc1_2 : pr_ckQ [kb_247, ka_342] 7 8 [] iv_1 (pr_QL iv_s false ([] ++ (sh_F ++ [])) [(.inr (0, 13), 8), (.inr (59, 33), 7)]) = true := by decide +kernel
set_option maxRecDepth 1000000 in
theorem sy_1_3 : pr_sy [(.inr (0, 13), 8), (.inr (59, 33), 7)] iv_1 = true := by decide +kernel
set_option maxRecDepth 1000000 in
theorem pc0_3 : pr_ckQ [ka_343, ka_344] 9 10 [] iv_0 (pr_QL [(iv_0, iv_l0)] false ([15, 16, 66, 33, 63] ++ (sh_F ++ bf_0)) [(.inr (59, 15), 0), (.inr (0, 11), 1), (.inr (59, 6), 2), (.inr (0, 13), 8), (.inr (59, 33), 7), (.inr (59, 2), 5), (.inr (59, 3), 6)]) = true := by decide +kernel
set_option maxRecDepth 1000000 in
theorem sy_0_4 : pr_sy [(.inr (59, 15), 0), (.inr (0, 11), 1), (.inr (59, 6), 2), (.inr (0, 13), 8), (.inr (59, 33), 7), (.inr (59, 2), 5), (.inr (59, 3), 6)] iv_0 = true := by decide +kernel
set_option maxRecDepth 1000000 in
theorem pc1_3 : pr_ckQ [kb_248, ka_344] 9 10 [] iv_1 (pr_QL [(iv_1, iv_l1)] false ([15, 16, 66, 33, 63] ++ (sh_F ++ bf_1)) [(.inr (59, 15), 0), (.inr (0, 11), 1), (.inr (59, 6), 2), (.inr (0, 13), 8), (.inr (59, 33), 7), (.inr (59, 2), 5), (.inr (59, 3), 6)]) = true := by decide +kernel
set_option maxRecDepth 1000000 in
theorem sy_1_5 : pr_sy [(.inr (59, 15), 0), (.inr (0, 11), 1), (.inr (59, 6), 2), (.inr (0, 13), 8), (.inr (59, 33), 7), (.inr (59, 2), 5), (.inr (59, 3), 6)] iv_1 = true := by decide +kernel
set_option maxRecDepth 1000000 in
theorem pc0_4 : pr_ckQ [ka_345, ka_346] 11 12 [false] iv_0 (pr_QL [(iv_0, iv_l0)] false ([15, 16, 66, 33, 63] ++ (sh_F ++ bf_0)) [(.inr (59, 15), 0), (.inr (0, 11), 1), (.inr (59, 6), 2), (.inr (0, 13), 8), (.inr (59, 33), 7), (.inr (59, 2), 5), (.inr (59, 3), 6)]) = true := by decide +kernel
set_option maxRecDepth 1000000 in
theorem pc1_4 : pr_ckQ [kb_249, ka_346] 11 12 [false] iv_1 (pr_QL [(iv_1, iv_l1)] false ([15, 16, 66, 33, 63] ++ (sh_F ++ bf_1)) [(.inr (59, 15), 0), (.inr (0, 11), 1), (.inr (59, 6), 2), (.inr (0, 13), 8), (.inr (59, 33), 7), (.inr (59, 2), 5), (.inr (59, 3), 6)]) = true := by decide +kernel
set_option maxRecDepth 1000000 in
theorem pc0_5 : pr_ckQ [ka_347, ka_349] 13 14 [false] iv_0 (pr_QL [(iv_0, iv_l0)] false ([15, 16, 66, 33, 63] ++ (sh_F ++ bf_0)) [(.inr (59, 15), 0), (.inr (0, 11), 1), (.inr (59, 6), 2), (.inr (0, 13), 8), (.inr (59, 33), 7), (.inr (59, 2), 5), (.inr (59, 3), 6)]) = true := by decide +kernel
set_option maxRecDepth 1000000 in
theorem pc1_5 : pr_ckQ [kb_250, ka_349] 13 14 [false] iv_1 (pr_QL [(iv_1, iv_l1)] false ([15, 16, 66, 33, 63] ++ (sh_F ++ bf_1)) [(.inr (59, 15), 0), (.inr (0, 11), 1), (.inr (59, 6), 2), (.inr (0, 13), 8), (.inr (59, 33), 7), (.inr (59, 2), 5), (.inr (59, 3), 6)]) = true := by decide +kernel
set_option maxRecDepth 1000000 in
theorem pc0_6 : pr_ckQ [ka_351, ka_354] 15 16 [false] iv_0 (pr_QL [(iv_0, iv_l0)] false ([15, 16, 66, 33, 63] ++ (sh_F ++ bf_0)) [(.inr (59, 15), 0), (.inr (0, 11), 1), (.inr (59, 6), 2), (.inr (0, 13), 8), (.inr (59, 33), 7), (.inr (59, 2), 5), (.inr (59, 3), 6)]) = true := by decide +kernel
set_option maxRecDepth 1000000 in
theorem pc1_6 : pr_ckQ [kb_252, ka_354] 15 16 [false] iv_1 (pr_QL [(iv_1, iv_l1)] false ([15, 16, 66, 33, 63] ++ (sh_F ++ bf_1)) [(.inr (59, 15), 0), (.inr (0, 11), 1), (.inr (59, 6), 2), (.inr (0, 13), 8), (.inr (59, 33), 7), (.inr (59, 2), 5), (.inr (59, 3), 6)]) = true := by decide +kernel
set_option maxRecDepth 1000000 in
theorem pc0_7 : pr_ckQ [ka_356, ka_359] 17 18 [false] iv_0 (pr_QL [(iv_0, iv_l0)] false ([15, 16, 66, 33, 63] ++ (sh_F ++ bf_0)) [(.inr (59, 15), 0), (.inr (0, 11), 1), (.inr (59, 6), 2), (.inr (0, 13), 8), (.inr (59, 33), 7), (.inr (59, 2), 5), (.inr (59, 3), 6)]) = true := by decide +kernel
set_option maxRecDepth 1000000 in
theorem pc1_7 : pr_ckQ [kb_254, ka_359] 17 18 [false] iv_1 (pr_QL [(iv_1, iv_l1)] false ([15, 16, 66, 33, 63] ++ (sh_F ++ bf_1)) [(.inr (59, 15), 0), (.inr (0, 11), 1), (.inr (59, 6), 2), (.inr (0, 13), 8), (.inr (59, 33), 7), (.inr (59, 2), 5), (.inr (59, 3), 6)]) = true := by decide +kernel
set_option maxRecDepth 1000000 in
theorem pc0_8 : pr_ckQ [ka_360, ka_361] 19 20 [false] iv_0 (pr_QL [(iv_0, iv_l0)] false ([15, 16, 66, 33, 63] ++ (sh_F ++ [])) [(.inr (59, 15), 0), (.inr (0, 11), 1), (.inr (59, 6), 2), (.inr (0, 13), 8), (.inr (59, 33), 7)]) = true := by decide +kernel
set_option maxRecDepth 1000000 in
theorem sy_0_6 : pr_sy [(.inr (59, 15), 0), (.inr (0, 11), 1), (.inr (59, 6), 2), (.inr (0, 13), 8), (.inr (59, 33), 7)] iv_0 = true := by decide +kernel
set_option maxRecDepth 1000000 in
theorem pc1_8 : pr_ckQ [kb_255, ka_361] 19 20 [false] iv_1 (pr_QL [(iv_1, iv_l1)] false ([15, 16, 66, 33, 63] ++ (sh_F ++ [])) [(.inr (59, 15), 0), (.inr (0, 11), 1), (.inr (59, 6), 2), (.inr (0, 13), 8), (.inr (59, 33), 7)]) = true := by decide +kernel
set_option maxRecDepth 1000000 in
theorem sy_1_7 : pr_sy [(.inr (59, 15), 0), (.inr (0, 11), 1), (.inr (59, 6), 2), (.inr (0, 13), 8), (.inr (59, 33), 7)] iv_1 = true := by decide +kernel
set_option maxRecDepth 1000000 in
theorem pc0_9 : pr_ckQ [ka_362, ka_364] 21 22 [false] iv_0 (pr_QL [(iv_0, iv_l0)] false ([15, 16, 66, 33, 63] ++ (sh_F ++ [])) [(.inr (59, 15), 0), (.inr (0, 11), 1), (.inr (59, 6), 2), (.inr (0, 13), 8), (.inr (59, 33), 7)]) = true := by decide +kernel
set_option maxRecDepth 1000000 in
theorem pc1_9 : pr_ckQ [kb_256, ka_364] 21 22 [false] iv_1 (pr_QL [(iv_1, iv_l1)] false ([15, 16, 66, 33, 63] ++ (sh_F ++ [])) [(.inr (59, 15), 0), (.inr (0, 11), 1), (.inr (59, 6), 2), (.inr (0, 13), 8), (.inr (59, 33), 7)]) = true := by decide +kernel
set_option maxRecDepth 1000000 in
theorem pc0_10 : pr_ckQ [ka_365, ka_367] 23 24 [false] iv_0 (pr_QL [(iv_0, iv_l0)] false ([15, 16, 66, 33, 63] ++ (sh_F ++ [])) [(.inr (59, 15), 0), (.inr (0, 11), 1), (.inr (59, 6), 2), (.inr (0, 13), 8), (.inr (59, 33), 7)]) = true := by decide +kernel
set_option maxRecDepth 1000000 in
theorem pc1_10 : pr_ckQ [kb_257, ka_367] 23 24 [false] iv_1 (pr_QL [(iv_1, iv_l1)] false ([15, 16, 66, 33, 63] ++ (sh_F ++ [])) [(.inr (59, 15), 0), (.inr (0, 11), 1), (.inr (59, 6), 2), (.inr (0, 13), 8), (.inr (59, 33), 7)]) = true := by decide +kernel
set_option maxRecDepth 1000000 in
theorem pc0_11 : pr_ckQ [ka_368, ka_369] 25 26 [false, false] iv_0 (pr_QL [(iv_0, iv_l0)] false ([15, 16, 66, 33, 63] ++ (sh_F ++ [])) [(.inr (59, 15), 0), (.inr (0, 11), 1), (.inr (59, 6), 2), (.inr (0, 13), 8), (.inr (59, 33), 7)]) = true := by decide +kernel
set_option maxRecDepth 1000000 in
theorem pc1_11 : pr_ckQ [kb_258, ka_369] 25 26 [false, false] iv_1 (pr_QL [(iv_1, iv_l1)] false ([15, 16, 66, 33, 63] ++ (sh_F ++ [])) [(.inr (59, 15), 0), (.inr (0, 11), 1), (.inr (59, 6), 2), (.inr (0, 13), 8), (.inr (59, 33), 7)]) = true := by decide +kernel
set_option maxRecDepth 1000000 in
theorem pc0_12 : pr_ckQ [ka_370, ka_372] 27 28 [false] iv_0 (pr_QL [(iv_0, iv_l0)] false ([15, 16, 66, 33, 63] ++ (sh_F ++ [])) [(.inr (59, 15), 0), (.inr (0, 11), 1), (.inr (59, 6), 2), (.inr (0, 13), 8), (.inr (59, 33), 7)]) = true := by decide +kernel
set_option maxRecDepth 1000000 in
theorem pc1_12 : pr_ckQ [kb_259, ka_372] 27 28 [false] iv_1 (pr_QL [(iv_1, iv_l1)] false ([15, 16, 66, 33, 63] ++ (sh_F ++ [])) [(.inr (59, 15), 0), (.inr (0, 11), 1), (.inr (59, 6), 2), (.inr (0, 13), 8), (.inr (59, 33), 7)]) = true := by decide +kernel
set_option maxRecDepth 1000000 in
theorem pc0_13 : pr_ckQ [ka_379, ka_385] 29 30 [] iv_0 (pr_QL [(iv_0, iv_l0)] false ([15, 16, 66, 33, 63] ++ (sh_F ++ bf_0)) [(.inr (59, 15), 0), (.inr (0, 11), 1), (.inr (59, 6), 2), (.inr (0, 13), 8), (.inr (59, 33), 7), (.inr (59, 2), 5), (.inr (59, 3), 6)]) = true := by decide +kernel
set_option maxRecDepth 1000000 in
theorem pc1_13 : pr_ckQ [kb_266, ka_385] 29 30 [] iv_1 (pr_QL [(iv_1, iv_l1)] false ([15, 16, 66, 33, 63] ++ (sh_F ++ bf_1)) [(.inr (59, 15), 0), (.inr (0, 11), 1), (.inr (59, 6), 2), (.inr (0, 13), 8), (.inr (59, 33), 7), (.inr (59, 2), 5), (.inr (59, 3), 6)]) = true := by decide +kernel
set_option maxRecDepth 1000000 in
theorem pc0_14 : pr_ckQ [ka_388, ka_390] 31 32 [false] iv_0 (pr_QL [(iv_0, iv_l0)] false ([15, 16, 66, 33, 63] ++ (sh_F ++ bf_0)) [(.inr (59, 15), 0), (.inr (0, 11), 1), (.inr (59, 6), 2), (.inr (0, 13), 8), (.inr (59, 33), 7), (.inr (59, 2), 5), (.inr (59, 3), 6)]) = true := by decide +kernel
set_option maxRecDepth 1000000 in
theorem pc1_14 : pr_ckQ [kb_269, ka_390] 31 32 [false] iv_1 (pr_QL [(iv_1, iv_l1)] false ([15, 16, 66, 33, 63] ++ (sh_F ++ bf_1)) [(.inr (59, 15), 0), (.inr (0, 11), 1), (.inr (59, 6), 2), (.inr (0, 13), 8), (.inr (59, 33), 7), (.inr (59, 2), 5), (.inr (59, 3), 6)]) = true := by decide +kernel
set_option maxRecDepth 1000000 in
theorem pc0_15 : pr_ckQ [ka_396, ka_400] 33 34 [false] iv_0 (pr_QL [(iv_0, iv_l0)] false ([15, 16, 66, 33, 63] ++ (sh_F ++ bf_0)) [(.inr (59, 15), 0), (.inr (0, 11), 1), (.inr (59, 6), 2), (.inr (0, 13), 8), (.inr (59, 33), 7), (.inr (59, 2), 5), (.inr (59, 3), 6)]) = true := by decide +kernel
set_option maxRecDepth 1000000 in
theorem pc1_15 : pr_ckQ [kb_275, ka_400] 33 34 [false] iv_1 (pr_QL [(iv_1, iv_l1)] false ([15, 16, 66, 33, 63] ++ (sh_F ++ bf_1)) [(.inr (59, 15), 0), (.inr (0, 11), 1), (.inr (59, 6), 2), (.inr (0, 13), 8), (.inr (59, 33), 7), (.inr (59, 2), 5), (.inr (59, 3), 6)]) = true := by decide +kernel
set_option maxRecDepth 1000000 in
theorem pc0_16 : pr_ckQ [ka_403, ka_404] 35 36 [false] iv_0 (pr_QL [(iv_0, iv_l0)] false ([15, 16, 66, 33, 63] ++ (sh_F ++ [])) [(.inr (59, 15), 0), (.inr (0, 11), 1), (.inr (59, 6), 2), (.inr (0, 13), 8), (.inr (59, 33), 7)]) = true := by decide +kernel
set_option maxRecDepth 1000000 in
theorem pc1_16 : pr_ckQ [kb_278, ka_404] 35 36 [false] iv_1 (pr_QL [(iv_1, iv_l1)] false ([15, 16, 66, 33, 63] ++ (sh_F ++ [])) [(.inr (59, 15), 0), (.inr (0, 11), 1), (.inr (59, 6), 2), (.inr (0, 13), 8), (.inr (59, 33), 7)]) = true := by decide +kernel
set_option maxRecDepth 1000000 in
theorem pc0_17 : pr_ckQ [ka_406, ka_415] 37 38 [] iv_0 (pr_QL [(iv_0, iv_l0)] false ([15, 16, 66, 33, 63] ++ (sh_F ++ bf_0)) [(.inr (59, 15), 0), (.inr (0, 11), 1), (.inr (59, 6), 2), (.inr (0, 13), 8), (.inr (59, 33), 7), (.inr (59, 2), 5), (.inr (59, 3), 6)]) = true := by decide +kernel
set_option maxRecDepth 1000000 in
theorem pc1_17 : pr_ckQ [kb_280, ka_415] 37 38 [] iv_1 (pr_QL [(iv_1, iv_l1)] false ([15, 16, 66, 33, 63] ++ (sh_F ++ bf_1)) [(.inr (59, 15), 0), (.inr (0, 11), 1), (.inr (59, 6), 2), (.inr (0, 13), 8), (.inr (59, 33), 7), (.inr (59, 2), 5), (.inr (59, 3), 6)]) = true := by decide +kernel
set_option maxRecDepth 1000000 in
theorem pc0_18 : pr_ckQ [ka_416, ka_417] 39 40 [false] iv_0 (pr_QL [(iv_0, iv_l0)] false ([15, 16, 66] ++ (sh_F ++ bf_0)) [(.inr (59, 15), 0), (.inr (0, 13), 8), (.inr (59, 33), 7), (.inr (59, 2), 5), (.inr (59, 3), 6)]) = true := by decide +kernel
set_option maxRecDepth 1000000 in
theorem sy_0_8 : pr_sy [(.inr (59, 15), 0), (.inr (0, 13), 8), (.inr (59, 33), 7), (.inr (59, 2), 5), (.inr (59, 3), 6)] iv_0 = true := by decide +kernel
set_option maxRecDepth 1000000 in
theorem pc1_18 : pr_ckQ [kb_281, ka_417] 39 40 [false] iv_1 (pr_QL [(iv_1, iv_l1)] false ([15, 16, 66] ++ (sh_F ++ bf_1)) [(.inr (59, 15), 0), (.inr (0, 13), 8), (.inr (59, 33), 7), (.inr (59, 2), 5), (.inr (59, 3), 6)]) = true := by decide +kernel
set_option maxRecDepth 1000000 in
theorem sy_1_9 : pr_sy [(.inr (59, 15), 0), (.inr (0, 13), 8), (.inr (59, 33), 7), (.inr (59, 2), 5), (.inr (59, 3), 6)] iv_1 = true := by decide +kernel
set_option maxRecDepth 1000000 in
theorem pc0_19 : pr_ckQ [ka_418, ka_420] 41 42 [false] iv_0 (pr_QL [(iv_0, iv_l0)] false ([15, 16, 66] ++ (sh_F ++ bf_0)) [(.inr (59, 15), 0), (.inr (0, 13), 8), (.inr (59, 33), 7), (.inr (59, 2), 5), (.inr (59, 3), 6)]) = true := by decide +kernel
set_option maxRecDepth 1000000 in
theorem pc1_19 : pr_ckQ [kb_282, ka_420] 41 42 [false] iv_1 (pr_QL [(iv_1, iv_l1)] false ([15, 16, 66] ++ (sh_F ++ bf_1)) [(.inr (59, 15), 0), (.inr (0, 13), 8), (.inr (59, 33), 7), (.inr (59, 2), 5), (.inr (59, 3), 6)]) = true := by decide +kernel
set_option maxRecDepth 1000000 in
theorem pc0_20 : pr_ckQ [ka_421, ka_425] 43 44 [false] iv_0 (pr_QL [(iv_0, iv_l0)] false ([15, 16, 66, 33, 63] ++ (sh_F ++ bf_0)) [(.inr (59, 15), 0), (.inr (0, 11), 1), (.inr (59, 6), 2), (.inr (0, 13), 8), (.inr (59, 33), 7), (.inr (59, 2), 5), (.inr (59, 3), 6)]) = true := by decide +kernel
set_option maxRecDepth 1000000 in
theorem pc1_20 : pr_ckQ [kb_283, ka_425] 43 44 [false] iv_1 (pr_QL [(iv_1, iv_l1)] false ([15, 16, 66, 33, 63] ++ (sh_F ++ bf_1)) [(.inr (59, 15), 0), (.inr (0, 11), 1), (.inr (59, 6), 2), (.inr (0, 13), 8), (.inr (59, 33), 7), (.inr (59, 2), 5), (.inr (59, 3), 6)]) = true := by decide +kernel
set_option maxRecDepth 1000000 in
theorem pc0_21 : pr_ckQ [ka_427, ka_428] 45 46 [false] iv_0 (pr_QL [(iv_0, iv_l0)] false ([15, 16, 66, 33, 63] ++ (sh_F ++ [])) [(.inr (59, 15), 0), (.inr (0, 11), 1), (.inr (59, 6), 2), (.inr (0, 13), 8), (.inr (59, 33), 7)]) = true := by decide +kernel
set_option maxRecDepth 1000000 in
theorem pc1_21 : pr_ckQ [kb_285, ka_428] 45 46 [false] iv_1 (pr_QL [(iv_1, iv_l1)] false ([15, 16, 66, 33, 63] ++ (sh_F ++ [])) [(.inr (59, 15), 0), (.inr (0, 11), 1), (.inr (59, 6), 2), (.inr (0, 13), 8), (.inr (59, 33), 7)]) = true := by decide +kernel
set_option maxRecDepth 1000000 in
theorem pc0_22 : pr_ckQ [ka_429, ka_431] 47 48 [false] iv_0 (pr_QL [(iv_0, iv_l0)] false ([15, 16, 66, 33, 63] ++ (sh_F ++ [])) [(.inr (59, 15), 0), (.inr (0, 11), 1), (.inr (59, 6), 2), (.inr (0, 13), 8), (.inr (59, 33), 7)]) = true := by decide +kernel
set_option maxRecDepth 1000000 in
theorem pc1_22 : pr_ckQ [kb_286, ka_431] 47 48 [false] iv_1 (pr_QL [(iv_1, iv_l1)] false ([15, 16, 66, 33, 63] ++ (sh_F ++ [])) [(.inr (59, 15), 0), (.inr (0, 11), 1), (.inr (59, 6), 2), (.inr (0, 13), 8), (.inr (59, 33), 7)]) = true := by decide +kernel
set_option maxRecDepth 1000000 in
theorem pc0_23 : pr_ckQ [ka_452, ka_461] 49 50 [false] iv_0 (pr_QL [(iv_0, iv_l0)] false ([15, 16, 66, 33, 63] ++ (sh_F ++ bf_0)) [(.inr (59, 15), 0), (.inr (0, 11), 1), (.inr (59, 6), 2), (.inr (0, 13), 8), (.inr (59, 33), 7), (.inr (59, 2), 5), (.inr (59, 3), 6)]) = true := by decide +kernel
set_option maxRecDepth 1000000 in
theorem pc1_23 : pr_ckQ [kb_307, ka_461] 49 50 [false] iv_1 (pr_QL [(iv_1, iv_l1)] false ([15, 16, 66, 33, 63] ++ (sh_F ++ bf_1)) [(.inr (59, 15), 0), (.inr (0, 11), 1), (.inr (59, 6), 2), (.inr (0, 13), 8), (.inr (59, 33), 7), (.inr (59, 2), 5), (.inr (59, 3), 6)]) = true := by decide +kernel
set_option maxRecDepth 1000000 in
theorem pc0_24 : pr_ckQ [ka_463, ka_465] 51 52 [false] iv_0 (pr_QL [(iv_0, iv_l0)] false ([15, 16, 66, 33, 63] ++ (sh_F ++ bf_0)) [(.inr (59, 15), 0), (.inr (0, 11), 1), (.inr (59, 6), 2), (.inr (0, 13), 8), (.inr (59, 33), 7), (.inr (59, 2), 5), (.inr (59, 3), 6)]) = true := by decide +kernel
set_option maxRecDepth 1000000 in
theorem pc1_24 : pr_ckQ [kb_309, ka_465] 51 52 [false] iv_1 (pr_QL [(iv_1, iv_l1)] false ([15, 16, 66, 33, 63] ++ (sh_F ++ bf_1)) [(.inr (59, 15), 0), (.inr (0, 11), 1), (.inr (59, 6), 2), (.inr (0, 13), 8), (.inr (59, 33), 7), (.inr (59, 2), 5), (.inr (59, 3), 6)]) = true := by decide +kernel
set_option maxRecDepth 1000000 in
theorem pc0_25 : pr_ckQ [ka_473, ka_484] 53 54 [false, false] iv_0 (pr_QL [(iv_0, iv_l0)] false ([15, 16, 66, 33, 63] ++ (sh_F ++ bf_0)) [(.inr (59, 15), 0), (.inr (0, 11), 1), (.inr (59, 6), 2), (.inr (0, 13), 8), (.inr (59, 33), 7), (.inr (59, 2), 5), (.inr (59, 3), 6)]) = true := by decide +kernel
set_option maxRecDepth 1000000 in
theorem pc1_25 : pr_ckQ [kb_317, ka_484] 53 54 [false, false] iv_1 (pr_QL [(iv_1, iv_l1)] false ([15, 16, 66, 33, 63] ++ (sh_F ++ bf_1)) [(.inr (59, 15), 0), (.inr (0, 11), 1), (.inr (59, 6), 2), (.inr (0, 13), 8), (.inr (59, 33), 7), (.inr (59, 2), 5), (.inr (59, 3), 6)]) = true := by decide +kernel
set_option maxRecDepth 1000000 in
theorem pc0_26 : pr_ckQ [ka_503, ka_514] 55 56 [false, false] iv_0 (pr_QL [(iv_0, iv_l0)] true ([15, 16, 66, 33, 63] ++ (sh_F ++ bf_0)) [(.inr (59, 15), 0), (.inr (0, 11), 1), (.inr (59, 6), 2), (.inr (0, 13), 8), (.inr (59, 33), 7), (.inr (59, 2), 5), (.inr (59, 3), 6)]) = true := by decide +kernel
set_option maxRecDepth 1000000 in
theorem pc1_26 : pr_ckQ [kb_336, ka_514] 55 56 [false, false] iv_1 (pr_QL [(iv_1, iv_l1)] true ([15, 16, 66, 33, 63] ++ (sh_F ++ bf_1)) [(.inr (59, 15), 0), (.inr (0, 11), 1), (.inr (59, 6), 2), (.inr (0, 13), 8), (.inr (59, 33), 7), (.inr (59, 2), 5), (.inr (59, 3), 6)]) = true := by decide +kernel
set_option maxRecDepth 1000000 in
theorem pc0_27 : pr_ckQ [ka_516, ka_521] 57 58 [false, false] iv_0 (pr_QL [(iv_0, iv_l0)] false ([15, 16, 66, 33, 63] ++ (sh_F ++ bf_0)) [(.inr (59, 15), 0), (.inr (0, 11), 1), (.inr (59, 6), 2), (.inr (0, 13), 8), (.inr (59, 33), 7), (.inr (59, 2), 5), (.inr (59, 3), 6)]) = true := by decide +kernel
set_option maxRecDepth 1000000 in
theorem pc1_27 : pr_ckQ [kb_338, ka_521] 57 58 [false, false] iv_1 (pr_QL [(iv_1, iv_l1)] false ([15, 16, 66, 33, 63] ++ (sh_F ++ bf_1)) [(.inr (59, 15), 0), (.inr (0, 11), 1), (.inr (59, 6), 2), (.inr (0, 13), 8), (.inr (59, 33), 7), (.inr (59, 2), 5), (.inr (59, 3), 6)]) = true := by decide +kernel
set_option maxRecDepth 1000000 in
theorem pc0_28 : pr_ckQ [ka_522, ka_523] 59 60 [false] iv_0 (pr_QL [(iv_0, iv_l0)] false ([15, 16, 66, 33, 63] ++ (sh_F ++ bf_0)) [(.inr (59, 15), 0), (.inr (0, 11), 1), (.inr (59, 6), 2), (.inr (0, 13), 8), (.inr (59, 33), 7), (.inr (59, 2), 5), (.inr (59, 3), 6)]) = true := by decide +kernel
set_option maxRecDepth 1000000 in
theorem pc1_28 : pr_ckQ [kb_339, ka_523] 59 60 [false] iv_1 (pr_QL [(iv_1, iv_l1)] false ([15, 16, 66, 33, 63] ++ (sh_F ++ bf_1)) [(.inr (59, 15), 0), (.inr (0, 11), 1), (.inr (59, 6), 2), (.inr (0, 13), 8), (.inr (59, 33), 7), (.inr (59, 2), 5), (.inr (59, 3), 6)]) = true := by decide +kernel
set_option maxRecDepth 1000000 in
theorem pc0_29 : pr_ckQ [ka_525, ka_526] 61 62 [false, false] iv_0 (pr_QL [(iv_0, iv_l0)] false ([15, 16, 66, 33, 63] ++ (sh_F ++ [])) [(.inr (59, 15), 0), (.inr (0, 11), 1), (.inr (59, 6), 2), (.inr (0, 13), 8), (.inr (59, 33), 7)]) = true := by decide +kernel
set_option maxRecDepth 1000000 in
theorem pc1_29 : pr_ckQ [kb_341, ka_526] 61 62 [false, false] iv_1 (pr_QL [(iv_1, iv_l1)] false ([15, 16, 66, 33, 63] ++ (sh_F ++ [])) [(.inr (59, 15), 0), (.inr (0, 11), 1), (.inr (59, 6), 2), (.inr (0, 13), 8), (.inr (59, 33), 7)]) = true := by decide +kernel
set_option maxRecDepth 1000000 in
theorem pc0_30 : pr_ckQ [ka_527, ka_528] 63 64 [] iv_0 (pr_QL [(iv_0, iv_l0)] false ([15, 16, 66, 33, 63] ++ (sh_F ++ [])) [(.inr (59, 15), 0), (.inr (0, 11), 1), (.inr (59, 6), 2), (.inr (0, 13), 8), (.inr (59, 33), 7)]) = true := by decide +kernel
set_option maxRecDepth 1000000 in
theorem pc1_30 : pr_ckQ [kb_342, ka_528] 63 64 [] iv_1 (pr_QL [(iv_1, iv_l1)] false ([15, 16, 66, 33, 63] ++ (sh_F ++ [])) [(.inr (59, 15), 0), (.inr (0, 11), 1), (.inr (59, 6), 2), (.inr (0, 13), 8), (.inr (59, 33), 7)]) = true := by decide +kernel
set_option maxRecDepth 1000000 in
theorem pc0_31 : pr_ckQ [ka_655, ka_723] 65 66 [false] iv_0 (pr_QL [(iv_0, iv_l0)] false ([15, 16, 66, 33, 63] ++ (sh_F ++ bf_0)) [(.inr (59, 15), 0), (.inr (0, 11), 1), (.inr (59, 6), 2), (.inr (0, 13), 8), (.inr (59, 33), 7), (.inr (59, 2), 5), (.inr (59, 3), 6)]) = true := by decide +kernel
set_option maxRecDepth 1000000 in
theorem pc1_31 : pr_ckQ [kb_469, ka_723] 65 66 [false] iv_1 (pr_QL [(iv_1, iv_l1)] false ([15, 16, 66, 33, 63] ++ (sh_F ++ bf_1)) [(.inr (59, 15), 0), (.inr (0, 11), 1), (.inr (59, 6), 2), (.inr (0, 13), 8), (.inr (59, 33), 7), (.inr (59, 2), 5), (.inr (59, 3), 6)]) = true := by decide +kernel
set_option maxRecDepth 1000000 in
theorem pc0_32 : pr_ckQ [ka_744, ka_755] 67 68 [false, false, false] iv_0 (pr_QL [(iv_0, iv_l0)] false ([15, 16, 66, 33, 63] ++ (sh_F ++ bf_0)) [(.inr (59, 15), 0), (.inr (0, 11), 1), (.inr (59, 6), 2), (.inr (0, 13), 8), (.inr (59, 33), 7), (.inr (59, 2), 5), (.inr (59, 3), 6)]) = true := by decide +kernel
set_option maxRecDepth 1000000 in
theorem pc1_32 : pr_ckQ [kb_490, ka_755] 67 68 [false, false, false] iv_1 (pr_QL [(iv_1, iv_l1)] false ([15, 16, 66, 33, 63] ++ (sh_F ++ bf_1)) [(.inr (59, 15), 0), (.inr (0, 11), 1), (.inr (59, 6), 2), (.inr (0, 13), 8), (.inr (59, 33), 7), (.inr (59, 2), 5), (.inr (59, 3), 6)]) = true := by decide +kernel
set_option maxRecDepth 1000000 in
theorem pc0_33 : pr_ckQ [ka_758, ka_766] 69 70 [false] iv_0 (pr_QL [(iv_0, iv_l0)] false ([15, 16, 66, 33, 63] ++ (sh_F ++ [])) [(.inr (59, 15), 0), (.inr (0, 11), 1), (.inr (59, 6), 2), (.inr (0, 13), 8), (.inr (59, 33), 7)]) = true := by decide +kernel
set_option maxRecDepth 1000000 in
theorem pc1_33 : pr_ckQ [kb_493, ka_766] 69 70 [false] iv_1 (pr_QL [(iv_1, iv_l1)] false ([15, 16, 66, 33, 63] ++ (sh_F ++ [])) [(.inr (59, 15), 0), (.inr (0, 11), 1), (.inr (59, 6), 2), (.inr (0, 13), 8), (.inr (59, 33), 7)]) = true := by decide +kernel
set_option maxRecDepth 1000000 in
theorem pc0_34 : pr_ckQ [ka_769, ka_772] 71 72 [false] iv_0 (pr_QL [(iv_0, iv_l0)] false ([15, 16, 66, 33, 63] ++ (sh_F ++ [])) [(.inr (59, 15), 0), (.inr (0, 11), 1), (.inr (59, 6), 2), (.inr (0, 13), 8), (.inr (59, 33), 7)]) = true := by decide +kernel
set_option maxRecDepth 1000000 in
theorem pc1_34 : pr_ckQ [kb_496, ka_772] 71 72 [false] iv_1 (pr_QL [(iv_1, iv_l1)] false ([15, 16, 66, 33, 63] ++ (sh_F ++ [])) [(.inr (59, 15), 0), (.inr (0, 11), 1), (.inr (59, 6), 2), (.inr (0, 13), 8), (.inr (59, 33), 7)]) = true := by decide +kernel
set_option maxRecDepth 1000000 in
theorem pc0_35 : pr_ckQ [ka_781, ka_794] 73 74 [false, false, false] iv_0 (pr_QL [(iv_0, iv_l0)] false ([15, 16, 66, 33, 63] ++ ([] ++ bf_0)) [(.inr (59, 15), 0), (.inr (0, 11), 1), (.inr (59, 6), 2), (.inr (0, 13), 8), (.inr (59, 33), 7), (.inr (59, 2), 5), (.inr (59, 3), 6)]) = true := by decide +kernel
set_option maxRecDepth 1000000 in
theorem pc1_35 : pr_ckQ [kb_505, ka_794] 73 74 [false, false, false] iv_1 (pr_QL [(iv_1, iv_l1)] false ([15, 16, 66, 33, 63] ++ ([] ++ bf_1)) [(.inr (59, 15), 0), (.inr (0, 11), 1), (.inr (59, 6), 2), (.inr (0, 13), 8), (.inr (59, 33), 7), (.inr (59, 2), 5), (.inr (59, 3), 6)]) = true := by decide +kernel
set_option maxRecDepth 1000000 in
theorem pc0_36 : pr_ckQ [ka_803, ka_812] 75 76 [false, false, false] iv_0 (pr_QL [(iv_0, iv_l0)] false ([15, 16, 66, 33, 63] ++ ([] ++ bf_0)) [(.inr (59, 15), 0), (.inr (0, 11), 1), (.inr (59, 6), 2), (.inr (0, 13), 8), (.inr (59, 33), 7), (.inr (59, 2), 5), (.inr (59, 3), 6)]) = true := by decide +kernel
set_option maxRecDepth 1000000 in
theorem pc1_36 : pr_ckQ [kb_514, ka_812] 75 76 [false, false, false] iv_1 (pr_QL [(iv_1, iv_l1)] false ([15, 16, 66, 33, 63] ++ ([] ++ bf_1)) [(.inr (59, 15), 0), (.inr (0, 11), 1), (.inr (59, 6), 2), (.inr (0, 13), 8), (.inr (59, 33), 7), (.inr (59, 2), 5), (.inr (59, 3), 6)]) = true := by decide +kernel
set_option maxRecDepth 1000000 in
theorem pc0_37 : pr_ckQ [ka_823, ka_825] 77 78 [false, false, false, false] iv_0 (pr_QL [(iv_0, iv_l0)] false ([15, 16, 66, 33, 63] ++ (sh_F ++ [])) [(.inr (59, 15), 0), (.inr (0, 11), 1), (.inr (59, 6), 2)]) = true := by decide +kernel
set_option maxRecDepth 1000000 in
theorem sy_0_10 : pr_sy [(.inr (59, 15), 0), (.inr (0, 11), 1), (.inr (59, 6), 2)] iv_0 = true := by decide +kernel
set_option maxRecDepth 1000000 in
theorem pc1_37 : pr_ckQ [kb_525, ka_825] 77 78 [false, false, false, false] iv_1 (pr_QL [(iv_1, iv_l1)] false ([15, 16, 66, 33, 63] ++ (sh_F ++ [])) [(.inr (59, 15), 0), (.inr (0, 11), 1), (.inr (59, 6), 2)]) = true := by decide +kernel
set_option maxRecDepth 1000000 in
theorem sy_1_11 : pr_sy [(.inr (59, 15), 0), (.inr (0, 11), 1), (.inr (59, 6), 2)] iv_1 = true := by decide +kernel
set_option maxRecDepth 1000000 in
theorem pc0_38 : pr_ckQ [ka_826, ka_827] 79 80 [] iv_0 (pr_QL [(iv_0, iv_l0)] false ([15, 16, 66, 33, 63] ++ (sh_F ++ bf_0)) [(.inr (59, 15), 0), (.inr (0, 11), 1), (.inr (59, 6), 2), (.inr (0, 13), 8), (.inr (59, 33), 7), (.inr (59, 2), 5), (.inr (59, 3), 6)]) = true := by decide +kernel
set_option maxRecDepth 1000000 in
theorem pc1_38 : pr_ckQ [kb_526, ka_827] 79 80 [] iv_1 (pr_QL [(iv_1, iv_l1)] false ([15, 16, 66, 33, 63] ++ (sh_F ++ bf_1)) [(.inr (59, 15), 0), (.inr (0, 11), 1), (.inr (59, 6), 2), (.inr (0, 13), 8), (.inr (59, 33), 7), (.inr (59, 2), 5), (.inr (59, 3), 6)]) = true := by decide +kernel
set_option maxRecDepth 1000000 in
theorem pc0_39 : pr_ckQ [ka_830, ka_831] 81 82 [false] iv_0 (pr_QL [(iv_0, iv_l0)] false ([15, 16, 66, 33, 63] ++ (sh_F ++ bf_0)) [(.inr (59, 15), 0), (.inr (0, 11), 1), (.inr (59, 6), 2), (.inr (0, 13), 8), (.inr (59, 33), 7), (.inr (59, 2), 5), (.inr (59, 3), 6)]) = true := by decide +kernel
set_option maxRecDepth 1000000 in
theorem pc1_39 : pr_ckQ [kb_529, ka_831] 81 82 [false] iv_1 (pr_QL [(iv_1, iv_l1)] false ([15, 16, 66, 33, 63] ++ (sh_F ++ bf_1)) [(.inr (59, 15), 0), (.inr (0, 11), 1), (.inr (59, 6), 2), (.inr (0, 13), 8), (.inr (59, 33), 7), (.inr (59, 2), 5), (.inr (59, 3), 6)]) = true := by decide +kernel
