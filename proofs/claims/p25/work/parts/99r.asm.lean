/-! THE LAW'S LOOP: two calls a case, the cells as one of the patterns between them. Written by wip/law/asmgen.py. -/
theorem ls_0 {X : List Int32} {i x0 x1 x2 x3 x4 : Int32} {w : ex_W} (h1 : lw_x X (i + 1) x1) (h2 : lw_x X (i + 2) x2) (h3 : lw_x X (i + 3) x3) (h4 : lw_x X (i + 4) x4) (hw : bv_I w) (hs : x0 &&& 63 = 0) : ∃ wm, bv_I wm ∧ ex_sm w wm ∧ ∀ q, Go X 40 mt_0 (1238, [some (.retAddr 0), some (.ref 0), some (.ref 59), some (.int i)], []) wm q → Go X 40 mt_0 (32, [some (.retAddr 0), some (.ref 0), some (.ref 59), some (.int i)], [.int (x0 &&& 63)]) w q := by
  obtain ⟨⟨I, hI, ρ, H⟩, hP, hY, hA, hO, t, hB⟩ := hw
  rcases List.mem_cons.mp hI with rfl | hI
  · obtain ⟨v1, v2, wx, wm, gs, fs, ⟨z1, a1⟩, ⟨z2, a2⟩, b1, b2, g1, g2, hI2, hF, hS⟩ := pr_goL (pr_goQ (X := []) (vs := [.long (((x1).toInt64 <<< (((32 : Int32)).toInt64 &&& 63)) ||| ((x2).toInt64 &&& 4294967295))]) rfl rfl (ai_cons kah_1 (ai_cons kah_2 ai_nil)) pc0_0 H ⟨⟨_, rfl⟩, trivial⟩) sy_0_0 H
    obtain ⟨ρ', H'⟩ := pr_one hI2
    obtain ⟨r, wx', wm', k1, k2, kP⟩ := h0_0 (vl := (((x1).toInt64 <<< (((32 : Int32)).toInt64 &&& 63)) ||| ((x2).toInt64 &&& 4294967295))) H hP
    cases Go.det g1 k1
    cases Go.det g2 k2
    exact ⟨wm, ⟨⟨(iv_0, iv_l0), List.mem_of_getElem? (i := 0) rfl, ρ', H'⟩, kP, up_y0 H' hY (hS _ (List.mem_of_getElem? (i := 0) rfl)) (hS _ (List.mem_of_getElem? (i := 1) rfl)) (hF 33 (List.mem_append_left _ (by decide +kernel))) (hF 63 (List.mem_append_left _ (by decide +kernel))), hA.same (fun p hp => hF p (List.mem_append_right _ (List.mem_append_left _ hp))), ((hS _ (List.mem_of_getElem? (i := 2) rfl))).trans (hO.trans ((hS _ (List.mem_of_getElem? (i := 3) rfl))).symm), up_b0 H' H hB (hS _ (List.mem_of_getElem? (i := 4) rfl)) (hS _ (List.mem_of_getElem? (i := 5) rfl)) (fun q hq => hF q (List.mem_append_right _ (List.mem_append_right _ hq)))⟩, (g1.sm (List.mem_of_getElem? (i := 3) rfl) (by decide +kernel) rfl).tr (g2.sm (List.mem_of_getElem? (i := 4) rfl) (by decide +kernel) rfl), fun q kk => lc_0 h1 h2 h3 h4 b1 b2 hs g1 g2 kk⟩
  · obtain rfl := List.mem_singleton.mp hI
    obtain ⟨v1, v2, wx, wm, gs, fs, ⟨z1, a1⟩, ⟨z2, a2⟩, b1, b2, g1, g2, hI2, hF, hS⟩ := pr_goL (pr_goQ (X := []) (vs := [.long (((x1).toInt64 <<< (((32 : Int32)).toInt64 &&& 63)) ||| ((x2).toInt64 &&& 4294967295))]) rfl rfl (ai_cons kbh_1 (ai_cons kah_2 ai_nil)) pc1_0 H ⟨⟨_, rfl⟩, trivial⟩) sy_1_1 H
    obtain ⟨ρ', H'⟩ := pr_one hI2
    obtain ⟨r, wx', wm', k1, k2, kP⟩ := h0_1 (vl := (((x1).toInt64 <<< (((32 : Int32)).toInt64 &&& 63)) ||| ((x2).toInt64 &&& 4294967295))) H hP
    cases Go.det g1 k1
    cases Go.det g2 k2
    exact ⟨wm, ⟨⟨(iv_1, iv_l1), List.mem_of_getElem? (i := 1) rfl, ρ', H'⟩, kP, up_y1 H' hY (hS _ (List.mem_of_getElem? (i := 0) rfl)) (hS _ (List.mem_of_getElem? (i := 1) rfl)) (hF 33 (List.mem_append_left _ (by decide +kernel))) (hF 63 (List.mem_append_left _ (by decide +kernel))), hA.same (fun p hp => hF p (List.mem_append_right _ (List.mem_append_left _ hp))), ((hS _ (List.mem_of_getElem? (i := 2) rfl))).trans (hO.trans ((hS _ (List.mem_of_getElem? (i := 3) rfl))).symm), up_b1 H' H hB (hS _ (List.mem_of_getElem? (i := 4) rfl)) (hS _ (List.mem_of_getElem? (i := 5) rfl)) (fun q hq => hF q (List.mem_append_right _ (List.mem_append_right _ hq)))⟩, (g1.sm (List.mem_of_getElem? (i := 3) rfl) (by decide +kernel) rfl).tr (g2.sm (List.mem_of_getElem? (i := 4) rfl) (by decide +kernel) rfl), fun q kk => lc_0 h1 h2 h3 h4 b1 b2 hs g1 g2 kk⟩
theorem ls_1 {X : List Int32} {i x0 x1 x2 x3 x4 : Int32} {w : ex_W} (h1 : lw_x X (i + 1) x1) (h2 : lw_x X (i + 2) x2) (h3 : lw_x X (i + 3) x3) (h4 : lw_x X (i + 4) x4) (hw : bv_I w) (hs : x0 &&& 63 = 1) : ∃ wm, bv_I wm ∧ ex_sm w wm ∧ ∀ q, Go X 40 mt_0 (1238, [some (.retAddr 0), some (.ref 0), some (.ref 59), some (.int i)], []) wm q → Go X 40 mt_0 (32, [some (.retAddr 0), some (.ref 0), some (.ref 59), some (.int i)], [.int (x0 &&& 63)]) w q := by
  obtain ⟨⟨I, hI, ρ, H⟩, hP, hY, hA, hO, t, hB⟩ := hw
  rcases List.mem_cons.mp hI with rfl | hI
  · obtain ⟨v1, v2, wx, wm, gs, fs, ⟨z1, a1⟩, ⟨z2, a2⟩, b1, b2, g1, g2, hI2, hF, hS⟩ := pr_goL (pr_goQ (X := []) (vs := [.int x1]) rfl rfl (ai_cons kah_3 (ai_cons kah_5 ai_nil)) pc0_1 H ⟨⟨_, rfl⟩, trivial⟩) sy_0_0 H
    obtain ⟨ρ', H'⟩ := pr_one hI2
    obtain ⟨r, wx', wm', k1, k2, kP⟩ := h1_0 (x := x1) H hP
    cases Go.det g1 k1
    cases Go.det g2 k2
    exact ⟨wm, ⟨⟨(iv_0, iv_l0), List.mem_of_getElem? (i := 0) rfl, ρ', H'⟩, kP, up_y0 H' hY (hS _ (List.mem_of_getElem? (i := 0) rfl)) (hS _ (List.mem_of_getElem? (i := 1) rfl)) (hF 33 (List.mem_append_left _ (by decide +kernel))) (hF 63 (List.mem_append_left _ (by decide +kernel))), hA.same (fun p hp => hF p (List.mem_append_right _ (List.mem_append_left _ hp))), ((hS _ (List.mem_of_getElem? (i := 2) rfl))).trans (hO.trans ((hS _ (List.mem_of_getElem? (i := 3) rfl))).symm), up_b0 H' H hB (hS _ (List.mem_of_getElem? (i := 4) rfl)) (hS _ (List.mem_of_getElem? (i := 5) rfl)) (fun q hq => hF q (List.mem_append_right _ (List.mem_append_right _ hq)))⟩, (g1.sm (List.mem_of_getElem? (i := 5) rfl) (by decide +kernel) rfl).tr (g2.sm (List.mem_of_getElem? (i := 6) rfl) (by decide +kernel) rfl), fun q kk => lc_1 h1 h2 h3 h4 b1 b2 hs g1 g2 kk⟩
  · obtain rfl := List.mem_singleton.mp hI
    obtain ⟨v1, v2, wx, wm, gs, fs, ⟨z1, a1⟩, ⟨z2, a2⟩, b1, b2, g1, g2, hI2, hF, hS⟩ := pr_goL (pr_goQ (X := []) (vs := [.int x1]) rfl rfl (ai_cons kbh_2 (ai_cons kah_5 ai_nil)) pc1_1 H ⟨⟨_, rfl⟩, trivial⟩) sy_1_1 H
    obtain ⟨ρ', H'⟩ := pr_one hI2
    obtain ⟨r, wx', wm', k1, k2, kP⟩ := h1_1 (x := x1) H hP
    cases Go.det g1 k1
    cases Go.det g2 k2
    exact ⟨wm, ⟨⟨(iv_1, iv_l1), List.mem_of_getElem? (i := 1) rfl, ρ', H'⟩, kP, up_y1 H' hY (hS _ (List.mem_of_getElem? (i := 0) rfl)) (hS _ (List.mem_of_getElem? (i := 1) rfl)) (hF 33 (List.mem_append_left _ (by decide +kernel))) (hF 63 (List.mem_append_left _ (by decide +kernel))), hA.same (fun p hp => hF p (List.mem_append_right _ (List.mem_append_left _ hp))), ((hS _ (List.mem_of_getElem? (i := 2) rfl))).trans (hO.trans ((hS _ (List.mem_of_getElem? (i := 3) rfl))).symm), up_b1 H' H hB (hS _ (List.mem_of_getElem? (i := 4) rfl)) (hS _ (List.mem_of_getElem? (i := 5) rfl)) (fun q hq => hF q (List.mem_append_right _ (List.mem_append_right _ hq)))⟩, (g1.sm (List.mem_of_getElem? (i := 5) rfl) (by decide +kernel) rfl).tr (g2.sm (List.mem_of_getElem? (i := 6) rfl) (by decide +kernel) rfl), fun q kk => lc_1 h1 h2 h3 h4 b1 b2 hs g1 g2 kk⟩
theorem ls_2 {X : List Int32} {i x0 x1 x2 x3 x4 : Int32} {w : ex_W} (h1 : lw_x X (i + 1) x1) (h2 : lw_x X (i + 2) x2) (h3 : lw_x X (i + 3) x3) (h4 : lw_x X (i + 4) x4) (hw : bv_I w) (hs : x0 &&& 63 = 2) : ∃ wm, bv_I wm ∧ ex_sm w wm ∧ ∀ q, Go X 40 mt_0 (1238, [some (.retAddr 0), some (.ref 0), some (.ref 59), some (.int i)], []) wm q → Go X 40 mt_0 (32, [some (.retAddr 0), some (.ref 0), some (.ref 59), some (.int i)], [.int (x0 &&& 63)]) w q := by
  obtain ⟨⟨I, hI, ρ, H⟩, hP, hY, hA, hO, t, hB⟩ := hw
  rcases List.mem_cons.mp hI with rfl | hI
  · obtain ⟨v1, v2, wx, wm, gs, fs, ⟨z1, a1⟩, ⟨z2, a2⟩, b1, b2, g1, g2, hI2, hF, hS⟩ := pr_goL (pr_goQ (X := []) (vs := []) rfl rfl (ai_cons kah_250 (ai_cons kah_342 ai_nil)) pc0_2 H trivial) sy_0_2 H
    obtain ⟨r, wx', wm', k1, k2, kP, kY, kB⟩ := tx_st0 H hP hY (mtt_0 H hB ▸ hB)
    cases Go.det g1 k1
    cases Go.det g2 k2
    exact ⟨wm, ⟨hI2, kP, kY, hA.same (fun p hp => hF p (List.mem_append_right _ (List.mem_append_left _ hp))), ((hS _ (List.mem_of_getElem? (i := 0) rfl))).trans (hO.trans ((hS _ (List.mem_of_getElem? (i := 1) rfl))).symm), kB⟩, (g1.sm (List.mem_of_getElem? (i := 7) rfl) (by decide +kernel) rfl).tr (g2.sm (List.mem_of_getElem? (i := 8) rfl) (by decide +kernel) rfl), fun q kk => lc_2 h1 h2 h3 h4 b1 b2 hs g1 g2 kk⟩
  · obtain rfl := List.mem_singleton.mp hI
    obtain ⟨v1, v2, wx, wm, gs, fs, ⟨z1, a1⟩, ⟨z2, a2⟩, b1, b2, g1, g2, hI2, hF, hS⟩ := pr_goL (pr_goQ (X := []) (vs := []) rfl rfl (ai_cons kbh_247 (ai_cons kah_342 ai_nil)) pc1_2 H trivial) sy_1_3 H
    obtain ⟨r, wx', wm', k1, k2, kP, kY, kB⟩ := tx_st1 H hP hY (mtt_1 H hB ▸ hB)
    cases Go.det g1 k1
    cases Go.det g2 k2
    exact ⟨wm, ⟨hI2, kP, kY, hA.same (fun p hp => hF p (List.mem_append_right _ (List.mem_append_left _ hp))), ((hS _ (List.mem_of_getElem? (i := 0) rfl))).trans (hO.trans ((hS _ (List.mem_of_getElem? (i := 1) rfl))).symm), kB⟩, (g1.sm (List.mem_of_getElem? (i := 7) rfl) (by decide +kernel) rfl).tr (g2.sm (List.mem_of_getElem? (i := 8) rfl) (by decide +kernel) rfl), fun q kk => lc_2 h1 h2 h3 h4 b1 b2 hs g1 g2 kk⟩
theorem ls_3 {X : List Int32} {i x0 x1 x2 x3 x4 : Int32} {w : ex_W} (h1 : lw_x X (i + 1) x1) (h2 : lw_x X (i + 2) x2) (h3 : lw_x X (i + 3) x3) (h4 : lw_x X (i + 4) x4) (hw : bv_I w) (hs : x0 &&& 63 = 3) : ∃ wm, bv_I wm ∧ ex_sm w wm ∧ ∀ q, Go X 40 mt_0 (1238, [some (.retAddr 0), some (.ref 0), some (.ref 59), some (.int i)], []) wm q → Go X 40 mt_0 (32, [some (.retAddr 0), some (.ref 0), some (.ref 59), some (.int i)], [.int (x0 &&& 63)]) w q := by
  obtain ⟨⟨I, hI, ρ, H⟩, hP, hY, hA, hO, t, hB⟩ := hw
  rcases List.mem_cons.mp hI with rfl | hI
  · obtain ⟨v1, v2, wx, wm, gs, fs, ⟨z1, a1⟩, ⟨z2, a2⟩, b1, b2, g1, g2, hI2, hF, hS⟩ := pr_goL (pr_goQ (X := []) (vs := []) rfl rfl (ai_cons kah_343 (ai_cons kah_344 ai_nil)) pc0_3 H trivial) sy_0_4 H
    obtain ⟨ρ', H'⟩ := pr_one hI2
    obtain ⟨u1, rfl, -⟩ := ai_nzI a1
    obtain ⟨u2, rfl, -⟩ := ai_nzI a2
    exact ⟨wm, ⟨⟨(iv_0, iv_l0), List.mem_of_getElem? (i := 0) rfl, ρ', H'⟩, up_t0 H' hP (hS _ (List.mem_of_getElem? (i := 0) rfl)) (hF 15 (List.mem_append_left _ (by decide +kernel))) (hF 16 (List.mem_append_left _ (by decide +kernel))) (hF 66 (List.mem_append_left _ (by decide +kernel))), up_y0 H' hY (hS _ (List.mem_of_getElem? (i := 1) rfl)) (hS _ (List.mem_of_getElem? (i := 2) rfl)) (hF 33 (List.mem_append_left _ (by decide +kernel))) (hF 63 (List.mem_append_left _ (by decide +kernel))), hA.same (fun p hp => hF p (List.mem_append_right _ (List.mem_append_left _ hp))), ((hS _ (List.mem_of_getElem? (i := 3) rfl))).trans (hO.trans ((hS _ (List.mem_of_getElem? (i := 4) rfl))).symm), up_b0 H' H hB (hS _ (List.mem_of_getElem? (i := 5) rfl)) (hS _ (List.mem_of_getElem? (i := 6) rfl)) (fun q hq => hF q (List.mem_append_right _ (List.mem_append_right _ hq)))⟩, (g1.sm (List.mem_of_getElem? (i := 9) rfl) (by decide +kernel) rfl).tr (g2.sm (List.mem_of_getElem? (i := 10) rfl) (by decide +kernel) rfl), fun q kk => lc_3 h1 h2 h3 h4 b1 b2 hs g1 g2 kk⟩
  · obtain rfl := List.mem_singleton.mp hI
    obtain ⟨v1, v2, wx, wm, gs, fs, ⟨z1, a1⟩, ⟨z2, a2⟩, b1, b2, g1, g2, hI2, hF, hS⟩ := pr_goL (pr_goQ (X := []) (vs := []) rfl rfl (ai_cons kbh_248 (ai_cons kah_344 ai_nil)) pc1_3 H trivial) sy_1_5 H
    obtain ⟨ρ', H'⟩ := pr_one hI2
    obtain ⟨u1, rfl, -⟩ := ai_nzI a1
    obtain ⟨u2, rfl, -⟩ := ai_nzI a2
    exact ⟨wm, ⟨⟨(iv_1, iv_l1), List.mem_of_getElem? (i := 1) rfl, ρ', H'⟩, up_t1 H' hP (hS _ (List.mem_of_getElem? (i := 0) rfl)) (hF 15 (List.mem_append_left _ (by decide +kernel))) (hF 16 (List.mem_append_left _ (by decide +kernel))) (hF 66 (List.mem_append_left _ (by decide +kernel))), up_y1 H' hY (hS _ (List.mem_of_getElem? (i := 1) rfl)) (hS _ (List.mem_of_getElem? (i := 2) rfl)) (hF 33 (List.mem_append_left _ (by decide +kernel))) (hF 63 (List.mem_append_left _ (by decide +kernel))), hA.same (fun p hp => hF p (List.mem_append_right _ (List.mem_append_left _ hp))), ((hS _ (List.mem_of_getElem? (i := 3) rfl))).trans (hO.trans ((hS _ (List.mem_of_getElem? (i := 4) rfl))).symm), up_b1 H' H hB (hS _ (List.mem_of_getElem? (i := 5) rfl)) (hS _ (List.mem_of_getElem? (i := 6) rfl)) (fun q hq => hF q (List.mem_append_right _ (List.mem_append_right _ hq)))⟩, (g1.sm (List.mem_of_getElem? (i := 9) rfl) (by decide +kernel) rfl).tr (g2.sm (List.mem_of_getElem? (i := 10) rfl) (by decide +kernel) rfl), fun q kk => lc_3 h1 h2 h3 h4 b1 b2 hs g1 g2 kk⟩
theorem ls_4 {X : List Int32} {i x0 x1 x2 x3 x4 : Int32} {w : ex_W} (h1 : lw_x X (i + 1) x1) (h2 : lw_x X (i + 2) x2) (h3 : lw_x X (i + 3) x3) (h4 : lw_x X (i + 4) x4) (hw : bv_I w) (hs : x0 &&& 63 = 4) : ∃ wm, bv_I wm ∧ ex_sm w wm ∧ ∀ q, Go X 40 mt_0 (1238, [some (.retAddr 0), some (.ref 0), some (.ref 59), some (.int i)], []) wm q → Go X 40 mt_0 (32, [some (.retAddr 0), some (.ref 0), some (.ref 59), some (.int i)], [.int (x0 &&& 63)]) w q := by
  obtain ⟨⟨I, hI, ρ, H⟩, hP, hY, hA, hO, t, hB⟩ := hw
  rcases List.mem_cons.mp hI with rfl | hI
  · obtain ⟨v1, v2, wx, wm, gs, fs, ⟨z1, a1⟩, ⟨z2, a2⟩, b1, b2, g1, g2, hI2, hF, hS⟩ := pr_goL (pr_goQ (X := []) (vs := [.int x1]) rfl rfl (ai_cons kah_345 (ai_cons kah_346 ai_nil)) pc0_4 H ⟨⟨_, rfl⟩, trivial⟩) sy_0_4 H
    obtain ⟨ρ', H'⟩ := pr_one hI2
    obtain ⟨u1, rfl, -⟩ := ai_nzI a1
    obtain ⟨u2, rfl, -⟩ := ai_nzI a2
    exact ⟨wm, ⟨⟨(iv_0, iv_l0), List.mem_of_getElem? (i := 0) rfl, ρ', H'⟩, up_t0 H' hP (hS _ (List.mem_of_getElem? (i := 0) rfl)) (hF 15 (List.mem_append_left _ (by decide +kernel))) (hF 16 (List.mem_append_left _ (by decide +kernel))) (hF 66 (List.mem_append_left _ (by decide +kernel))), up_y0 H' hY (hS _ (List.mem_of_getElem? (i := 1) rfl)) (hS _ (List.mem_of_getElem? (i := 2) rfl)) (hF 33 (List.mem_append_left _ (by decide +kernel))) (hF 63 (List.mem_append_left _ (by decide +kernel))), hA.same (fun p hp => hF p (List.mem_append_right _ (List.mem_append_left _ hp))), ((hS _ (List.mem_of_getElem? (i := 3) rfl))).trans (hO.trans ((hS _ (List.mem_of_getElem? (i := 4) rfl))).symm), up_b0 H' H hB (hS _ (List.mem_of_getElem? (i := 5) rfl)) (hS _ (List.mem_of_getElem? (i := 6) rfl)) (fun q hq => hF q (List.mem_append_right _ (List.mem_append_right _ hq)))⟩, (g1.sm (List.mem_of_getElem? (i := 11) rfl) (by decide +kernel) rfl).tr (g2.sm (List.mem_of_getElem? (i := 12) rfl) (by decide +kernel) rfl), fun q kk => lc_4 h1 h2 h3 h4 b1 b2 hs g1 g2 kk⟩
  · obtain rfl := List.mem_singleton.mp hI
    obtain ⟨v1, v2, wx, wm, gs, fs, ⟨z1, a1⟩, ⟨z2, a2⟩, b1, b2, g1, g2, hI2, hF, hS⟩ := pr_goL (pr_goQ (X := []) (vs := [.int x1]) rfl rfl (ai_cons kbh_249 (ai_cons kah_346 ai_nil)) pc1_4 H ⟨⟨_, rfl⟩, trivial⟩) sy_1_5 H
    obtain ⟨ρ', H'⟩ := pr_one hI2
    obtain ⟨u1, rfl, -⟩ := ai_nzI a1
    obtain ⟨u2, rfl, -⟩ := ai_nzI a2
    exact ⟨wm, ⟨⟨(iv_1, iv_l1), List.mem_of_getElem? (i := 1) rfl, ρ', H'⟩, up_t1 H' hP (hS _ (List.mem_of_getElem? (i := 0) rfl)) (hF 15 (List.mem_append_left _ (by decide +kernel))) (hF 16 (List.mem_append_left _ (by decide +kernel))) (hF 66 (List.mem_append_left _ (by decide +kernel))), up_y1 H' hY (hS _ (List.mem_of_getElem? (i := 1) rfl)) (hS _ (List.mem_of_getElem? (i := 2) rfl)) (hF 33 (List.mem_append_left _ (by decide +kernel))) (hF 63 (List.mem_append_left _ (by decide +kernel))), hA.same (fun p hp => hF p (List.mem_append_right _ (List.mem_append_left _ hp))), ((hS _ (List.mem_of_getElem? (i := 3) rfl))).trans (hO.trans ((hS _ (List.mem_of_getElem? (i := 4) rfl))).symm), up_b1 H' H hB (hS _ (List.mem_of_getElem? (i := 5) rfl)) (hS _ (List.mem_of_getElem? (i := 6) rfl)) (fun q hq => hF q (List.mem_append_right _ (List.mem_append_right _ hq)))⟩, (g1.sm (List.mem_of_getElem? (i := 11) rfl) (by decide +kernel) rfl).tr (g2.sm (List.mem_of_getElem? (i := 12) rfl) (by decide +kernel) rfl), fun q kk => lc_4 h1 h2 h3 h4 b1 b2 hs g1 g2 kk⟩
theorem ls_5 {X : List Int32} {i x0 x1 x2 x3 x4 : Int32} {w : ex_W} (h1 : lw_x X (i + 1) x1) (h2 : lw_x X (i + 2) x2) (h3 : lw_x X (i + 3) x3) (h4 : lw_x X (i + 4) x4) (hw : bv_I w) (hs : x0 &&& 63 = 5) : ∃ wm, bv_I wm ∧ ex_sm w wm ∧ ∀ q, Go X 40 mt_0 (1238, [some (.retAddr 0), some (.ref 0), some (.ref 59), some (.int i)], []) wm q → Go X 40 mt_0 (32, [some (.retAddr 0), some (.ref 0), some (.ref 59), some (.int i)], [.int (x0 &&& 63)]) w q := by
  obtain ⟨⟨I, hI, ρ, H⟩, hP, hY, hA, hO, t, hB⟩ := hw
  rcases List.mem_cons.mp hI with rfl | hI
  · obtain ⟨v1, v2, wx, wm, gs, fs, ⟨z1, a1⟩, ⟨z2, a2⟩, b1, b2, g1, g2, hI2, hF, hS⟩ := pr_goL (pr_goQ (X := []) (vs := [.int x1]) rfl rfl (ai_cons kah_347 (ai_cons kah_349 ai_nil)) pc0_5 H ⟨⟨_, rfl⟩, trivial⟩) sy_0_4 H
    obtain ⟨ρ', H'⟩ := pr_one hI2
    obtain ⟨u1, rfl, -⟩ := ai_nzI a1
    obtain ⟨u2, rfl, -⟩ := ai_nzI a2
    exact ⟨wm, ⟨⟨(iv_0, iv_l0), List.mem_of_getElem? (i := 0) rfl, ρ', H'⟩, up_t0 H' hP (hS _ (List.mem_of_getElem? (i := 0) rfl)) (hF 15 (List.mem_append_left _ (by decide +kernel))) (hF 16 (List.mem_append_left _ (by decide +kernel))) (hF 66 (List.mem_append_left _ (by decide +kernel))), up_y0 H' hY (hS _ (List.mem_of_getElem? (i := 1) rfl)) (hS _ (List.mem_of_getElem? (i := 2) rfl)) (hF 33 (List.mem_append_left _ (by decide +kernel))) (hF 63 (List.mem_append_left _ (by decide +kernel))), hA.same (fun p hp => hF p (List.mem_append_right _ (List.mem_append_left _ hp))), ((hS _ (List.mem_of_getElem? (i := 3) rfl))).trans (hO.trans ((hS _ (List.mem_of_getElem? (i := 4) rfl))).symm), up_b0 H' H hB (hS _ (List.mem_of_getElem? (i := 5) rfl)) (hS _ (List.mem_of_getElem? (i := 6) rfl)) (fun q hq => hF q (List.mem_append_right _ (List.mem_append_right _ hq)))⟩, (g1.sm (List.mem_of_getElem? (i := 13) rfl) (by decide +kernel) rfl).tr (g2.sm (List.mem_of_getElem? (i := 14) rfl) (by decide +kernel) rfl), fun q kk => lc_5 h1 h2 h3 h4 b1 b2 hs g1 g2 kk⟩
  · obtain rfl := List.mem_singleton.mp hI
    obtain ⟨v1, v2, wx, wm, gs, fs, ⟨z1, a1⟩, ⟨z2, a2⟩, b1, b2, g1, g2, hI2, hF, hS⟩ := pr_goL (pr_goQ (X := []) (vs := [.int x1]) rfl rfl (ai_cons kbh_250 (ai_cons kah_349 ai_nil)) pc1_5 H ⟨⟨_, rfl⟩, trivial⟩) sy_1_5 H
    obtain ⟨ρ', H'⟩ := pr_one hI2
    obtain ⟨u1, rfl, -⟩ := ai_nzI a1
    obtain ⟨u2, rfl, -⟩ := ai_nzI a2
    exact ⟨wm, ⟨⟨(iv_1, iv_l1), List.mem_of_getElem? (i := 1) rfl, ρ', H'⟩, up_t1 H' hP (hS _ (List.mem_of_getElem? (i := 0) rfl)) (hF 15 (List.mem_append_left _ (by decide +kernel))) (hF 16 (List.mem_append_left _ (by decide +kernel))) (hF 66 (List.mem_append_left _ (by decide +kernel))), up_y1 H' hY (hS _ (List.mem_of_getElem? (i := 1) rfl)) (hS _ (List.mem_of_getElem? (i := 2) rfl)) (hF 33 (List.mem_append_left _ (by decide +kernel))) (hF 63 (List.mem_append_left _ (by decide +kernel))), hA.same (fun p hp => hF p (List.mem_append_right _ (List.mem_append_left _ hp))), ((hS _ (List.mem_of_getElem? (i := 3) rfl))).trans (hO.trans ((hS _ (List.mem_of_getElem? (i := 4) rfl))).symm), up_b1 H' H hB (hS _ (List.mem_of_getElem? (i := 5) rfl)) (hS _ (List.mem_of_getElem? (i := 6) rfl)) (fun q hq => hF q (List.mem_append_right _ (List.mem_append_right _ hq)))⟩, (g1.sm (List.mem_of_getElem? (i := 13) rfl) (by decide +kernel) rfl).tr (g2.sm (List.mem_of_getElem? (i := 14) rfl) (by decide +kernel) rfl), fun q kk => lc_5 h1 h2 h3 h4 b1 b2 hs g1 g2 kk⟩
theorem ls_6 {X : List Int32} {i x0 x1 x2 x3 x4 : Int32} {w : ex_W} (h1 : lw_x X (i + 1) x1) (h2 : lw_x X (i + 2) x2) (h3 : lw_x X (i + 3) x3) (h4 : lw_x X (i + 4) x4) (hw : bv_I w) (hs : x0 &&& 63 = 6) : ∃ wm, bv_I wm ∧ ex_sm w wm ∧ ∀ q, Go X 40 mt_0 (1238, [some (.retAddr 0), some (.ref 0), some (.ref 59), some (.int i)], []) wm q → Go X 40 mt_0 (32, [some (.retAddr 0), some (.ref 0), some (.ref 59), some (.int i)], [.int (x0 &&& 63)]) w q := by
  obtain ⟨⟨I, hI, ρ, H⟩, hP, hY, hA, hO, t, hB⟩ := hw
  rcases List.mem_cons.mp hI with rfl | hI
  · obtain ⟨v1, v2, wx, wm, gs, fs, ⟨z1, a1⟩, ⟨z2, a2⟩, b1, b2, g1, g2, hI2, hF, hS⟩ := pr_goL (pr_goQ (X := []) (vs := [.int x1]) rfl rfl (ai_cons kah_351 (ai_cons kah_354 ai_nil)) pc0_6 H ⟨⟨_, rfl⟩, trivial⟩) sy_0_4 H
    obtain ⟨ρ', H'⟩ := pr_one hI2
    obtain ⟨u1, rfl, -⟩ := ai_nzI a1
    obtain ⟨u2, rfl, -⟩ := ai_nzI a2
    exact ⟨wm, ⟨⟨(iv_0, iv_l0), List.mem_of_getElem? (i := 0) rfl, ρ', H'⟩, up_t0 H' hP (hS _ (List.mem_of_getElem? (i := 0) rfl)) (hF 15 (List.mem_append_left _ (by decide +kernel))) (hF 16 (List.mem_append_left _ (by decide +kernel))) (hF 66 (List.mem_append_left _ (by decide +kernel))), up_y0 H' hY (hS _ (List.mem_of_getElem? (i := 1) rfl)) (hS _ (List.mem_of_getElem? (i := 2) rfl)) (hF 33 (List.mem_append_left _ (by decide +kernel))) (hF 63 (List.mem_append_left _ (by decide +kernel))), hA.same (fun p hp => hF p (List.mem_append_right _ (List.mem_append_left _ hp))), ((hS _ (List.mem_of_getElem? (i := 3) rfl))).trans (hO.trans ((hS _ (List.mem_of_getElem? (i := 4) rfl))).symm), up_b0 H' H hB (hS _ (List.mem_of_getElem? (i := 5) rfl)) (hS _ (List.mem_of_getElem? (i := 6) rfl)) (fun q hq => hF q (List.mem_append_right _ (List.mem_append_right _ hq)))⟩, (g1.sm (List.mem_of_getElem? (i := 15) rfl) (by decide +kernel) rfl).tr (g2.sm (List.mem_of_getElem? (i := 16) rfl) (by decide +kernel) rfl), fun q kk => lc_6 h1 h2 h3 h4 b1 b2 hs g1 g2 kk⟩
  · obtain rfl := List.mem_singleton.mp hI
    obtain ⟨v1, v2, wx, wm, gs, fs, ⟨z1, a1⟩, ⟨z2, a2⟩, b1, b2, g1, g2, hI2, hF, hS⟩ := pr_goL (pr_goQ (X := []) (vs := [.int x1]) rfl rfl (ai_cons kbh_252 (ai_cons kah_354 ai_nil)) pc1_6 H ⟨⟨_, rfl⟩, trivial⟩) sy_1_5 H
    obtain ⟨ρ', H'⟩ := pr_one hI2
    obtain ⟨u1, rfl, -⟩ := ai_nzI a1
    obtain ⟨u2, rfl, -⟩ := ai_nzI a2
    exact ⟨wm, ⟨⟨(iv_1, iv_l1), List.mem_of_getElem? (i := 1) rfl, ρ', H'⟩, up_t1 H' hP (hS _ (List.mem_of_getElem? (i := 0) rfl)) (hF 15 (List.mem_append_left _ (by decide +kernel))) (hF 16 (List.mem_append_left _ (by decide +kernel))) (hF 66 (List.mem_append_left _ (by decide +kernel))), up_y1 H' hY (hS _ (List.mem_of_getElem? (i := 1) rfl)) (hS _ (List.mem_of_getElem? (i := 2) rfl)) (hF 33 (List.mem_append_left _ (by decide +kernel))) (hF 63 (List.mem_append_left _ (by decide +kernel))), hA.same (fun p hp => hF p (List.mem_append_right _ (List.mem_append_left _ hp))), ((hS _ (List.mem_of_getElem? (i := 3) rfl))).trans (hO.trans ((hS _ (List.mem_of_getElem? (i := 4) rfl))).symm), up_b1 H' H hB (hS _ (List.mem_of_getElem? (i := 5) rfl)) (hS _ (List.mem_of_getElem? (i := 6) rfl)) (fun q hq => hF q (List.mem_append_right _ (List.mem_append_right _ hq)))⟩, (g1.sm (List.mem_of_getElem? (i := 15) rfl) (by decide +kernel) rfl).tr (g2.sm (List.mem_of_getElem? (i := 16) rfl) (by decide +kernel) rfl), fun q kk => lc_6 h1 h2 h3 h4 b1 b2 hs g1 g2 kk⟩
theorem ls_7 {X : List Int32} {i x0 x1 x2 x3 x4 : Int32} {w : ex_W} (h1 : lw_x X (i + 1) x1) (h2 : lw_x X (i + 2) x2) (h3 : lw_x X (i + 3) x3) (h4 : lw_x X (i + 4) x4) (hw : bv_I w) (hs : x0 &&& 63 = 7) : ∃ wm, bv_I wm ∧ ex_sm w wm ∧ ∀ q, Go X 40 mt_0 (1238, [some (.retAddr 0), some (.ref 0), some (.ref 59), some (.int i)], []) wm q → Go X 40 mt_0 (32, [some (.retAddr 0), some (.ref 0), some (.ref 59), some (.int i)], [.int (x0 &&& 63)]) w q := by
  obtain ⟨⟨I, hI, ρ, H⟩, hP, hY, hA, hO, t, hB⟩ := hw
  rcases List.mem_cons.mp hI with rfl | hI
  · obtain ⟨v1, v2, wx, wm, gs, fs, ⟨z1, a1⟩, ⟨z2, a2⟩, b1, b2, g1, g2, hI2, hF, hS⟩ := pr_goL (pr_goQ (X := []) (vs := [.int x1]) rfl rfl (ai_cons kah_356 (ai_cons kah_359 ai_nil)) pc0_7 H ⟨⟨_, rfl⟩, trivial⟩) sy_0_4 H
    obtain ⟨ρ', H'⟩ := pr_one hI2
    obtain ⟨u1, rfl, -⟩ := ai_nzI a1
    obtain ⟨u2, rfl, -⟩ := ai_nzI a2
    exact ⟨wm, ⟨⟨(iv_0, iv_l0), List.mem_of_getElem? (i := 0) rfl, ρ', H'⟩, up_t0 H' hP (hS _ (List.mem_of_getElem? (i := 0) rfl)) (hF 15 (List.mem_append_left _ (by decide +kernel))) (hF 16 (List.mem_append_left _ (by decide +kernel))) (hF 66 (List.mem_append_left _ (by decide +kernel))), up_y0 H' hY (hS _ (List.mem_of_getElem? (i := 1) rfl)) (hS _ (List.mem_of_getElem? (i := 2) rfl)) (hF 33 (List.mem_append_left _ (by decide +kernel))) (hF 63 (List.mem_append_left _ (by decide +kernel))), hA.same (fun p hp => hF p (List.mem_append_right _ (List.mem_append_left _ hp))), ((hS _ (List.mem_of_getElem? (i := 3) rfl))).trans (hO.trans ((hS _ (List.mem_of_getElem? (i := 4) rfl))).symm), up_b0 H' H hB (hS _ (List.mem_of_getElem? (i := 5) rfl)) (hS _ (List.mem_of_getElem? (i := 6) rfl)) (fun q hq => hF q (List.mem_append_right _ (List.mem_append_right _ hq)))⟩, (g1.sm (List.mem_of_getElem? (i := 17) rfl) (by decide +kernel) rfl).tr (g2.sm (List.mem_of_getElem? (i := 18) rfl) (by decide +kernel) rfl), fun q kk => lc_7 h1 h2 h3 h4 b1 b2 hs g1 g2 kk⟩
  · obtain rfl := List.mem_singleton.mp hI
    obtain ⟨v1, v2, wx, wm, gs, fs, ⟨z1, a1⟩, ⟨z2, a2⟩, b1, b2, g1, g2, hI2, hF, hS⟩ := pr_goL (pr_goQ (X := []) (vs := [.int x1]) rfl rfl (ai_cons kbh_254 (ai_cons kah_359 ai_nil)) pc1_7 H ⟨⟨_, rfl⟩, trivial⟩) sy_1_5 H
    obtain ⟨ρ', H'⟩ := pr_one hI2
    obtain ⟨u1, rfl, -⟩ := ai_nzI a1
    obtain ⟨u2, rfl, -⟩ := ai_nzI a2
    exact ⟨wm, ⟨⟨(iv_1, iv_l1), List.mem_of_getElem? (i := 1) rfl, ρ', H'⟩, up_t1 H' hP (hS _ (List.mem_of_getElem? (i := 0) rfl)) (hF 15 (List.mem_append_left _ (by decide +kernel))) (hF 16 (List.mem_append_left _ (by decide +kernel))) (hF 66 (List.mem_append_left _ (by decide +kernel))), up_y1 H' hY (hS _ (List.mem_of_getElem? (i := 1) rfl)) (hS _ (List.mem_of_getElem? (i := 2) rfl)) (hF 33 (List.mem_append_left _ (by decide +kernel))) (hF 63 (List.mem_append_left _ (by decide +kernel))), hA.same (fun p hp => hF p (List.mem_append_right _ (List.mem_append_left _ hp))), ((hS _ (List.mem_of_getElem? (i := 3) rfl))).trans (hO.trans ((hS _ (List.mem_of_getElem? (i := 4) rfl))).symm), up_b1 H' H hB (hS _ (List.mem_of_getElem? (i := 5) rfl)) (hS _ (List.mem_of_getElem? (i := 6) rfl)) (fun q hq => hF q (List.mem_append_right _ (List.mem_append_right _ hq)))⟩, (g1.sm (List.mem_of_getElem? (i := 17) rfl) (by decide +kernel) rfl).tr (g2.sm (List.mem_of_getElem? (i := 18) rfl) (by decide +kernel) rfl), fun q kk => lc_7 h1 h2 h3 h4 b1 b2 hs g1 g2 kk⟩
theorem ls_8 {X : List Int32} {i x0 x1 x2 x3 x4 : Int32} {w : ex_W} (h1 : lw_x X (i + 1) x1) (h2 : lw_x X (i + 2) x2) (h3 : lw_x X (i + 3) x3) (h4 : lw_x X (i + 4) x4) (hw : bv_I w) (hs : x0 &&& 63 = 8) : ∃ wm, bv_I wm ∧ ex_sm w wm ∧ ∀ q, Go X 40 mt_0 (1238, [some (.retAddr 0), some (.ref 0), some (.ref 59), some (.int i)], []) wm q → Go X 40 mt_0 (32, [some (.retAddr 0), some (.ref 0), some (.ref 59), some (.int i)], [.int (x0 &&& 63)]) w q := by
  obtain ⟨⟨I, hI, ρ, H⟩, hP, hY, hA, hO, t, hB⟩ := hw
  rcases List.mem_cons.mp hI with rfl | hI
  · obtain ⟨v1, v2, wx, wm, gs, fs, ⟨z1, a1⟩, ⟨z2, a2⟩, b1, b2, g1, g2, hI2, hF, hS⟩ := pr_goL (pr_goQ (X := []) (vs := [.int x1]) rfl rfl (ai_cons kah_360 (ai_cons kah_361 ai_nil)) pc0_8 H ⟨⟨_, rfl⟩, trivial⟩) sy_0_6 H
    obtain ⟨ρ', H'⟩ := pr_one hI2
    obtain ⟨r, wx', wm', k1, k2, kB⟩ := h8_0 (x := x1) hB
    cases Go.det g1 k1
    cases Go.det g2 k2
    exact ⟨wm, ⟨⟨(iv_0, iv_l0), List.mem_of_getElem? (i := 0) rfl, ρ', H'⟩, up_t0 H' hP (hS _ (List.mem_of_getElem? (i := 0) rfl)) (hF 15 (List.mem_append_left _ (by decide +kernel))) (hF 16 (List.mem_append_left _ (by decide +kernel))) (hF 66 (List.mem_append_left _ (by decide +kernel))), up_y0 H' hY (hS _ (List.mem_of_getElem? (i := 1) rfl)) (hS _ (List.mem_of_getElem? (i := 2) rfl)) (hF 33 (List.mem_append_left _ (by decide +kernel))) (hF 63 (List.mem_append_left _ (by decide +kernel))), hA.same (fun p hp => hF p (List.mem_append_right _ (List.mem_append_left _ hp))), ((hS _ (List.mem_of_getElem? (i := 3) rfl))).trans (hO.trans ((hS _ (List.mem_of_getElem? (i := 4) rfl))).symm), kB⟩, (g1.sm (List.mem_of_getElem? (i := 19) rfl) (by decide +kernel) rfl).tr (g2.sm (List.mem_of_getElem? (i := 20) rfl) (by decide +kernel) rfl), fun q kk => lc_8 h1 h2 h3 h4 b1 b2 hs g1 g2 kk⟩
  · obtain rfl := List.mem_singleton.mp hI
    obtain ⟨v1, v2, wx, wm, gs, fs, ⟨z1, a1⟩, ⟨z2, a2⟩, b1, b2, g1, g2, hI2, hF, hS⟩ := pr_goL (pr_goQ (X := []) (vs := [.int x1]) rfl rfl (ai_cons kbh_255 (ai_cons kah_361 ai_nil)) pc1_8 H ⟨⟨_, rfl⟩, trivial⟩) sy_1_7 H
    obtain ⟨ρ', H'⟩ := pr_one hI2
    obtain ⟨r, wx', wm', k1, k2, kB⟩ := h8_1 (x := x1) hB
    cases Go.det g1 k1
    cases Go.det g2 k2
    exact ⟨wm, ⟨⟨(iv_1, iv_l1), List.mem_of_getElem? (i := 1) rfl, ρ', H'⟩, up_t1 H' hP (hS _ (List.mem_of_getElem? (i := 0) rfl)) (hF 15 (List.mem_append_left _ (by decide +kernel))) (hF 16 (List.mem_append_left _ (by decide +kernel))) (hF 66 (List.mem_append_left _ (by decide +kernel))), up_y1 H' hY (hS _ (List.mem_of_getElem? (i := 1) rfl)) (hS _ (List.mem_of_getElem? (i := 2) rfl)) (hF 33 (List.mem_append_left _ (by decide +kernel))) (hF 63 (List.mem_append_left _ (by decide +kernel))), hA.same (fun p hp => hF p (List.mem_append_right _ (List.mem_append_left _ hp))), ((hS _ (List.mem_of_getElem? (i := 3) rfl))).trans (hO.trans ((hS _ (List.mem_of_getElem? (i := 4) rfl))).symm), kB⟩, (g1.sm (List.mem_of_getElem? (i := 19) rfl) (by decide +kernel) rfl).tr (g2.sm (List.mem_of_getElem? (i := 20) rfl) (by decide +kernel) rfl), fun q kk => lc_8 h1 h2 h3 h4 b1 b2 hs g1 g2 kk⟩
theorem ls_9 {X : List Int32} {i x0 x1 x2 x3 x4 : Int32} {w : ex_W} (h1 : lw_x X (i + 1) x1) (h2 : lw_x X (i + 2) x2) (h3 : lw_x X (i + 3) x3) (h4 : lw_x X (i + 4) x4) (hw : bv_I w) (hs : x0 &&& 63 = 9) : ∃ wm, bv_I wm ∧ ex_sm w wm ∧ ∀ q, Go X 40 mt_0 (1238, [some (.retAddr 0), some (.ref 0), some (.ref 59), some (.int i)], []) wm q → Go X 40 mt_0 (32, [some (.retAddr 0), some (.ref 0), some (.ref 59), some (.int i)], [.int (x0 &&& 63)]) w q := by
  obtain ⟨⟨I, hI, ρ, H⟩, hP, hY, hA, hO, t, hB⟩ := hw
  rcases List.mem_cons.mp hI with rfl | hI
  · obtain ⟨v1, v2, wx, wm, gs, fs, ⟨z1, a1⟩, ⟨z2, a2⟩, b1, b2, g1, g2, hI2, hF, hS⟩ := pr_goL (pr_goQ (X := []) (vs := [.int x1]) rfl rfl (ai_cons kah_362 (ai_cons kah_364 ai_nil)) pc0_9 H ⟨⟨_, rfl⟩, trivial⟩) sy_0_6 H
    obtain ⟨ρ', H'⟩ := pr_one hI2
    obtain ⟨r, wx', wm', k1, k2, kB⟩ := h9_0 (x := x1) hB
    cases Go.det g1 k1
    cases Go.det g2 k2
    exact ⟨wm, ⟨⟨(iv_0, iv_l0), List.mem_of_getElem? (i := 0) rfl, ρ', H'⟩, up_t0 H' hP (hS _ (List.mem_of_getElem? (i := 0) rfl)) (hF 15 (List.mem_append_left _ (by decide +kernel))) (hF 16 (List.mem_append_left _ (by decide +kernel))) (hF 66 (List.mem_append_left _ (by decide +kernel))), up_y0 H' hY (hS _ (List.mem_of_getElem? (i := 1) rfl)) (hS _ (List.mem_of_getElem? (i := 2) rfl)) (hF 33 (List.mem_append_left _ (by decide +kernel))) (hF 63 (List.mem_append_left _ (by decide +kernel))), hA.same (fun p hp => hF p (List.mem_append_right _ (List.mem_append_left _ hp))), ((hS _ (List.mem_of_getElem? (i := 3) rfl))).trans (hO.trans ((hS _ (List.mem_of_getElem? (i := 4) rfl))).symm), kB⟩, (g1.sm (List.mem_of_getElem? (i := 21) rfl) (by decide +kernel) rfl).tr (g2.sm (List.mem_of_getElem? (i := 22) rfl) (by decide +kernel) rfl), fun q kk => lc_9 h1 h2 h3 h4 b1 b2 hs g1 g2 kk⟩
  · obtain rfl := List.mem_singleton.mp hI
    obtain ⟨v1, v2, wx, wm, gs, fs, ⟨z1, a1⟩, ⟨z2, a2⟩, b1, b2, g1, g2, hI2, hF, hS⟩ := pr_goL (pr_goQ (X := []) (vs := [.int x1]) rfl rfl (ai_cons kbh_256 (ai_cons kah_364 ai_nil)) pc1_9 H ⟨⟨_, rfl⟩, trivial⟩) sy_1_7 H
    obtain ⟨ρ', H'⟩ := pr_one hI2
    obtain ⟨r, wx', wm', k1, k2, kB⟩ := h9_1 (x := x1) hB
    cases Go.det g1 k1
    cases Go.det g2 k2
    exact ⟨wm, ⟨⟨(iv_1, iv_l1), List.mem_of_getElem? (i := 1) rfl, ρ', H'⟩, up_t1 H' hP (hS _ (List.mem_of_getElem? (i := 0) rfl)) (hF 15 (List.mem_append_left _ (by decide +kernel))) (hF 16 (List.mem_append_left _ (by decide +kernel))) (hF 66 (List.mem_append_left _ (by decide +kernel))), up_y1 H' hY (hS _ (List.mem_of_getElem? (i := 1) rfl)) (hS _ (List.mem_of_getElem? (i := 2) rfl)) (hF 33 (List.mem_append_left _ (by decide +kernel))) (hF 63 (List.mem_append_left _ (by decide +kernel))), hA.same (fun p hp => hF p (List.mem_append_right _ (List.mem_append_left _ hp))), ((hS _ (List.mem_of_getElem? (i := 3) rfl))).trans (hO.trans ((hS _ (List.mem_of_getElem? (i := 4) rfl))).symm), kB⟩, (g1.sm (List.mem_of_getElem? (i := 21) rfl) (by decide +kernel) rfl).tr (g2.sm (List.mem_of_getElem? (i := 22) rfl) (by decide +kernel) rfl), fun q kk => lc_9 h1 h2 h3 h4 b1 b2 hs g1 g2 kk⟩
theorem ls_10 {X : List Int32} {i x0 x1 x2 x3 x4 : Int32} {w : ex_W} (h1 : lw_x X (i + 1) x1) (h2 : lw_x X (i + 2) x2) (h3 : lw_x X (i + 3) x3) (h4 : lw_x X (i + 4) x4) (hw : bv_I w) (hs : x0 &&& 63 = 10) : ∃ wm, bv_I wm ∧ ex_sm w wm ∧ ∀ q, Go X 40 mt_0 (1238, [some (.retAddr 0), some (.ref 0), some (.ref 59), some (.int i)], []) wm q → Go X 40 mt_0 (32, [some (.retAddr 0), some (.ref 0), some (.ref 59), some (.int i)], [.int (x0 &&& 63)]) w q := by
  obtain ⟨⟨I, hI, ρ, H⟩, hP, hY, hA, hO, t, hB⟩ := hw
  rcases List.mem_cons.mp hI with rfl | hI
  · obtain ⟨v1, v2, wx, wm, gs, fs, ⟨z1, a1⟩, ⟨z2, a2⟩, b1, b2, g1, g2, hI2, hF, hS⟩ := pr_goL (pr_goQ (X := []) (vs := [.int x1]) rfl rfl (ai_cons kah_365 (ai_cons kah_367 ai_nil)) pc0_10 H ⟨⟨_, rfl⟩, trivial⟩) sy_0_6 H
    obtain ⟨ρ', H'⟩ := pr_one hI2
    obtain ⟨r, wx', wm', k1, k2, kB⟩ := h10_0 (x := x1) hB
    cases Go.det g1 k1
    cases Go.det g2 k2
    exact ⟨wm, ⟨⟨(iv_0, iv_l0), List.mem_of_getElem? (i := 0) rfl, ρ', H'⟩, up_t0 H' hP (hS _ (List.mem_of_getElem? (i := 0) rfl)) (hF 15 (List.mem_append_left _ (by decide +kernel))) (hF 16 (List.mem_append_left _ (by decide +kernel))) (hF 66 (List.mem_append_left _ (by decide +kernel))), up_y0 H' hY (hS _ (List.mem_of_getElem? (i := 1) rfl)) (hS _ (List.mem_of_getElem? (i := 2) rfl)) (hF 33 (List.mem_append_left _ (by decide +kernel))) (hF 63 (List.mem_append_left _ (by decide +kernel))), hA.same (fun p hp => hF p (List.mem_append_right _ (List.mem_append_left _ hp))), ((hS _ (List.mem_of_getElem? (i := 3) rfl))).trans (hO.trans ((hS _ (List.mem_of_getElem? (i := 4) rfl))).symm), kB⟩, (g1.sm (List.mem_of_getElem? (i := 23) rfl) (by decide +kernel) rfl).tr (g2.sm (List.mem_of_getElem? (i := 24) rfl) (by decide +kernel) rfl), fun q kk => lc_10 h1 h2 h3 h4 b1 b2 hs g1 g2 kk⟩
  · obtain rfl := List.mem_singleton.mp hI
    obtain ⟨v1, v2, wx, wm, gs, fs, ⟨z1, a1⟩, ⟨z2, a2⟩, b1, b2, g1, g2, hI2, hF, hS⟩ := pr_goL (pr_goQ (X := []) (vs := [.int x1]) rfl rfl (ai_cons kbh_257 (ai_cons kah_367 ai_nil)) pc1_10 H ⟨⟨_, rfl⟩, trivial⟩) sy_1_7 H
    obtain ⟨ρ', H'⟩ := pr_one hI2
    obtain ⟨r, wx', wm', k1, k2, kB⟩ := h10_1 (x := x1) hB
    cases Go.det g1 k1
    cases Go.det g2 k2
    exact ⟨wm, ⟨⟨(iv_1, iv_l1), List.mem_of_getElem? (i := 1) rfl, ρ', H'⟩, up_t1 H' hP (hS _ (List.mem_of_getElem? (i := 0) rfl)) (hF 15 (List.mem_append_left _ (by decide +kernel))) (hF 16 (List.mem_append_left _ (by decide +kernel))) (hF 66 (List.mem_append_left _ (by decide +kernel))), up_y1 H' hY (hS _ (List.mem_of_getElem? (i := 1) rfl)) (hS _ (List.mem_of_getElem? (i := 2) rfl)) (hF 33 (List.mem_append_left _ (by decide +kernel))) (hF 63 (List.mem_append_left _ (by decide +kernel))), hA.same (fun p hp => hF p (List.mem_append_right _ (List.mem_append_left _ hp))), ((hS _ (List.mem_of_getElem? (i := 3) rfl))).trans (hO.trans ((hS _ (List.mem_of_getElem? (i := 4) rfl))).symm), kB⟩, (g1.sm (List.mem_of_getElem? (i := 23) rfl) (by decide +kernel) rfl).tr (g2.sm (List.mem_of_getElem? (i := 24) rfl) (by decide +kernel) rfl), fun q kk => lc_10 h1 h2 h3 h4 b1 b2 hs g1 g2 kk⟩
theorem ls_11 {X : List Int32} {i x0 x1 x2 x3 x4 : Int32} {w : ex_W} (h1 : lw_x X (i + 1) x1) (h2 : lw_x X (i + 2) x2) (h3 : lw_x X (i + 3) x3) (h4 : lw_x X (i + 4) x4) (hw : bv_I w) (hs : x0 &&& 63 = 11) : ∃ wm, bv_I wm ∧ ex_sm w wm ∧ ∀ q, Go X 40 mt_0 (1238, [some (.retAddr 0), some (.ref 0), some (.ref 59), some (.int i)], []) wm q → Go X 40 mt_0 (32, [some (.retAddr 0), some (.ref 0), some (.ref 59), some (.int i)], [.int (x0 &&& 63)]) w q := by
  obtain ⟨⟨I, hI, ρ, H⟩, hP, hY, hA, hO, t, hB⟩ := hw
  rcases List.mem_cons.mp hI with rfl | hI
  · obtain ⟨v1, v2, wx, wm, gs, fs, ⟨z1, a1⟩, ⟨z2, a2⟩, b1, b2, g1, g2, hI2, hF, hS⟩ := pr_goL (pr_goQ (X := []) (vs := [.int x1, .int x2]) rfl rfl (ai_cons kah_368 (ai_cons kah_369 ai_nil)) pc0_11 H ⟨⟨_, rfl⟩, ⟨_, rfl⟩, trivial⟩) sy_0_6 H
    obtain ⟨ρ', H'⟩ := pr_one hI2
    obtain ⟨r, wx', wm', k1, k2, kB⟩ := h11_0 (x := x1) (y := x2) hB
    cases Go.det g1 k1
    cases Go.det g2 k2
    exact ⟨wm, ⟨⟨(iv_0, iv_l0), List.mem_of_getElem? (i := 0) rfl, ρ', H'⟩, up_t0 H' hP (hS _ (List.mem_of_getElem? (i := 0) rfl)) (hF 15 (List.mem_append_left _ (by decide +kernel))) (hF 16 (List.mem_append_left _ (by decide +kernel))) (hF 66 (List.mem_append_left _ (by decide +kernel))), up_y0 H' hY (hS _ (List.mem_of_getElem? (i := 1) rfl)) (hS _ (List.mem_of_getElem? (i := 2) rfl)) (hF 33 (List.mem_append_left _ (by decide +kernel))) (hF 63 (List.mem_append_left _ (by decide +kernel))), hA.same (fun p hp => hF p (List.mem_append_right _ (List.mem_append_left _ hp))), ((hS _ (List.mem_of_getElem? (i := 3) rfl))).trans (hO.trans ((hS _ (List.mem_of_getElem? (i := 4) rfl))).symm), kB⟩, (g1.sm (List.mem_of_getElem? (i := 25) rfl) (by decide +kernel) rfl).tr (g2.sm (List.mem_of_getElem? (i := 26) rfl) (by decide +kernel) rfl), fun q kk => lc_11 h1 h2 h3 h4 b1 b2 hs g1 g2 kk⟩
  · obtain rfl := List.mem_singleton.mp hI
    obtain ⟨v1, v2, wx, wm, gs, fs, ⟨z1, a1⟩, ⟨z2, a2⟩, b1, b2, g1, g2, hI2, hF, hS⟩ := pr_goL (pr_goQ (X := []) (vs := [.int x1, .int x2]) rfl rfl (ai_cons kbh_258 (ai_cons kah_369 ai_nil)) pc1_11 H ⟨⟨_, rfl⟩, ⟨_, rfl⟩, trivial⟩) sy_1_7 H
    obtain ⟨ρ', H'⟩ := pr_one hI2
    obtain ⟨r, wx', wm', k1, k2, kB⟩ := h11_1 (x := x1) (y := x2) hB
    cases Go.det g1 k1
    cases Go.det g2 k2
    exact ⟨wm, ⟨⟨(iv_1, iv_l1), List.mem_of_getElem? (i := 1) rfl, ρ', H'⟩, up_t1 H' hP (hS _ (List.mem_of_getElem? (i := 0) rfl)) (hF 15 (List.mem_append_left _ (by decide +kernel))) (hF 16 (List.mem_append_left _ (by decide +kernel))) (hF 66 (List.mem_append_left _ (by decide +kernel))), up_y1 H' hY (hS _ (List.mem_of_getElem? (i := 1) rfl)) (hS _ (List.mem_of_getElem? (i := 2) rfl)) (hF 33 (List.mem_append_left _ (by decide +kernel))) (hF 63 (List.mem_append_left _ (by decide +kernel))), hA.same (fun p hp => hF p (List.mem_append_right _ (List.mem_append_left _ hp))), ((hS _ (List.mem_of_getElem? (i := 3) rfl))).trans (hO.trans ((hS _ (List.mem_of_getElem? (i := 4) rfl))).symm), kB⟩, (g1.sm (List.mem_of_getElem? (i := 25) rfl) (by decide +kernel) rfl).tr (g2.sm (List.mem_of_getElem? (i := 26) rfl) (by decide +kernel) rfl), fun q kk => lc_11 h1 h2 h3 h4 b1 b2 hs g1 g2 kk⟩
theorem ls_12 {X : List Int32} {i x0 x1 x2 x3 x4 : Int32} {w : ex_W} (h1 : lw_x X (i + 1) x1) (h2 : lw_x X (i + 2) x2) (h3 : lw_x X (i + 3) x3) (h4 : lw_x X (i + 4) x4) (hw : bv_I w) (hs : x0 &&& 63 = 12) : ∃ wm, bv_I wm ∧ ex_sm w wm ∧ ∀ q, Go X 40 mt_0 (1238, [some (.retAddr 0), some (.ref 0), some (.ref 59), some (.int i)], []) wm q → Go X 40 mt_0 (32, [some (.retAddr 0), some (.ref 0), some (.ref 59), some (.int i)], [.int (x0 &&& 63)]) w q := by
  obtain ⟨⟨I, hI, ρ, H⟩, hP, hY, hA, hO, t, hB⟩ := hw
  rcases List.mem_cons.mp hI with rfl | hI
  · obtain ⟨v1, v2, wx, wm, gs, fs, ⟨z1, a1⟩, ⟨z2, a2⟩, b1, b2, g1, g2, hI2, hF, hS⟩ := pr_goL (pr_goQ (X := []) (vs := [.int x1]) rfl rfl (ai_cons kah_370 (ai_cons kah_372 ai_nil)) pc0_12 H ⟨⟨_, rfl⟩, trivial⟩) sy_0_6 H
    obtain ⟨ρ', H'⟩ := pr_one hI2
    obtain ⟨r, wx', wm', k1, k2, kB⟩ := h12_0 (x := x1) hB
    cases Go.det g1 k1
    cases Go.det g2 k2
    exact ⟨wm, ⟨⟨(iv_0, iv_l0), List.mem_of_getElem? (i := 0) rfl, ρ', H'⟩, up_t0 H' hP (hS _ (List.mem_of_getElem? (i := 0) rfl)) (hF 15 (List.mem_append_left _ (by decide +kernel))) (hF 16 (List.mem_append_left _ (by decide +kernel))) (hF 66 (List.mem_append_left _ (by decide +kernel))), up_y0 H' hY (hS _ (List.mem_of_getElem? (i := 1) rfl)) (hS _ (List.mem_of_getElem? (i := 2) rfl)) (hF 33 (List.mem_append_left _ (by decide +kernel))) (hF 63 (List.mem_append_left _ (by decide +kernel))), hA.same (fun p hp => hF p (List.mem_append_right _ (List.mem_append_left _ hp))), ((hS _ (List.mem_of_getElem? (i := 3) rfl))).trans (hO.trans ((hS _ (List.mem_of_getElem? (i := 4) rfl))).symm), kB⟩, (g1.sm (List.mem_of_getElem? (i := 27) rfl) (by decide +kernel) rfl).tr (g2.sm (List.mem_of_getElem? (i := 28) rfl) (by decide +kernel) rfl), fun q kk => lc_12 h1 h2 h3 h4 b1 b2 hs g1 g2 kk⟩
  · obtain rfl := List.mem_singleton.mp hI
    obtain ⟨v1, v2, wx, wm, gs, fs, ⟨z1, a1⟩, ⟨z2, a2⟩, b1, b2, g1, g2, hI2, hF, hS⟩ := pr_goL (pr_goQ (X := []) (vs := [.int x1]) rfl rfl (ai_cons kbh_259 (ai_cons kah_372 ai_nil)) pc1_12 H ⟨⟨_, rfl⟩, trivial⟩) sy_1_7 H
    obtain ⟨ρ', H'⟩ := pr_one hI2
    obtain ⟨r, wx', wm', k1, k2, kB⟩ := h12_1 (x := x1) hB
    cases Go.det g1 k1
    cases Go.det g2 k2
    exact ⟨wm, ⟨⟨(iv_1, iv_l1), List.mem_of_getElem? (i := 1) rfl, ρ', H'⟩, up_t1 H' hP (hS _ (List.mem_of_getElem? (i := 0) rfl)) (hF 15 (List.mem_append_left _ (by decide +kernel))) (hF 16 (List.mem_append_left _ (by decide +kernel))) (hF 66 (List.mem_append_left _ (by decide +kernel))), up_y1 H' hY (hS _ (List.mem_of_getElem? (i := 1) rfl)) (hS _ (List.mem_of_getElem? (i := 2) rfl)) (hF 33 (List.mem_append_left _ (by decide +kernel))) (hF 63 (List.mem_append_left _ (by decide +kernel))), hA.same (fun p hp => hF p (List.mem_append_right _ (List.mem_append_left _ hp))), ((hS _ (List.mem_of_getElem? (i := 3) rfl))).trans (hO.trans ((hS _ (List.mem_of_getElem? (i := 4) rfl))).symm), kB⟩, (g1.sm (List.mem_of_getElem? (i := 27) rfl) (by decide +kernel) rfl).tr (g2.sm (List.mem_of_getElem? (i := 28) rfl) (by decide +kernel) rfl), fun q kk => lc_12 h1 h2 h3 h4 b1 b2 hs g1 g2 kk⟩
theorem ls_13 {X : List Int32} {i x0 x1 x2 x3 x4 : Int32} {w : ex_W} (h1 : lw_x X (i + 1) x1) (h2 : lw_x X (i + 2) x2) (h3 : lw_x X (i + 3) x3) (h4 : lw_x X (i + 4) x4) (hw : bv_I w) (hs : x0 &&& 63 = 13) : ∃ wm, bv_I wm ∧ ex_sm w wm ∧ ∀ q, Go X 40 mt_0 (1238, [some (.retAddr 0), some (.ref 0), some (.ref 59), some (.int i)], []) wm q → Go X 40 mt_0 (32, [some (.retAddr 0), some (.ref 0), some (.ref 59), some (.int i)], [.int (x0 &&& 63)]) w q := by
  obtain ⟨⟨I, hI, ρ, H⟩, hP, hY, hA, hO, t, hB⟩ := hw
  rcases List.mem_cons.mp hI with rfl | hI
  · obtain ⟨v1, v2, wx, wm, gs, fs, ⟨z1, a1⟩, ⟨z2, a2⟩, b1, b2, g1, g2, hI2, hF, hS⟩ := pr_goL (pr_goQ (X := []) (vs := []) rfl rfl (ai_cons kah_379 (ai_cons kah_385 ai_nil)) pc0_13 H trivial) sy_0_4 H
    obtain ⟨ρ', H'⟩ := pr_one hI2
    obtain ⟨u1, rfl, -⟩ := ai_nzI a1
    obtain ⟨u2, rfl, -⟩ := ai_nzI a2
    exact ⟨wm, ⟨⟨(iv_0, iv_l0), List.mem_of_getElem? (i := 0) rfl, ρ', H'⟩, up_t0 H' hP (hS _ (List.mem_of_getElem? (i := 0) rfl)) (hF 15 (List.mem_append_left _ (by decide +kernel))) (hF 16 (List.mem_append_left _ (by decide +kernel))) (hF 66 (List.mem_append_left _ (by decide +kernel))), up_y0 H' hY (hS _ (List.mem_of_getElem? (i := 1) rfl)) (hS _ (List.mem_of_getElem? (i := 2) rfl)) (hF 33 (List.mem_append_left _ (by decide +kernel))) (hF 63 (List.mem_append_left _ (by decide +kernel))), hA.same (fun p hp => hF p (List.mem_append_right _ (List.mem_append_left _ hp))), ((hS _ (List.mem_of_getElem? (i := 3) rfl))).trans (hO.trans ((hS _ (List.mem_of_getElem? (i := 4) rfl))).symm), up_b0 H' H hB (hS _ (List.mem_of_getElem? (i := 5) rfl)) (hS _ (List.mem_of_getElem? (i := 6) rfl)) (fun q hq => hF q (List.mem_append_right _ (List.mem_append_right _ hq)))⟩, (g1.sm (List.mem_of_getElem? (i := 29) rfl) (by decide +kernel) rfl).tr (g2.sm (List.mem_of_getElem? (i := 30) rfl) (by decide +kernel) rfl), fun q kk => lc_13 h1 h2 h3 h4 b1 b2 hs g1 g2 kk⟩
  · obtain rfl := List.mem_singleton.mp hI
    obtain ⟨v1, v2, wx, wm, gs, fs, ⟨z1, a1⟩, ⟨z2, a2⟩, b1, b2, g1, g2, hI2, hF, hS⟩ := pr_goL (pr_goQ (X := []) (vs := []) rfl rfl (ai_cons kbh_266 (ai_cons kah_385 ai_nil)) pc1_13 H trivial) sy_1_5 H
    obtain ⟨ρ', H'⟩ := pr_one hI2
    obtain ⟨u1, rfl, -⟩ := ai_nzI a1
    obtain ⟨u2, rfl, -⟩ := ai_nzI a2
    exact ⟨wm, ⟨⟨(iv_1, iv_l1), List.mem_of_getElem? (i := 1) rfl, ρ', H'⟩, up_t1 H' hP (hS _ (List.mem_of_getElem? (i := 0) rfl)) (hF 15 (List.mem_append_left _ (by decide +kernel))) (hF 16 (List.mem_append_left _ (by decide +kernel))) (hF 66 (List.mem_append_left _ (by decide +kernel))), up_y1 H' hY (hS _ (List.mem_of_getElem? (i := 1) rfl)) (hS _ (List.mem_of_getElem? (i := 2) rfl)) (hF 33 (List.mem_append_left _ (by decide +kernel))) (hF 63 (List.mem_append_left _ (by decide +kernel))), hA.same (fun p hp => hF p (List.mem_append_right _ (List.mem_append_left _ hp))), ((hS _ (List.mem_of_getElem? (i := 3) rfl))).trans (hO.trans ((hS _ (List.mem_of_getElem? (i := 4) rfl))).symm), up_b1 H' H hB (hS _ (List.mem_of_getElem? (i := 5) rfl)) (hS _ (List.mem_of_getElem? (i := 6) rfl)) (fun q hq => hF q (List.mem_append_right _ (List.mem_append_right _ hq)))⟩, (g1.sm (List.mem_of_getElem? (i := 29) rfl) (by decide +kernel) rfl).tr (g2.sm (List.mem_of_getElem? (i := 30) rfl) (by decide +kernel) rfl), fun q kk => lc_13 h1 h2 h3 h4 b1 b2 hs g1 g2 kk⟩
theorem ls_14 {X : List Int32} {i x0 x1 x2 x3 x4 : Int32} {w : ex_W} (h1 : lw_x X (i + 1) x1) (h2 : lw_x X (i + 2) x2) (h3 : lw_x X (i + 3) x3) (h4 : lw_x X (i + 4) x4) (hw : bv_I w) (hs : x0 &&& 63 = 14) : ∃ wm, bv_I wm ∧ ex_sm w wm ∧ ∀ q, Go X 40 mt_0 (1238, [some (.retAddr 0), some (.ref 0), some (.ref 59), some (.int i)], []) wm q → Go X 40 mt_0 (32, [some (.retAddr 0), some (.ref 0), some (.ref 59), some (.int i)], [.int (x0 &&& 63)]) w q := by
  obtain ⟨⟨I, hI, ρ, H⟩, hP, hY, hA, hO, t, hB⟩ := hw
  rcases List.mem_cons.mp hI with rfl | hI
  · obtain ⟨v1, v2, wx, wm, gs, fs, ⟨z1, a1⟩, ⟨z2, a2⟩, b1, b2, g1, g2, hI2, hF, hS⟩ := pr_goL (pr_goQ (X := []) (vs := [.int x1]) rfl rfl (ai_cons kah_388 (ai_cons kah_390 ai_nil)) pc0_14 H ⟨⟨_, rfl⟩, trivial⟩) sy_0_4 H
    obtain ⟨ρ', H'⟩ := pr_one hI2
    obtain ⟨u1, rfl, -⟩ := ai_nzI a1
    obtain ⟨u2, rfl, -⟩ := ai_nzI a2
    exact ⟨wm, ⟨⟨(iv_0, iv_l0), List.mem_of_getElem? (i := 0) rfl, ρ', H'⟩, up_t0 H' hP (hS _ (List.mem_of_getElem? (i := 0) rfl)) (hF 15 (List.mem_append_left _ (by decide +kernel))) (hF 16 (List.mem_append_left _ (by decide +kernel))) (hF 66 (List.mem_append_left _ (by decide +kernel))), up_y0 H' hY (hS _ (List.mem_of_getElem? (i := 1) rfl)) (hS _ (List.mem_of_getElem? (i := 2) rfl)) (hF 33 (List.mem_append_left _ (by decide +kernel))) (hF 63 (List.mem_append_left _ (by decide +kernel))), hA.same (fun p hp => hF p (List.mem_append_right _ (List.mem_append_left _ hp))), ((hS _ (List.mem_of_getElem? (i := 3) rfl))).trans (hO.trans ((hS _ (List.mem_of_getElem? (i := 4) rfl))).symm), up_b0 H' H hB (hS _ (List.mem_of_getElem? (i := 5) rfl)) (hS _ (List.mem_of_getElem? (i := 6) rfl)) (fun q hq => hF q (List.mem_append_right _ (List.mem_append_right _ hq)))⟩, (g1.sm (List.mem_of_getElem? (i := 31) rfl) (by decide +kernel) rfl).tr (g2.sm (List.mem_of_getElem? (i := 32) rfl) (by decide +kernel) rfl), fun q kk => lc_14 h1 h2 h3 h4 b1 b2 hs g1 g2 kk⟩
  · obtain rfl := List.mem_singleton.mp hI
    obtain ⟨v1, v2, wx, wm, gs, fs, ⟨z1, a1⟩, ⟨z2, a2⟩, b1, b2, g1, g2, hI2, hF, hS⟩ := pr_goL (pr_goQ (X := []) (vs := [.int x1]) rfl rfl (ai_cons kbh_269 (ai_cons kah_390 ai_nil)) pc1_14 H ⟨⟨_, rfl⟩, trivial⟩) sy_1_5 H
    obtain ⟨ρ', H'⟩ := pr_one hI2
    obtain ⟨u1, rfl, -⟩ := ai_nzI a1
    obtain ⟨u2, rfl, -⟩ := ai_nzI a2
    exact ⟨wm, ⟨⟨(iv_1, iv_l1), List.mem_of_getElem? (i := 1) rfl, ρ', H'⟩, up_t1 H' hP (hS _ (List.mem_of_getElem? (i := 0) rfl)) (hF 15 (List.mem_append_left _ (by decide +kernel))) (hF 16 (List.mem_append_left _ (by decide +kernel))) (hF 66 (List.mem_append_left _ (by decide +kernel))), up_y1 H' hY (hS _ (List.mem_of_getElem? (i := 1) rfl)) (hS _ (List.mem_of_getElem? (i := 2) rfl)) (hF 33 (List.mem_append_left _ (by decide +kernel))) (hF 63 (List.mem_append_left _ (by decide +kernel))), hA.same (fun p hp => hF p (List.mem_append_right _ (List.mem_append_left _ hp))), ((hS _ (List.mem_of_getElem? (i := 3) rfl))).trans (hO.trans ((hS _ (List.mem_of_getElem? (i := 4) rfl))).symm), up_b1 H' H hB (hS _ (List.mem_of_getElem? (i := 5) rfl)) (hS _ (List.mem_of_getElem? (i := 6) rfl)) (fun q hq => hF q (List.mem_append_right _ (List.mem_append_right _ hq)))⟩, (g1.sm (List.mem_of_getElem? (i := 31) rfl) (by decide +kernel) rfl).tr (g2.sm (List.mem_of_getElem? (i := 32) rfl) (by decide +kernel) rfl), fun q kk => lc_14 h1 h2 h3 h4 b1 b2 hs g1 g2 kk⟩
theorem ls_15 {X : List Int32} {i x0 x1 x2 x3 x4 : Int32} {w : ex_W} (h1 : lw_x X (i + 1) x1) (h2 : lw_x X (i + 2) x2) (h3 : lw_x X (i + 3) x3) (h4 : lw_x X (i + 4) x4) (hw : bv_I w) (hs : x0 &&& 63 = 15) : ∃ wm, bv_I wm ∧ ex_sm w wm ∧ ∀ q, Go X 40 mt_0 (1238, [some (.retAddr 0), some (.ref 0), some (.ref 59), some (.int i)], []) wm q → Go X 40 mt_0 (32, [some (.retAddr 0), some (.ref 0), some (.ref 59), some (.int i)], [.int (x0 &&& 63)]) w q := by
  obtain ⟨⟨I, hI, ρ, H⟩, hP, hY, hA, hO, t, hB⟩ := hw
  rcases List.mem_cons.mp hI with rfl | hI
  · obtain ⟨v1, v2, wx, wm, gs, fs, ⟨z1, a1⟩, ⟨z2, a2⟩, b1, b2, g1, g2, hI2, hF, hS⟩ := pr_goL (pr_goQ (X := []) (vs := [.int x1]) rfl rfl (ai_cons kah_396 (ai_cons kah_400 ai_nil)) pc0_15 H ⟨⟨_, rfl⟩, trivial⟩) sy_0_4 H
    obtain ⟨ρ', H'⟩ := pr_one hI2
    obtain ⟨u1, rfl, -⟩ := ai_nzI a1
    obtain ⟨u2, rfl, -⟩ := ai_nzI a2
    exact ⟨wm, ⟨⟨(iv_0, iv_l0), List.mem_of_getElem? (i := 0) rfl, ρ', H'⟩, up_t0 H' hP (hS _ (List.mem_of_getElem? (i := 0) rfl)) (hF 15 (List.mem_append_left _ (by decide +kernel))) (hF 16 (List.mem_append_left _ (by decide +kernel))) (hF 66 (List.mem_append_left _ (by decide +kernel))), up_y0 H' hY (hS _ (List.mem_of_getElem? (i := 1) rfl)) (hS _ (List.mem_of_getElem? (i := 2) rfl)) (hF 33 (List.mem_append_left _ (by decide +kernel))) (hF 63 (List.mem_append_left _ (by decide +kernel))), hA.same (fun p hp => hF p (List.mem_append_right _ (List.mem_append_left _ hp))), ((hS _ (List.mem_of_getElem? (i := 3) rfl))).trans (hO.trans ((hS _ (List.mem_of_getElem? (i := 4) rfl))).symm), up_b0 H' H hB (hS _ (List.mem_of_getElem? (i := 5) rfl)) (hS _ (List.mem_of_getElem? (i := 6) rfl)) (fun q hq => hF q (List.mem_append_right _ (List.mem_append_right _ hq)))⟩, (g1.sm (List.mem_of_getElem? (i := 33) rfl) (by decide +kernel) rfl).tr (g2.sm (List.mem_of_getElem? (i := 34) rfl) (by decide +kernel) rfl), fun q kk => lc_15 h1 h2 h3 h4 b1 b2 hs g1 g2 kk⟩
  · obtain rfl := List.mem_singleton.mp hI
    obtain ⟨v1, v2, wx, wm, gs, fs, ⟨z1, a1⟩, ⟨z2, a2⟩, b1, b2, g1, g2, hI2, hF, hS⟩ := pr_goL (pr_goQ (X := []) (vs := [.int x1]) rfl rfl (ai_cons kbh_275 (ai_cons kah_400 ai_nil)) pc1_15 H ⟨⟨_, rfl⟩, trivial⟩) sy_1_5 H
    obtain ⟨ρ', H'⟩ := pr_one hI2
    obtain ⟨u1, rfl, -⟩ := ai_nzI a1
    obtain ⟨u2, rfl, -⟩ := ai_nzI a2
    exact ⟨wm, ⟨⟨(iv_1, iv_l1), List.mem_of_getElem? (i := 1) rfl, ρ', H'⟩, up_t1 H' hP (hS _ (List.mem_of_getElem? (i := 0) rfl)) (hF 15 (List.mem_append_left _ (by decide +kernel))) (hF 16 (List.mem_append_left _ (by decide +kernel))) (hF 66 (List.mem_append_left _ (by decide +kernel))), up_y1 H' hY (hS _ (List.mem_of_getElem? (i := 1) rfl)) (hS _ (List.mem_of_getElem? (i := 2) rfl)) (hF 33 (List.mem_append_left _ (by decide +kernel))) (hF 63 (List.mem_append_left _ (by decide +kernel))), hA.same (fun p hp => hF p (List.mem_append_right _ (List.mem_append_left _ hp))), ((hS _ (List.mem_of_getElem? (i := 3) rfl))).trans (hO.trans ((hS _ (List.mem_of_getElem? (i := 4) rfl))).symm), up_b1 H' H hB (hS _ (List.mem_of_getElem? (i := 5) rfl)) (hS _ (List.mem_of_getElem? (i := 6) rfl)) (fun q hq => hF q (List.mem_append_right _ (List.mem_append_right _ hq)))⟩, (g1.sm (List.mem_of_getElem? (i := 33) rfl) (by decide +kernel) rfl).tr (g2.sm (List.mem_of_getElem? (i := 34) rfl) (by decide +kernel) rfl), fun q kk => lc_15 h1 h2 h3 h4 b1 b2 hs g1 g2 kk⟩
theorem ls_16 {X : List Int32} {i x0 x1 x2 x3 x4 : Int32} {w : ex_W} (h1 : lw_x X (i + 1) x1) (h2 : lw_x X (i + 2) x2) (h3 : lw_x X (i + 3) x3) (h4 : lw_x X (i + 4) x4) (hw : bv_I w) (hs : x0 &&& 63 = 16) : ∃ wm, bv_I wm ∧ ex_sm w wm ∧ ∀ q, Go X 40 mt_0 (1238, [some (.retAddr 0), some (.ref 0), some (.ref 59), some (.int i)], []) wm q → Go X 40 mt_0 (32, [some (.retAddr 0), some (.ref 0), some (.ref 59), some (.int i)], [.int (x0 &&& 63)]) w q := by
  obtain ⟨⟨I, hI, ρ, H⟩, hP, hY, hA, hO, t, hB⟩ := hw
  rcases List.mem_cons.mp hI with rfl | hI
  · obtain ⟨v1, v2, wx, wm, gs, fs, ⟨z1, a1⟩, ⟨z2, a2⟩, b1, b2, g1, g2, hI2, hF, hS⟩ := pr_goL (pr_goQ (X := []) (vs := [.int x1]) rfl rfl (ai_cons kah_403 (ai_cons kah_404 ai_nil)) pc0_16 H ⟨⟨_, rfl⟩, trivial⟩) sy_0_6 H
    obtain ⟨ρ', H'⟩ := pr_one hI2
    obtain ⟨r, r', wx', wm', k1, k2, kB⟩ := h16_0 (x := x1) H hB
    cases Go.det g1 k1
    cases Go.det g2 k2
    exact ⟨wm, ⟨⟨(iv_0, iv_l0), List.mem_of_getElem? (i := 0) rfl, ρ', H'⟩, up_t0 H' hP (hS _ (List.mem_of_getElem? (i := 0) rfl)) (hF 15 (List.mem_append_left _ (by decide +kernel))) (hF 16 (List.mem_append_left _ (by decide +kernel))) (hF 66 (List.mem_append_left _ (by decide +kernel))), up_y0 H' hY (hS _ (List.mem_of_getElem? (i := 1) rfl)) (hS _ (List.mem_of_getElem? (i := 2) rfl)) (hF 33 (List.mem_append_left _ (by decide +kernel))) (hF 63 (List.mem_append_left _ (by decide +kernel))), hA.same (fun p hp => hF p (List.mem_append_right _ (List.mem_append_left _ hp))), ((hS _ (List.mem_of_getElem? (i := 3) rfl))).trans (hO.trans ((hS _ (List.mem_of_getElem? (i := 4) rfl))).symm), kB⟩, (g1.sm (List.mem_of_getElem? (i := 35) rfl) (by decide +kernel) rfl).tr (g2.sm (List.mem_of_getElem? (i := 36) rfl) (by decide +kernel) rfl), fun q kk => lc_16 h1 h2 h3 h4 b1 b2 hs g1 g2 kk⟩
  · obtain rfl := List.mem_singleton.mp hI
    obtain ⟨v1, v2, wx, wm, gs, fs, ⟨z1, a1⟩, ⟨z2, a2⟩, b1, b2, g1, g2, hI2, hF, hS⟩ := pr_goL (pr_goQ (X := []) (vs := [.int x1]) rfl rfl (ai_cons kbh_278 (ai_cons kah_404 ai_nil)) pc1_16 H ⟨⟨_, rfl⟩, trivial⟩) sy_1_7 H
    obtain ⟨ρ', H'⟩ := pr_one hI2
    obtain ⟨r, r', wx', wm', k1, k2, kB⟩ := h16_1 (x := x1) H hB
    cases Go.det g1 k1
    cases Go.det g2 k2
    exact ⟨wm, ⟨⟨(iv_1, iv_l1), List.mem_of_getElem? (i := 1) rfl, ρ', H'⟩, up_t1 H' hP (hS _ (List.mem_of_getElem? (i := 0) rfl)) (hF 15 (List.mem_append_left _ (by decide +kernel))) (hF 16 (List.mem_append_left _ (by decide +kernel))) (hF 66 (List.mem_append_left _ (by decide +kernel))), up_y1 H' hY (hS _ (List.mem_of_getElem? (i := 1) rfl)) (hS _ (List.mem_of_getElem? (i := 2) rfl)) (hF 33 (List.mem_append_left _ (by decide +kernel))) (hF 63 (List.mem_append_left _ (by decide +kernel))), hA.same (fun p hp => hF p (List.mem_append_right _ (List.mem_append_left _ hp))), ((hS _ (List.mem_of_getElem? (i := 3) rfl))).trans (hO.trans ((hS _ (List.mem_of_getElem? (i := 4) rfl))).symm), kB⟩, (g1.sm (List.mem_of_getElem? (i := 35) rfl) (by decide +kernel) rfl).tr (g2.sm (List.mem_of_getElem? (i := 36) rfl) (by decide +kernel) rfl), fun q kk => lc_16 h1 h2 h3 h4 b1 b2 hs g1 g2 kk⟩
theorem ls_17 {X : List Int32} {i x0 x1 x2 x3 x4 : Int32} {w : ex_W} (h1 : lw_x X (i + 1) x1) (h2 : lw_x X (i + 2) x2) (h3 : lw_x X (i + 3) x3) (h4 : lw_x X (i + 4) x4) (hw : bv_I w) (hs : x0 &&& 63 = 17) : ∃ wm, bv_I wm ∧ ex_sm w wm ∧ ∀ q, Go X 40 mt_0 (1238, [some (.retAddr 0), some (.ref 0), some (.ref 59), some (.int i)], []) wm q → Go X 40 mt_0 (32, [some (.retAddr 0), some (.ref 0), some (.ref 59), some (.int i)], [.int (x0 &&& 63)]) w q := by
  obtain ⟨⟨I, hI, ρ, H⟩, hP, hY, hA, hO, t, hB⟩ := hw
  rcases List.mem_cons.mp hI with rfl | hI
  · obtain ⟨v1, v2, wx, wm, gs, fs, ⟨z1, a1⟩, ⟨z2, a2⟩, b1, b2, g1, g2, hI2, hF, hS⟩ := pr_goL (pr_goQ (X := []) (vs := []) rfl rfl (ai_cons kah_406 (ai_cons kah_415 ai_nil)) pc0_17 H trivial) sy_0_4 H
    obtain ⟨ρ', H'⟩ := pr_one hI2
    obtain ⟨u1, rfl, -⟩ := ai_nzI a1
    obtain ⟨u2, rfl, -⟩ := ai_nzI a2
    exact ⟨wm, ⟨⟨(iv_0, iv_l0), List.mem_of_getElem? (i := 0) rfl, ρ', H'⟩, up_t0 H' hP (hS _ (List.mem_of_getElem? (i := 0) rfl)) (hF 15 (List.mem_append_left _ (by decide +kernel))) (hF 16 (List.mem_append_left _ (by decide +kernel))) (hF 66 (List.mem_append_left _ (by decide +kernel))), up_y0 H' hY (hS _ (List.mem_of_getElem? (i := 1) rfl)) (hS _ (List.mem_of_getElem? (i := 2) rfl)) (hF 33 (List.mem_append_left _ (by decide +kernel))) (hF 63 (List.mem_append_left _ (by decide +kernel))), hA.same (fun p hp => hF p (List.mem_append_right _ (List.mem_append_left _ hp))), ((hS _ (List.mem_of_getElem? (i := 3) rfl))).trans (hO.trans ((hS _ (List.mem_of_getElem? (i := 4) rfl))).symm), up_b0 H' H hB (hS _ (List.mem_of_getElem? (i := 5) rfl)) (hS _ (List.mem_of_getElem? (i := 6) rfl)) (fun q hq => hF q (List.mem_append_right _ (List.mem_append_right _ hq)))⟩, (g1.sm (List.mem_of_getElem? (i := 37) rfl) (by decide +kernel) rfl).tr (g2.sm (List.mem_of_getElem? (i := 38) rfl) (by decide +kernel) rfl), fun q kk => lc_17 h1 h2 h3 h4 b1 b2 hs g1 g2 kk⟩
  · obtain rfl := List.mem_singleton.mp hI
    obtain ⟨v1, v2, wx, wm, gs, fs, ⟨z1, a1⟩, ⟨z2, a2⟩, b1, b2, g1, g2, hI2, hF, hS⟩ := pr_goL (pr_goQ (X := []) (vs := []) rfl rfl (ai_cons kbh_280 (ai_cons kah_415 ai_nil)) pc1_17 H trivial) sy_1_5 H
    obtain ⟨ρ', H'⟩ := pr_one hI2
    obtain ⟨u1, rfl, -⟩ := ai_nzI a1
    obtain ⟨u2, rfl, -⟩ := ai_nzI a2
    exact ⟨wm, ⟨⟨(iv_1, iv_l1), List.mem_of_getElem? (i := 1) rfl, ρ', H'⟩, up_t1 H' hP (hS _ (List.mem_of_getElem? (i := 0) rfl)) (hF 15 (List.mem_append_left _ (by decide +kernel))) (hF 16 (List.mem_append_left _ (by decide +kernel))) (hF 66 (List.mem_append_left _ (by decide +kernel))), up_y1 H' hY (hS _ (List.mem_of_getElem? (i := 1) rfl)) (hS _ (List.mem_of_getElem? (i := 2) rfl)) (hF 33 (List.mem_append_left _ (by decide +kernel))) (hF 63 (List.mem_append_left _ (by decide +kernel))), hA.same (fun p hp => hF p (List.mem_append_right _ (List.mem_append_left _ hp))), ((hS _ (List.mem_of_getElem? (i := 3) rfl))).trans (hO.trans ((hS _ (List.mem_of_getElem? (i := 4) rfl))).symm), up_b1 H' H hB (hS _ (List.mem_of_getElem? (i := 5) rfl)) (hS _ (List.mem_of_getElem? (i := 6) rfl)) (fun q hq => hF q (List.mem_append_right _ (List.mem_append_right _ hq)))⟩, (g1.sm (List.mem_of_getElem? (i := 37) rfl) (by decide +kernel) rfl).tr (g2.sm (List.mem_of_getElem? (i := 38) rfl) (by decide +kernel) rfl), fun q kk => lc_17 h1 h2 h3 h4 b1 b2 hs g1 g2 kk⟩
theorem ls_18 {X : List Int32} {i x0 x1 x2 x3 x4 : Int32} {w : ex_W} (h1 : lw_x X (i + 1) x1) (h2 : lw_x X (i + 2) x2) (h3 : lw_x X (i + 3) x3) (h4 : lw_x X (i + 4) x4) (hw : bv_I w) (hs : x0 &&& 63 = 18) : ∃ wm, bv_I wm ∧ ex_sm w wm ∧ ∀ q, Go X 40 mt_0 (1238, [some (.retAddr 0), some (.ref 0), some (.ref 59), some (.int i)], []) wm q → Go X 40 mt_0 (32, [some (.retAddr 0), some (.ref 0), some (.ref 59), some (.int i)], [.int (x0 &&& 63)]) w q := by
  obtain ⟨⟨I, hI, ρ, H⟩, hP, hY, hA, hO, t, hB⟩ := hw
  rcases List.mem_cons.mp hI with rfl | hI
  · obtain ⟨v1, v2, wx, wm, gs, fs, ⟨z1, a1⟩, ⟨z2, a2⟩, b1, b2, g1, g2, hI2, hF, hS⟩ := pr_goL (pr_goQ (X := []) (vs := [.int x1]) rfl rfl (ai_cons kah_416 (ai_cons kah_417 ai_nil)) pc0_18 H ⟨⟨_, rfl⟩, trivial⟩) sy_0_8 H
    obtain ⟨ρ', H'⟩ := pr_one hI2
    obtain ⟨r, wx', wm', k1, k2, kY⟩ := h18_0 (x := x1) H hY hB
    cases Go.det g1 k1
    cases Go.det g2 k2
    exact ⟨wm, ⟨⟨(iv_0, iv_l0), List.mem_of_getElem? (i := 0) rfl, ρ', H'⟩, up_t0 H' hP (hS _ (List.mem_of_getElem? (i := 0) rfl)) (hF 15 (List.mem_append_left _ (by decide +kernel))) (hF 16 (List.mem_append_left _ (by decide +kernel))) (hF 66 (List.mem_append_left _ (by decide +kernel))), kY, hA.same (fun p hp => hF p (List.mem_append_right _ (List.mem_append_left _ hp))), ((hS _ (List.mem_of_getElem? (i := 1) rfl))).trans (hO.trans ((hS _ (List.mem_of_getElem? (i := 2) rfl))).symm), up_b0 H' H hB (hS _ (List.mem_of_getElem? (i := 3) rfl)) (hS _ (List.mem_of_getElem? (i := 4) rfl)) (fun q hq => hF q (List.mem_append_right _ (List.mem_append_right _ hq)))⟩, (g1.sm (List.mem_of_getElem? (i := 39) rfl) (by decide +kernel) rfl).tr (g2.sm (List.mem_of_getElem? (i := 40) rfl) (by decide +kernel) rfl), fun q kk => lc_18 h1 h2 h3 h4 b1 b2 hs g1 g2 kk⟩
  · obtain rfl := List.mem_singleton.mp hI
    obtain ⟨v1, v2, wx, wm, gs, fs, ⟨z1, a1⟩, ⟨z2, a2⟩, b1, b2, g1, g2, hI2, hF, hS⟩ := pr_goL (pr_goQ (X := []) (vs := [.int x1]) rfl rfl (ai_cons kbh_281 (ai_cons kah_417 ai_nil)) pc1_18 H ⟨⟨_, rfl⟩, trivial⟩) sy_1_9 H
    obtain ⟨ρ', H'⟩ := pr_one hI2
    obtain ⟨r, wx', wm', k1, k2, kY⟩ := h18_1 (x := x1) H hY hB
    cases Go.det g1 k1
    cases Go.det g2 k2
    exact ⟨wm, ⟨⟨(iv_1, iv_l1), List.mem_of_getElem? (i := 1) rfl, ρ', H'⟩, up_t1 H' hP (hS _ (List.mem_of_getElem? (i := 0) rfl)) (hF 15 (List.mem_append_left _ (by decide +kernel))) (hF 16 (List.mem_append_left _ (by decide +kernel))) (hF 66 (List.mem_append_left _ (by decide +kernel))), kY, hA.same (fun p hp => hF p (List.mem_append_right _ (List.mem_append_left _ hp))), ((hS _ (List.mem_of_getElem? (i := 1) rfl))).trans (hO.trans ((hS _ (List.mem_of_getElem? (i := 2) rfl))).symm), up_b1 H' H hB (hS _ (List.mem_of_getElem? (i := 3) rfl)) (hS _ (List.mem_of_getElem? (i := 4) rfl)) (fun q hq => hF q (List.mem_append_right _ (List.mem_append_right _ hq)))⟩, (g1.sm (List.mem_of_getElem? (i := 39) rfl) (by decide +kernel) rfl).tr (g2.sm (List.mem_of_getElem? (i := 40) rfl) (by decide +kernel) rfl), fun q kk => lc_18 h1 h2 h3 h4 b1 b2 hs g1 g2 kk⟩
theorem ls_19 {X : List Int32} {i x0 x1 x2 x3 x4 : Int32} {w : ex_W} (h1 : lw_x X (i + 1) x1) (h2 : lw_x X (i + 2) x2) (h3 : lw_x X (i + 3) x3) (h4 : lw_x X (i + 4) x4) (hw : bv_I w) (hs : x0 &&& 63 = 19) : ∃ wm, bv_I wm ∧ ex_sm w wm ∧ ∀ q, Go X 40 mt_0 (1238, [some (.retAddr 0), some (.ref 0), some (.ref 59), some (.int i)], []) wm q → Go X 40 mt_0 (32, [some (.retAddr 0), some (.ref 0), some (.ref 59), some (.int i)], [.int (x0 &&& 63)]) w q := by
  obtain ⟨⟨I, hI, ρ, H⟩, hP, hY, hA, hO, t, hB⟩ := hw
  rcases List.mem_cons.mp hI with rfl | hI
  · obtain ⟨v1, v2, wx, wm, gs, fs, ⟨z1, a1⟩, ⟨z2, a2⟩, b1, b2, g1, g2, hI2, hF, hS⟩ := pr_goL (pr_goQ (X := []) (vs := [.int x1]) rfl rfl (ai_cons kah_418 (ai_cons kah_420 ai_nil)) pc0_19 H ⟨⟨_, rfl⟩, trivial⟩) sy_0_8 H
    obtain ⟨ρ', H'⟩ := pr_one hI2
    obtain ⟨r, wx', wm', k1, k2, kY⟩ := h19_0 (x := x1) hY
    cases Go.det g1 k1
    cases Go.det g2 k2
    exact ⟨wm, ⟨⟨(iv_0, iv_l0), List.mem_of_getElem? (i := 0) rfl, ρ', H'⟩, up_t0 H' hP (hS _ (List.mem_of_getElem? (i := 0) rfl)) (hF 15 (List.mem_append_left _ (by decide +kernel))) (hF 16 (List.mem_append_left _ (by decide +kernel))) (hF 66 (List.mem_append_left _ (by decide +kernel))), kY, hA.same (fun p hp => hF p (List.mem_append_right _ (List.mem_append_left _ hp))), ((hS _ (List.mem_of_getElem? (i := 1) rfl))).trans (hO.trans ((hS _ (List.mem_of_getElem? (i := 2) rfl))).symm), up_b0 H' H hB (hS _ (List.mem_of_getElem? (i := 3) rfl)) (hS _ (List.mem_of_getElem? (i := 4) rfl)) (fun q hq => hF q (List.mem_append_right _ (List.mem_append_right _ hq)))⟩, (g1.sm (List.mem_of_getElem? (i := 41) rfl) (by decide +kernel) rfl).tr (g2.sm (List.mem_of_getElem? (i := 42) rfl) (by decide +kernel) rfl), fun q kk => lc_19 h1 h2 h3 h4 b1 b2 hs g1 g2 kk⟩
  · obtain rfl := List.mem_singleton.mp hI
    obtain ⟨v1, v2, wx, wm, gs, fs, ⟨z1, a1⟩, ⟨z2, a2⟩, b1, b2, g1, g2, hI2, hF, hS⟩ := pr_goL (pr_goQ (X := []) (vs := [.int x1]) rfl rfl (ai_cons kbh_282 (ai_cons kah_420 ai_nil)) pc1_19 H ⟨⟨_, rfl⟩, trivial⟩) sy_1_9 H
    obtain ⟨ρ', H'⟩ := pr_one hI2
    obtain ⟨r, wx', wm', k1, k2, kY⟩ := h19_1 (x := x1) hY
    cases Go.det g1 k1
    cases Go.det g2 k2
    exact ⟨wm, ⟨⟨(iv_1, iv_l1), List.mem_of_getElem? (i := 1) rfl, ρ', H'⟩, up_t1 H' hP (hS _ (List.mem_of_getElem? (i := 0) rfl)) (hF 15 (List.mem_append_left _ (by decide +kernel))) (hF 16 (List.mem_append_left _ (by decide +kernel))) (hF 66 (List.mem_append_left _ (by decide +kernel))), kY, hA.same (fun p hp => hF p (List.mem_append_right _ (List.mem_append_left _ hp))), ((hS _ (List.mem_of_getElem? (i := 1) rfl))).trans (hO.trans ((hS _ (List.mem_of_getElem? (i := 2) rfl))).symm), up_b1 H' H hB (hS _ (List.mem_of_getElem? (i := 3) rfl)) (hS _ (List.mem_of_getElem? (i := 4) rfl)) (fun q hq => hF q (List.mem_append_right _ (List.mem_append_right _ hq)))⟩, (g1.sm (List.mem_of_getElem? (i := 41) rfl) (by decide +kernel) rfl).tr (g2.sm (List.mem_of_getElem? (i := 42) rfl) (by decide +kernel) rfl), fun q kk => lc_19 h1 h2 h3 h4 b1 b2 hs g1 g2 kk⟩
theorem ls_20 {X : List Int32} {i x0 x1 x2 x3 x4 : Int32} {w : ex_W} (h1 : lw_x X (i + 1) x1) (h2 : lw_x X (i + 2) x2) (h3 : lw_x X (i + 3) x3) (h4 : lw_x X (i + 4) x4) (hw : bv_I w) (hs : x0 &&& 63 = 20) : ∃ wm, bv_I wm ∧ ex_sm w wm ∧ ∀ q, Go X 40 mt_0 (1238, [some (.retAddr 0), some (.ref 0), some (.ref 59), some (.int i)], []) wm q → Go X 40 mt_0 (32, [some (.retAddr 0), some (.ref 0), some (.ref 59), some (.int i)], [.int (x0 &&& 63)]) w q := by
  obtain ⟨⟨I, hI, ρ, H⟩, hP, hY, hA, hO, t, hB⟩ := hw
  rcases List.mem_cons.mp hI with rfl | hI
  · obtain ⟨v1, v2, wx, wm, gs, fs, ⟨z1, a1⟩, ⟨z2, a2⟩, b1, b2, g1, g2, hI2, hF, hS⟩ := pr_goL (pr_goQ (X := []) (vs := [.int x1]) rfl rfl (ai_cons kah_421 (ai_cons kah_425 ai_nil)) pc0_20 H ⟨⟨_, rfl⟩, trivial⟩) sy_0_4 H
    obtain ⟨ρ', H'⟩ := pr_one hI2
    obtain ⟨u1, rfl, -⟩ := ai_nzI a1
    obtain ⟨u2, rfl, -⟩ := ai_nzI a2
    exact ⟨wm, ⟨⟨(iv_0, iv_l0), List.mem_of_getElem? (i := 0) rfl, ρ', H'⟩, up_t0 H' hP (hS _ (List.mem_of_getElem? (i := 0) rfl)) (hF 15 (List.mem_append_left _ (by decide +kernel))) (hF 16 (List.mem_append_left _ (by decide +kernel))) (hF 66 (List.mem_append_left _ (by decide +kernel))), up_y0 H' hY (hS _ (List.mem_of_getElem? (i := 1) rfl)) (hS _ (List.mem_of_getElem? (i := 2) rfl)) (hF 33 (List.mem_append_left _ (by decide +kernel))) (hF 63 (List.mem_append_left _ (by decide +kernel))), hA.same (fun p hp => hF p (List.mem_append_right _ (List.mem_append_left _ hp))), ((hS _ (List.mem_of_getElem? (i := 3) rfl))).trans (hO.trans ((hS _ (List.mem_of_getElem? (i := 4) rfl))).symm), up_b0 H' H hB (hS _ (List.mem_of_getElem? (i := 5) rfl)) (hS _ (List.mem_of_getElem? (i := 6) rfl)) (fun q hq => hF q (List.mem_append_right _ (List.mem_append_right _ hq)))⟩, (g1.sm (List.mem_of_getElem? (i := 43) rfl) (by decide +kernel) rfl).tr (g2.sm (List.mem_of_getElem? (i := 44) rfl) (by decide +kernel) rfl), fun q kk => lc_20 h1 h2 h3 h4 b1 b2 hs g1 g2 kk⟩
  · obtain rfl := List.mem_singleton.mp hI
    obtain ⟨v1, v2, wx, wm, gs, fs, ⟨z1, a1⟩, ⟨z2, a2⟩, b1, b2, g1, g2, hI2, hF, hS⟩ := pr_goL (pr_goQ (X := []) (vs := [.int x1]) rfl rfl (ai_cons kbh_283 (ai_cons kah_425 ai_nil)) pc1_20 H ⟨⟨_, rfl⟩, trivial⟩) sy_1_5 H
    obtain ⟨ρ', H'⟩ := pr_one hI2
    obtain ⟨u1, rfl, -⟩ := ai_nzI a1
    obtain ⟨u2, rfl, -⟩ := ai_nzI a2
    exact ⟨wm, ⟨⟨(iv_1, iv_l1), List.mem_of_getElem? (i := 1) rfl, ρ', H'⟩, up_t1 H' hP (hS _ (List.mem_of_getElem? (i := 0) rfl)) (hF 15 (List.mem_append_left _ (by decide +kernel))) (hF 16 (List.mem_append_left _ (by decide +kernel))) (hF 66 (List.mem_append_left _ (by decide +kernel))), up_y1 H' hY (hS _ (List.mem_of_getElem? (i := 1) rfl)) (hS _ (List.mem_of_getElem? (i := 2) rfl)) (hF 33 (List.mem_append_left _ (by decide +kernel))) (hF 63 (List.mem_append_left _ (by decide +kernel))), hA.same (fun p hp => hF p (List.mem_append_right _ (List.mem_append_left _ hp))), ((hS _ (List.mem_of_getElem? (i := 3) rfl))).trans (hO.trans ((hS _ (List.mem_of_getElem? (i := 4) rfl))).symm), up_b1 H' H hB (hS _ (List.mem_of_getElem? (i := 5) rfl)) (hS _ (List.mem_of_getElem? (i := 6) rfl)) (fun q hq => hF q (List.mem_append_right _ (List.mem_append_right _ hq)))⟩, (g1.sm (List.mem_of_getElem? (i := 43) rfl) (by decide +kernel) rfl).tr (g2.sm (List.mem_of_getElem? (i := 44) rfl) (by decide +kernel) rfl), fun q kk => lc_20 h1 h2 h3 h4 b1 b2 hs g1 g2 kk⟩
theorem ls_21 {X : List Int32} {i x0 x1 x2 x3 x4 : Int32} {w : ex_W} (h1 : lw_x X (i + 1) x1) (h2 : lw_x X (i + 2) x2) (h3 : lw_x X (i + 3) x3) (h4 : lw_x X (i + 4) x4) (hw : bv_I w) (hs : x0 &&& 63 = 21) : ∃ wm, bv_I wm ∧ ex_sm w wm ∧ ∀ q, Go X 40 mt_0 (1238, [some (.retAddr 0), some (.ref 0), some (.ref 59), some (.int i)], []) wm q → Go X 40 mt_0 (32, [some (.retAddr 0), some (.ref 0), some (.ref 59), some (.int i)], [.int (x0 &&& 63)]) w q := by
  obtain ⟨⟨I, hI, ρ, H⟩, hP, hY, hA, hO, t, hB⟩ := hw
  rcases List.mem_cons.mp hI with rfl | hI
  · obtain ⟨v1, v2, wx, wm, gs, fs, ⟨z1, a1⟩, ⟨z2, a2⟩, b1, b2, g1, g2, hI2, hF, hS⟩ := pr_goL (pr_goQ (X := []) (vs := [.int x1]) rfl rfl (ai_cons kah_427 (ai_cons kah_428 ai_nil)) pc0_21 H ⟨⟨_, rfl⟩, trivial⟩) sy_0_6 H
    obtain ⟨ρ', H'⟩ := pr_one hI2
    obtain ⟨r, wx', wm', k1, k2, kB⟩ := h21_0 (x := x1) hB
    cases Go.det g1 k1
    cases Go.det g2 k2
    exact ⟨wm, ⟨⟨(iv_0, iv_l0), List.mem_of_getElem? (i := 0) rfl, ρ', H'⟩, up_t0 H' hP (hS _ (List.mem_of_getElem? (i := 0) rfl)) (hF 15 (List.mem_append_left _ (by decide +kernel))) (hF 16 (List.mem_append_left _ (by decide +kernel))) (hF 66 (List.mem_append_left _ (by decide +kernel))), up_y0 H' hY (hS _ (List.mem_of_getElem? (i := 1) rfl)) (hS _ (List.mem_of_getElem? (i := 2) rfl)) (hF 33 (List.mem_append_left _ (by decide +kernel))) (hF 63 (List.mem_append_left _ (by decide +kernel))), hA.same (fun p hp => hF p (List.mem_append_right _ (List.mem_append_left _ hp))), ((hS _ (List.mem_of_getElem? (i := 3) rfl))).trans (hO.trans ((hS _ (List.mem_of_getElem? (i := 4) rfl))).symm), kB⟩, (g1.sm (List.mem_of_getElem? (i := 45) rfl) (by decide +kernel) rfl).tr (g2.sm (List.mem_of_getElem? (i := 46) rfl) (by decide +kernel) rfl), fun q kk => lc_21 h1 h2 h3 h4 b1 b2 hs g1 g2 kk⟩
  · obtain rfl := List.mem_singleton.mp hI
    obtain ⟨v1, v2, wx, wm, gs, fs, ⟨z1, a1⟩, ⟨z2, a2⟩, b1, b2, g1, g2, hI2, hF, hS⟩ := pr_goL (pr_goQ (X := []) (vs := [.int x1]) rfl rfl (ai_cons kbh_285 (ai_cons kah_428 ai_nil)) pc1_21 H ⟨⟨_, rfl⟩, trivial⟩) sy_1_7 H
    obtain ⟨ρ', H'⟩ := pr_one hI2
    obtain ⟨r, wx', wm', k1, k2, kB⟩ := h21_1 (x := x1) hB
    cases Go.det g1 k1
    cases Go.det g2 k2
    exact ⟨wm, ⟨⟨(iv_1, iv_l1), List.mem_of_getElem? (i := 1) rfl, ρ', H'⟩, up_t1 H' hP (hS _ (List.mem_of_getElem? (i := 0) rfl)) (hF 15 (List.mem_append_left _ (by decide +kernel))) (hF 16 (List.mem_append_left _ (by decide +kernel))) (hF 66 (List.mem_append_left _ (by decide +kernel))), up_y1 H' hY (hS _ (List.mem_of_getElem? (i := 1) rfl)) (hS _ (List.mem_of_getElem? (i := 2) rfl)) (hF 33 (List.mem_append_left _ (by decide +kernel))) (hF 63 (List.mem_append_left _ (by decide +kernel))), hA.same (fun p hp => hF p (List.mem_append_right _ (List.mem_append_left _ hp))), ((hS _ (List.mem_of_getElem? (i := 3) rfl))).trans (hO.trans ((hS _ (List.mem_of_getElem? (i := 4) rfl))).symm), kB⟩, (g1.sm (List.mem_of_getElem? (i := 45) rfl) (by decide +kernel) rfl).tr (g2.sm (List.mem_of_getElem? (i := 46) rfl) (by decide +kernel) rfl), fun q kk => lc_21 h1 h2 h3 h4 b1 b2 hs g1 g2 kk⟩
theorem ls_22 {X : List Int32} {i x0 x1 x2 x3 x4 : Int32} {w : ex_W} (h1 : lw_x X (i + 1) x1) (h2 : lw_x X (i + 2) x2) (h3 : lw_x X (i + 3) x3) (h4 : lw_x X (i + 4) x4) (hw : bv_I w) (hs : x0 &&& 63 = 22) : ∃ wm, bv_I wm ∧ ex_sm w wm ∧ ∀ q, Go X 40 mt_0 (1238, [some (.retAddr 0), some (.ref 0), some (.ref 59), some (.int i)], []) wm q → Go X 40 mt_0 (32, [some (.retAddr 0), some (.ref 0), some (.ref 59), some (.int i)], [.int (x0 &&& 63)]) w q := by
  obtain ⟨⟨I, hI, ρ, H⟩, hP, hY, hA, hO, t, hB⟩ := hw
  rcases List.mem_cons.mp hI with rfl | hI
  · obtain ⟨v1, v2, wx, wm, gs, fs, ⟨z1, a1⟩, ⟨z2, a2⟩, b1, b2, g1, g2, hI2, hF, hS⟩ := pr_goL (pr_goQ (X := []) (vs := [.int x1]) rfl rfl (ai_cons kah_429 (ai_cons kah_431 ai_nil)) pc0_22 H ⟨⟨_, rfl⟩, trivial⟩) sy_0_6 H
    obtain ⟨ρ', H'⟩ := pr_one hI2
    obtain ⟨r, wx', wm', k1, k2, kB⟩ := h22_0 (x := x1) hB
    cases Go.det g1 k1
    cases Go.det g2 k2
    exact ⟨wm, ⟨⟨(iv_0, iv_l0), List.mem_of_getElem? (i := 0) rfl, ρ', H'⟩, up_t0 H' hP (hS _ (List.mem_of_getElem? (i := 0) rfl)) (hF 15 (List.mem_append_left _ (by decide +kernel))) (hF 16 (List.mem_append_left _ (by decide +kernel))) (hF 66 (List.mem_append_left _ (by decide +kernel))), up_y0 H' hY (hS _ (List.mem_of_getElem? (i := 1) rfl)) (hS _ (List.mem_of_getElem? (i := 2) rfl)) (hF 33 (List.mem_append_left _ (by decide +kernel))) (hF 63 (List.mem_append_left _ (by decide +kernel))), hA.same (fun p hp => hF p (List.mem_append_right _ (List.mem_append_left _ hp))), ((hS _ (List.mem_of_getElem? (i := 3) rfl))).trans (hO.trans ((hS _ (List.mem_of_getElem? (i := 4) rfl))).symm), kB⟩, (g1.sm (List.mem_of_getElem? (i := 47) rfl) (by decide +kernel) rfl).tr (g2.sm (List.mem_of_getElem? (i := 48) rfl) (by decide +kernel) rfl), fun q kk => lc_22 h1 h2 h3 h4 b1 b2 hs g1 g2 kk⟩
  · obtain rfl := List.mem_singleton.mp hI
    obtain ⟨v1, v2, wx, wm, gs, fs, ⟨z1, a1⟩, ⟨z2, a2⟩, b1, b2, g1, g2, hI2, hF, hS⟩ := pr_goL (pr_goQ (X := []) (vs := [.int x1]) rfl rfl (ai_cons kbh_286 (ai_cons kah_431 ai_nil)) pc1_22 H ⟨⟨_, rfl⟩, trivial⟩) sy_1_7 H
    obtain ⟨ρ', H'⟩ := pr_one hI2
    obtain ⟨r, wx', wm', k1, k2, kB⟩ := h22_1 (x := x1) hB
    cases Go.det g1 k1
    cases Go.det g2 k2
    exact ⟨wm, ⟨⟨(iv_1, iv_l1), List.mem_of_getElem? (i := 1) rfl, ρ', H'⟩, up_t1 H' hP (hS _ (List.mem_of_getElem? (i := 0) rfl)) (hF 15 (List.mem_append_left _ (by decide +kernel))) (hF 16 (List.mem_append_left _ (by decide +kernel))) (hF 66 (List.mem_append_left _ (by decide +kernel))), up_y1 H' hY (hS _ (List.mem_of_getElem? (i := 1) rfl)) (hS _ (List.mem_of_getElem? (i := 2) rfl)) (hF 33 (List.mem_append_left _ (by decide +kernel))) (hF 63 (List.mem_append_left _ (by decide +kernel))), hA.same (fun p hp => hF p (List.mem_append_right _ (List.mem_append_left _ hp))), ((hS _ (List.mem_of_getElem? (i := 3) rfl))).trans (hO.trans ((hS _ (List.mem_of_getElem? (i := 4) rfl))).symm), kB⟩, (g1.sm (List.mem_of_getElem? (i := 47) rfl) (by decide +kernel) rfl).tr (g2.sm (List.mem_of_getElem? (i := 48) rfl) (by decide +kernel) rfl), fun q kk => lc_22 h1 h2 h3 h4 b1 b2 hs g1 g2 kk⟩
theorem ls_23 {X : List Int32} {i x0 x1 x2 x3 x4 : Int32} {w : ex_W} (h1 : lw_x X (i + 1) x1) (h2 : lw_x X (i + 2) x2) (h3 : lw_x X (i + 3) x3) (h4 : lw_x X (i + 4) x4) (hw : bv_I w) (hs : x0 &&& 63 = 23) : ∃ wm, bv_I wm ∧ ex_sm w wm ∧ ∀ q, Go X 40 mt_0 (1238, [some (.retAddr 0), some (.ref 0), some (.ref 59), some (.int i)], []) wm q → Go X 40 mt_0 (32, [some (.retAddr 0), some (.ref 0), some (.ref 59), some (.int i)], [.int (x0 &&& 63)]) w q := by
  obtain ⟨⟨I, hI, ρ, H⟩, hP, hY, hA, hO, t, hB⟩ := hw
  rcases List.mem_cons.mp hI with rfl | hI
  · obtain ⟨v1, v2, wx, wm, gs, fs, ⟨z1, a1⟩, ⟨z2, a2⟩, b1, b2, g1, g2, hI2, hF, hS⟩ := pr_goL (pr_goQ (X := []) (vs := [.int x1]) rfl rfl (ai_cons kah_452 (ai_cons kah_461 ai_nil)) pc0_23 H ⟨⟨_, rfl⟩, trivial⟩) sy_0_4 H
    obtain ⟨ρ', H'⟩ := pr_one hI2
    obtain ⟨r, wx', wm', k1, k2⟩ := h23_0 (x := x1) H hB
    cases Go.det g1 k1
    cases Go.det g2 k2
    exact ⟨wm, ⟨⟨(iv_0, iv_l0), List.mem_of_getElem? (i := 0) rfl, ρ', H'⟩, up_t0 H' hP (hS _ (List.mem_of_getElem? (i := 0) rfl)) (hF 15 (List.mem_append_left _ (by decide +kernel))) (hF 16 (List.mem_append_left _ (by decide +kernel))) (hF 66 (List.mem_append_left _ (by decide +kernel))), up_y0 H' hY (hS _ (List.mem_of_getElem? (i := 1) rfl)) (hS _ (List.mem_of_getElem? (i := 2) rfl)) (hF 33 (List.mem_append_left _ (by decide +kernel))) (hF 63 (List.mem_append_left _ (by decide +kernel))), hA.same (fun p hp => hF p (List.mem_append_right _ (List.mem_append_left _ hp))), ((hS _ (List.mem_of_getElem? (i := 3) rfl))).trans (hO.trans ((hS _ (List.mem_of_getElem? (i := 4) rfl))).symm), up_b0 H' H hB (hS _ (List.mem_of_getElem? (i := 5) rfl)) (hS _ (List.mem_of_getElem? (i := 6) rfl)) (fun q hq => hF q (List.mem_append_right _ (List.mem_append_right _ hq)))⟩, (g1.sm (List.mem_of_getElem? (i := 49) rfl) (by decide +kernel) rfl).tr (g2.sm (List.mem_of_getElem? (i := 50) rfl) (by decide +kernel) rfl), fun q kk => lc_23 h1 h2 h3 h4 b1 b2 hs g1 g2 kk⟩
  · obtain rfl := List.mem_singleton.mp hI
    obtain ⟨v1, v2, wx, wm, gs, fs, ⟨z1, a1⟩, ⟨z2, a2⟩, b1, b2, g1, g2, hI2, hF, hS⟩ := pr_goL (pr_goQ (X := []) (vs := [.int x1]) rfl rfl (ai_cons kbh_307 (ai_cons kah_461 ai_nil)) pc1_23 H ⟨⟨_, rfl⟩, trivial⟩) sy_1_5 H
    obtain ⟨ρ', H'⟩ := pr_one hI2
    obtain ⟨r, wx', wm', k1, k2⟩ := h23_1 (x := x1) H hB
    cases Go.det g1 k1
    cases Go.det g2 k2
    exact ⟨wm, ⟨⟨(iv_1, iv_l1), List.mem_of_getElem? (i := 1) rfl, ρ', H'⟩, up_t1 H' hP (hS _ (List.mem_of_getElem? (i := 0) rfl)) (hF 15 (List.mem_append_left _ (by decide +kernel))) (hF 16 (List.mem_append_left _ (by decide +kernel))) (hF 66 (List.mem_append_left _ (by decide +kernel))), up_y1 H' hY (hS _ (List.mem_of_getElem? (i := 1) rfl)) (hS _ (List.mem_of_getElem? (i := 2) rfl)) (hF 33 (List.mem_append_left _ (by decide +kernel))) (hF 63 (List.mem_append_left _ (by decide +kernel))), hA.same (fun p hp => hF p (List.mem_append_right _ (List.mem_append_left _ hp))), ((hS _ (List.mem_of_getElem? (i := 3) rfl))).trans (hO.trans ((hS _ (List.mem_of_getElem? (i := 4) rfl))).symm), up_b1 H' H hB (hS _ (List.mem_of_getElem? (i := 5) rfl)) (hS _ (List.mem_of_getElem? (i := 6) rfl)) (fun q hq => hF q (List.mem_append_right _ (List.mem_append_right _ hq)))⟩, (g1.sm (List.mem_of_getElem? (i := 49) rfl) (by decide +kernel) rfl).tr (g2.sm (List.mem_of_getElem? (i := 50) rfl) (by decide +kernel) rfl), fun q kk => lc_23 h1 h2 h3 h4 b1 b2 hs g1 g2 kk⟩
theorem ls_24 {X : List Int32} {i x0 x1 x2 x3 x4 : Int32} {w : ex_W} (h1 : lw_x X (i + 1) x1) (h2 : lw_x X (i + 2) x2) (h3 : lw_x X (i + 3) x3) (h4 : lw_x X (i + 4) x4) (hw : bv_I w) (hs : x0 &&& 63 = 24) : ∃ wm, bv_I wm ∧ ex_sm w wm ∧ ∀ q, Go X 40 mt_0 (1238, [some (.retAddr 0), some (.ref 0), some (.ref 59), some (.int i)], []) wm q → Go X 40 mt_0 (32, [some (.retAddr 0), some (.ref 0), some (.ref 59), some (.int i)], [.int (x0 &&& 63)]) w q := by
  obtain ⟨⟨I, hI, ρ, H⟩, hP, hY, hA, hO, t, hB⟩ := hw
  rcases List.mem_cons.mp hI with rfl | hI
  · obtain ⟨v1, v2, wx, wm, gs, fs, ⟨z1, a1⟩, ⟨z2, a2⟩, b1, b2, g1, g2, hI2, hF, hS⟩ := pr_goL (pr_goQ (X := []) (vs := [.int x1]) rfl rfl (ai_cons kah_463 (ai_cons kah_465 ai_nil)) pc0_24 H ⟨⟨_, rfl⟩, trivial⟩) sy_0_4 H
    obtain ⟨ρ', H'⟩ := pr_one hI2
    obtain ⟨u1, rfl, -⟩ := ai_nzI a1
    obtain ⟨u2, rfl, -⟩ := ai_nzI a2
    exact ⟨wm, ⟨⟨(iv_0, iv_l0), List.mem_of_getElem? (i := 0) rfl, ρ', H'⟩, up_t0 H' hP (hS _ (List.mem_of_getElem? (i := 0) rfl)) (hF 15 (List.mem_append_left _ (by decide +kernel))) (hF 16 (List.mem_append_left _ (by decide +kernel))) (hF 66 (List.mem_append_left _ (by decide +kernel))), up_y0 H' hY (hS _ (List.mem_of_getElem? (i := 1) rfl)) (hS _ (List.mem_of_getElem? (i := 2) rfl)) (hF 33 (List.mem_append_left _ (by decide +kernel))) (hF 63 (List.mem_append_left _ (by decide +kernel))), hA.same (fun p hp => hF p (List.mem_append_right _ (List.mem_append_left _ hp))), ((hS _ (List.mem_of_getElem? (i := 3) rfl))).trans (hO.trans ((hS _ (List.mem_of_getElem? (i := 4) rfl))).symm), up_b0 H' H hB (hS _ (List.mem_of_getElem? (i := 5) rfl)) (hS _ (List.mem_of_getElem? (i := 6) rfl)) (fun q hq => hF q (List.mem_append_right _ (List.mem_append_right _ hq)))⟩, (g1.sm (List.mem_of_getElem? (i := 51) rfl) (by decide +kernel) rfl).tr (g2.sm (List.mem_of_getElem? (i := 52) rfl) (by decide +kernel) rfl), fun q kk => lc_24 h1 h2 h3 h4 b1 b2 hs g1 g2 kk⟩
  · obtain rfl := List.mem_singleton.mp hI
    obtain ⟨v1, v2, wx, wm, gs, fs, ⟨z1, a1⟩, ⟨z2, a2⟩, b1, b2, g1, g2, hI2, hF, hS⟩ := pr_goL (pr_goQ (X := []) (vs := [.int x1]) rfl rfl (ai_cons kbh_309 (ai_cons kah_465 ai_nil)) pc1_24 H ⟨⟨_, rfl⟩, trivial⟩) sy_1_5 H
    obtain ⟨ρ', H'⟩ := pr_one hI2
    obtain ⟨u1, rfl, -⟩ := ai_nzI a1
    obtain ⟨u2, rfl, -⟩ := ai_nzI a2
    exact ⟨wm, ⟨⟨(iv_1, iv_l1), List.mem_of_getElem? (i := 1) rfl, ρ', H'⟩, up_t1 H' hP (hS _ (List.mem_of_getElem? (i := 0) rfl)) (hF 15 (List.mem_append_left _ (by decide +kernel))) (hF 16 (List.mem_append_left _ (by decide +kernel))) (hF 66 (List.mem_append_left _ (by decide +kernel))), up_y1 H' hY (hS _ (List.mem_of_getElem? (i := 1) rfl)) (hS _ (List.mem_of_getElem? (i := 2) rfl)) (hF 33 (List.mem_append_left _ (by decide +kernel))) (hF 63 (List.mem_append_left _ (by decide +kernel))), hA.same (fun p hp => hF p (List.mem_append_right _ (List.mem_append_left _ hp))), ((hS _ (List.mem_of_getElem? (i := 3) rfl))).trans (hO.trans ((hS _ (List.mem_of_getElem? (i := 4) rfl))).symm), up_b1 H' H hB (hS _ (List.mem_of_getElem? (i := 5) rfl)) (hS _ (List.mem_of_getElem? (i := 6) rfl)) (fun q hq => hF q (List.mem_append_right _ (List.mem_append_right _ hq)))⟩, (g1.sm (List.mem_of_getElem? (i := 51) rfl) (by decide +kernel) rfl).tr (g2.sm (List.mem_of_getElem? (i := 52) rfl) (by decide +kernel) rfl), fun q kk => lc_24 h1 h2 h3 h4 b1 b2 hs g1 g2 kk⟩
theorem ls_25 {X : List Int32} {i x0 x1 x2 x3 x4 : Int32} {w : ex_W} (h1 : lw_x X (i + 1) x1) (h2 : lw_x X (i + 2) x2) (h3 : lw_x X (i + 3) x3) (h4 : lw_x X (i + 4) x4) (hw : bv_I w) (hs : x0 &&& 63 = 25) : ∃ wm, bv_I wm ∧ ex_sm w wm ∧ ∀ q, Go X 40 mt_0 (1238, [some (.retAddr 0), some (.ref 0), some (.ref 59), some (.int i)], []) wm q → Go X 40 mt_0 (32, [some (.retAddr 0), some (.ref 0), some (.ref 59), some (.int i)], [.int (x0 &&& 63)]) w q := by
  obtain ⟨⟨I, hI, ρ, H⟩, hP, hY, hA, hO, t, hB⟩ := hw
  rcases List.mem_cons.mp hI with rfl | hI
  · obtain ⟨v1, v2, wx, wm, gs, fs, ⟨z1, a1⟩, ⟨z2, a2⟩, b1, b2, g1, g2, hI2, hF, hS⟩ := pr_goL (pr_goQ (X := []) (vs := [.int x1, .int x2]) rfl rfl (ai_cons kah_473 (ai_cons kah_484 ai_nil)) pc0_25 H ⟨⟨_, rfl⟩, ⟨_, rfl⟩, trivial⟩) sy_0_4 H
    obtain ⟨ρ', H'⟩ := pr_one hI2
    obtain ⟨u1, rfl, -⟩ := ai_nzI a1
    obtain ⟨u2, rfl, -⟩ := ai_nzI a2
    exact ⟨wm, ⟨⟨(iv_0, iv_l0), List.mem_of_getElem? (i := 0) rfl, ρ', H'⟩, up_t0 H' hP (hS _ (List.mem_of_getElem? (i := 0) rfl)) (hF 15 (List.mem_append_left _ (by decide +kernel))) (hF 16 (List.mem_append_left _ (by decide +kernel))) (hF 66 (List.mem_append_left _ (by decide +kernel))), up_y0 H' hY (hS _ (List.mem_of_getElem? (i := 1) rfl)) (hS _ (List.mem_of_getElem? (i := 2) rfl)) (hF 33 (List.mem_append_left _ (by decide +kernel))) (hF 63 (List.mem_append_left _ (by decide +kernel))), hA.same (fun p hp => hF p (List.mem_append_right _ (List.mem_append_left _ hp))), ((hS _ (List.mem_of_getElem? (i := 3) rfl))).trans (hO.trans ((hS _ (List.mem_of_getElem? (i := 4) rfl))).symm), up_b0 H' H hB (hS _ (List.mem_of_getElem? (i := 5) rfl)) (hS _ (List.mem_of_getElem? (i := 6) rfl)) (fun q hq => hF q (List.mem_append_right _ (List.mem_append_right _ hq)))⟩, (g1.sm (List.mem_of_getElem? (i := 53) rfl) (by decide +kernel) rfl).tr (g2.sm (List.mem_of_getElem? (i := 54) rfl) (by decide +kernel) rfl), fun q kk => lc_25 h1 h2 h3 h4 b1 b2 hs g1 g2 kk⟩
  · obtain rfl := List.mem_singleton.mp hI
    obtain ⟨v1, v2, wx, wm, gs, fs, ⟨z1, a1⟩, ⟨z2, a2⟩, b1, b2, g1, g2, hI2, hF, hS⟩ := pr_goL (pr_goQ (X := []) (vs := [.int x1, .int x2]) rfl rfl (ai_cons kbh_317 (ai_cons kah_484 ai_nil)) pc1_25 H ⟨⟨_, rfl⟩, ⟨_, rfl⟩, trivial⟩) sy_1_5 H
    obtain ⟨ρ', H'⟩ := pr_one hI2
    obtain ⟨u1, rfl, -⟩ := ai_nzI a1
    obtain ⟨u2, rfl, -⟩ := ai_nzI a2
    exact ⟨wm, ⟨⟨(iv_1, iv_l1), List.mem_of_getElem? (i := 1) rfl, ρ', H'⟩, up_t1 H' hP (hS _ (List.mem_of_getElem? (i := 0) rfl)) (hF 15 (List.mem_append_left _ (by decide +kernel))) (hF 16 (List.mem_append_left _ (by decide +kernel))) (hF 66 (List.mem_append_left _ (by decide +kernel))), up_y1 H' hY (hS _ (List.mem_of_getElem? (i := 1) rfl)) (hS _ (List.mem_of_getElem? (i := 2) rfl)) (hF 33 (List.mem_append_left _ (by decide +kernel))) (hF 63 (List.mem_append_left _ (by decide +kernel))), hA.same (fun p hp => hF p (List.mem_append_right _ (List.mem_append_left _ hp))), ((hS _ (List.mem_of_getElem? (i := 3) rfl))).trans (hO.trans ((hS _ (List.mem_of_getElem? (i := 4) rfl))).symm), up_b1 H' H hB (hS _ (List.mem_of_getElem? (i := 5) rfl)) (hS _ (List.mem_of_getElem? (i := 6) rfl)) (fun q hq => hF q (List.mem_append_right _ (List.mem_append_right _ hq)))⟩, (g1.sm (List.mem_of_getElem? (i := 53) rfl) (by decide +kernel) rfl).tr (g2.sm (List.mem_of_getElem? (i := 54) rfl) (by decide +kernel) rfl), fun q kk => lc_25 h1 h2 h3 h4 b1 b2 hs g1 g2 kk⟩
theorem ls_26 {X : List Int32} {i x0 x1 x2 x3 x4 : Int32} {w : ex_W} (h1 : lw_x X (i + 1) x1) (h2 : lw_x X (i + 2) x2) (h3 : lw_x X (i + 3) x3) (h4 : lw_x X (i + 4) x4) (hw : bv_I w) (hs : x0 &&& 63 = 26) : ∃ wm, bv_I wm ∧ ex_sm w wm ∧ ∀ q, Go X 40 mt_0 (1238, [some (.retAddr 0), some (.ref 0), some (.ref 59), some (.int i)], []) wm q → Go X 40 mt_0 (32, [some (.retAddr 0), some (.ref 0), some (.ref 59), some (.int i)], [.int (x0 &&& 63)]) w q := by
  obtain ⟨⟨I, hI, ρ, H⟩, hP, hY, hA, hO, t, hB⟩ := hw
  rcases List.mem_cons.mp hI with rfl | hI
  · obtain ⟨v1, v2, wx, wm, gs, fs, ⟨z1, a1⟩, ⟨z2, a2⟩, b1, b2, g1, g2, hI2, hF, hS⟩ := pr_goL (pr_goQ (X := []) (vs := [.int x1, .int x2]) rfl rfl (ai_cons kah_503 (ai_cons kah_514 ai_nil)) pc0_26 H ⟨⟨_, rfl⟩, ⟨_, rfl⟩, trivial⟩) sy_0_4 H
    obtain ⟨ρ', H'⟩ := pr_one hI2
    obtain ⟨u1, rfl, -⟩ := ai_nzL a1
    obtain ⟨u2, rfl, -⟩ := ai_nzL a2
    exact ⟨wm, ⟨⟨(iv_0, iv_l0), List.mem_of_getElem? (i := 0) rfl, ρ', H'⟩, up_t0 H' hP (hS _ (List.mem_of_getElem? (i := 0) rfl)) (hF 15 (List.mem_append_left _ (by decide +kernel))) (hF 16 (List.mem_append_left _ (by decide +kernel))) (hF 66 (List.mem_append_left _ (by decide +kernel))), up_y0 H' hY (hS _ (List.mem_of_getElem? (i := 1) rfl)) (hS _ (List.mem_of_getElem? (i := 2) rfl)) (hF 33 (List.mem_append_left _ (by decide +kernel))) (hF 63 (List.mem_append_left _ (by decide +kernel))), hA.same (fun p hp => hF p (List.mem_append_right _ (List.mem_append_left _ hp))), ((hS _ (List.mem_of_getElem? (i := 3) rfl))).trans (hO.trans ((hS _ (List.mem_of_getElem? (i := 4) rfl))).symm), up_b0 H' H hB (hS _ (List.mem_of_getElem? (i := 5) rfl)) (hS _ (List.mem_of_getElem? (i := 6) rfl)) (fun q hq => hF q (List.mem_append_right _ (List.mem_append_right _ hq)))⟩, (g1.sm (List.mem_of_getElem? (i := 55) rfl) (by decide +kernel) rfl).tr (g2.sm (List.mem_of_getElem? (i := 56) rfl) (by decide +kernel) rfl), fun q kk => lc_26 h1 h2 h3 h4 b1 b2 hs g1 g2 kk⟩
  · obtain rfl := List.mem_singleton.mp hI
    obtain ⟨v1, v2, wx, wm, gs, fs, ⟨z1, a1⟩, ⟨z2, a2⟩, b1, b2, g1, g2, hI2, hF, hS⟩ := pr_goL (pr_goQ (X := []) (vs := [.int x1, .int x2]) rfl rfl (ai_cons kbh_336 (ai_cons kah_514 ai_nil)) pc1_26 H ⟨⟨_, rfl⟩, ⟨_, rfl⟩, trivial⟩) sy_1_5 H
    obtain ⟨ρ', H'⟩ := pr_one hI2
    obtain ⟨u1, rfl, -⟩ := ai_nzL a1
    obtain ⟨u2, rfl, -⟩ := ai_nzL a2
    exact ⟨wm, ⟨⟨(iv_1, iv_l1), List.mem_of_getElem? (i := 1) rfl, ρ', H'⟩, up_t1 H' hP (hS _ (List.mem_of_getElem? (i := 0) rfl)) (hF 15 (List.mem_append_left _ (by decide +kernel))) (hF 16 (List.mem_append_left _ (by decide +kernel))) (hF 66 (List.mem_append_left _ (by decide +kernel))), up_y1 H' hY (hS _ (List.mem_of_getElem? (i := 1) rfl)) (hS _ (List.mem_of_getElem? (i := 2) rfl)) (hF 33 (List.mem_append_left _ (by decide +kernel))) (hF 63 (List.mem_append_left _ (by decide +kernel))), hA.same (fun p hp => hF p (List.mem_append_right _ (List.mem_append_left _ hp))), ((hS _ (List.mem_of_getElem? (i := 3) rfl))).trans (hO.trans ((hS _ (List.mem_of_getElem? (i := 4) rfl))).symm), up_b1 H' H hB (hS _ (List.mem_of_getElem? (i := 5) rfl)) (hS _ (List.mem_of_getElem? (i := 6) rfl)) (fun q hq => hF q (List.mem_append_right _ (List.mem_append_right _ hq)))⟩, (g1.sm (List.mem_of_getElem? (i := 55) rfl) (by decide +kernel) rfl).tr (g2.sm (List.mem_of_getElem? (i := 56) rfl) (by decide +kernel) rfl), fun q kk => lc_26 h1 h2 h3 h4 b1 b2 hs g1 g2 kk⟩
theorem ls_27 {X : List Int32} {i x0 x1 x2 x3 x4 : Int32} {w : ex_W} (h1 : lw_x X (i + 1) x1) (h2 : lw_x X (i + 2) x2) (h3 : lw_x X (i + 3) x3) (h4 : lw_x X (i + 4) x4) (hw : bv_I w) (hs : x0 &&& 63 = 27) : ∃ wm, bv_I wm ∧ ex_sm w wm ∧ ∀ q, Go X 40 mt_0 (1238, [some (.retAddr 0), some (.ref 0), some (.ref 59), some (.int i)], []) wm q → Go X 40 mt_0 (32, [some (.retAddr 0), some (.ref 0), some (.ref 59), some (.int i)], [.int (x0 &&& 63)]) w q := by
  obtain ⟨⟨I, hI, ρ, H⟩, hP, hY, hA, hO, t, hB⟩ := hw
  rcases List.mem_cons.mp hI with rfl | hI
  · obtain ⟨v1, v2, wx, wm, gs, fs, ⟨z1, a1⟩, ⟨z2, a2⟩, b1, b2, g1, g2, hI2, hF, hS⟩ := pr_goL (pr_goQ (X := []) (vs := [.int x1, .int x2]) rfl rfl (ai_cons kah_516 (ai_cons kah_521 ai_nil)) pc0_27 H ⟨⟨_, rfl⟩, ⟨_, rfl⟩, trivial⟩) sy_0_4 H
    obtain ⟨ρ', H'⟩ := pr_one hI2
    obtain ⟨u1, rfl, -⟩ := ai_nzI a1
    obtain ⟨u2, rfl, -⟩ := ai_nzI a2
    exact ⟨wm, ⟨⟨(iv_0, iv_l0), List.mem_of_getElem? (i := 0) rfl, ρ', H'⟩, up_t0 H' hP (hS _ (List.mem_of_getElem? (i := 0) rfl)) (hF 15 (List.mem_append_left _ (by decide +kernel))) (hF 16 (List.mem_append_left _ (by decide +kernel))) (hF 66 (List.mem_append_left _ (by decide +kernel))), up_y0 H' hY (hS _ (List.mem_of_getElem? (i := 1) rfl)) (hS _ (List.mem_of_getElem? (i := 2) rfl)) (hF 33 (List.mem_append_left _ (by decide +kernel))) (hF 63 (List.mem_append_left _ (by decide +kernel))), hA.same (fun p hp => hF p (List.mem_append_right _ (List.mem_append_left _ hp))), ((hS _ (List.mem_of_getElem? (i := 3) rfl))).trans (hO.trans ((hS _ (List.mem_of_getElem? (i := 4) rfl))).symm), up_b0 H' H hB (hS _ (List.mem_of_getElem? (i := 5) rfl)) (hS _ (List.mem_of_getElem? (i := 6) rfl)) (fun q hq => hF q (List.mem_append_right _ (List.mem_append_right _ hq)))⟩, (g1.sm (List.mem_of_getElem? (i := 57) rfl) (by decide +kernel) rfl).tr (g2.sm (List.mem_of_getElem? (i := 58) rfl) (by decide +kernel) rfl), fun q kk => lc_27 h1 h2 h3 h4 b1 b2 hs g1 g2 kk⟩
  · obtain rfl := List.mem_singleton.mp hI
    obtain ⟨v1, v2, wx, wm, gs, fs, ⟨z1, a1⟩, ⟨z2, a2⟩, b1, b2, g1, g2, hI2, hF, hS⟩ := pr_goL (pr_goQ (X := []) (vs := [.int x1, .int x2]) rfl rfl (ai_cons kbh_338 (ai_cons kah_521 ai_nil)) pc1_27 H ⟨⟨_, rfl⟩, ⟨_, rfl⟩, trivial⟩) sy_1_5 H
    obtain ⟨ρ', H'⟩ := pr_one hI2
    obtain ⟨u1, rfl, -⟩ := ai_nzI a1
    obtain ⟨u2, rfl, -⟩ := ai_nzI a2
    exact ⟨wm, ⟨⟨(iv_1, iv_l1), List.mem_of_getElem? (i := 1) rfl, ρ', H'⟩, up_t1 H' hP (hS _ (List.mem_of_getElem? (i := 0) rfl)) (hF 15 (List.mem_append_left _ (by decide +kernel))) (hF 16 (List.mem_append_left _ (by decide +kernel))) (hF 66 (List.mem_append_left _ (by decide +kernel))), up_y1 H' hY (hS _ (List.mem_of_getElem? (i := 1) rfl)) (hS _ (List.mem_of_getElem? (i := 2) rfl)) (hF 33 (List.mem_append_left _ (by decide +kernel))) (hF 63 (List.mem_append_left _ (by decide +kernel))), hA.same (fun p hp => hF p (List.mem_append_right _ (List.mem_append_left _ hp))), ((hS _ (List.mem_of_getElem? (i := 3) rfl))).trans (hO.trans ((hS _ (List.mem_of_getElem? (i := 4) rfl))).symm), up_b1 H' H hB (hS _ (List.mem_of_getElem? (i := 5) rfl)) (hS _ (List.mem_of_getElem? (i := 6) rfl)) (fun q hq => hF q (List.mem_append_right _ (List.mem_append_right _ hq)))⟩, (g1.sm (List.mem_of_getElem? (i := 57) rfl) (by decide +kernel) rfl).tr (g2.sm (List.mem_of_getElem? (i := 58) rfl) (by decide +kernel) rfl), fun q kk => lc_27 h1 h2 h3 h4 b1 b2 hs g1 g2 kk⟩
theorem ls_28 {X : List Int32} {i x0 x1 x2 x3 x4 : Int32} {w : ex_W} (h1 : lw_x X (i + 1) x1) (h2 : lw_x X (i + 2) x2) (h3 : lw_x X (i + 3) x3) (h4 : lw_x X (i + 4) x4) (hw : bv_I w) (hs : x0 &&& 63 = 28) : ∃ wm, bv_I wm ∧ ex_sm w wm ∧ ∀ q, Go X 40 mt_0 (1238, [some (.retAddr 0), some (.ref 0), some (.ref 59), some (.int i)], []) wm q → Go X 40 mt_0 (32, [some (.retAddr 0), some (.ref 0), some (.ref 59), some (.int i)], [.int (x0 &&& 63)]) w q := by
  obtain ⟨⟨I, hI, ρ, H⟩, hP, hY, hA, hO, t, hB⟩ := hw
  rcases List.mem_cons.mp hI with rfl | hI
  · obtain ⟨v1, v2, wx, wm, gs, fs, ⟨z1, a1⟩, ⟨z2, a2⟩, b1, b2, g1, g2, hI2, hF, hS⟩ := pr_goL (pr_goQ (X := []) (vs := [.int x1]) rfl rfl (ai_cons kah_522 (ai_cons kah_523 ai_nil)) pc0_28 H ⟨⟨_, rfl⟩, trivial⟩) sy_0_4 H
    obtain ⟨ρ', H'⟩ := pr_one hI2
    obtain ⟨u1, rfl, -⟩ := ai_nzI a1
    obtain ⟨u2, rfl, -⟩ := ai_nzI a2
    exact ⟨wm, ⟨⟨(iv_0, iv_l0), List.mem_of_getElem? (i := 0) rfl, ρ', H'⟩, up_t0 H' hP (hS _ (List.mem_of_getElem? (i := 0) rfl)) (hF 15 (List.mem_append_left _ (by decide +kernel))) (hF 16 (List.mem_append_left _ (by decide +kernel))) (hF 66 (List.mem_append_left _ (by decide +kernel))), up_y0 H' hY (hS _ (List.mem_of_getElem? (i := 1) rfl)) (hS _ (List.mem_of_getElem? (i := 2) rfl)) (hF 33 (List.mem_append_left _ (by decide +kernel))) (hF 63 (List.mem_append_left _ (by decide +kernel))), hA.same (fun p hp => hF p (List.mem_append_right _ (List.mem_append_left _ hp))), ((hS _ (List.mem_of_getElem? (i := 3) rfl))).trans (hO.trans ((hS _ (List.mem_of_getElem? (i := 4) rfl))).symm), up_b0 H' H hB (hS _ (List.mem_of_getElem? (i := 5) rfl)) (hS _ (List.mem_of_getElem? (i := 6) rfl)) (fun q hq => hF q (List.mem_append_right _ (List.mem_append_right _ hq)))⟩, (g1.sm (List.mem_of_getElem? (i := 59) rfl) (by decide +kernel) rfl).tr (g2.sm (List.mem_of_getElem? (i := 60) rfl) (by decide +kernel) rfl), fun q kk => lc_28 h1 h2 h3 h4 b1 b2 hs g1 g2 kk⟩
  · obtain rfl := List.mem_singleton.mp hI
    obtain ⟨v1, v2, wx, wm, gs, fs, ⟨z1, a1⟩, ⟨z2, a2⟩, b1, b2, g1, g2, hI2, hF, hS⟩ := pr_goL (pr_goQ (X := []) (vs := [.int x1]) rfl rfl (ai_cons kbh_339 (ai_cons kah_523 ai_nil)) pc1_28 H ⟨⟨_, rfl⟩, trivial⟩) sy_1_5 H
    obtain ⟨ρ', H'⟩ := pr_one hI2
    obtain ⟨u1, rfl, -⟩ := ai_nzI a1
    obtain ⟨u2, rfl, -⟩ := ai_nzI a2
    exact ⟨wm, ⟨⟨(iv_1, iv_l1), List.mem_of_getElem? (i := 1) rfl, ρ', H'⟩, up_t1 H' hP (hS _ (List.mem_of_getElem? (i := 0) rfl)) (hF 15 (List.mem_append_left _ (by decide +kernel))) (hF 16 (List.mem_append_left _ (by decide +kernel))) (hF 66 (List.mem_append_left _ (by decide +kernel))), up_y1 H' hY (hS _ (List.mem_of_getElem? (i := 1) rfl)) (hS _ (List.mem_of_getElem? (i := 2) rfl)) (hF 33 (List.mem_append_left _ (by decide +kernel))) (hF 63 (List.mem_append_left _ (by decide +kernel))), hA.same (fun p hp => hF p (List.mem_append_right _ (List.mem_append_left _ hp))), ((hS _ (List.mem_of_getElem? (i := 3) rfl))).trans (hO.trans ((hS _ (List.mem_of_getElem? (i := 4) rfl))).symm), up_b1 H' H hB (hS _ (List.mem_of_getElem? (i := 5) rfl)) (hS _ (List.mem_of_getElem? (i := 6) rfl)) (fun q hq => hF q (List.mem_append_right _ (List.mem_append_right _ hq)))⟩, (g1.sm (List.mem_of_getElem? (i := 59) rfl) (by decide +kernel) rfl).tr (g2.sm (List.mem_of_getElem? (i := 60) rfl) (by decide +kernel) rfl), fun q kk => lc_28 h1 h2 h3 h4 b1 b2 hs g1 g2 kk⟩
theorem ls_29 {X : List Int32} {i x0 x1 x2 x3 x4 : Int32} {w : ex_W} (h1 : lw_x X (i + 1) x1) (h2 : lw_x X (i + 2) x2) (h3 : lw_x X (i + 3) x3) (h4 : lw_x X (i + 4) x4) (hw : bv_I w) (hs : x0 &&& 63 = 29) : ∃ wm, bv_I wm ∧ ex_sm w wm ∧ ∀ q, Go X 40 mt_0 (1238, [some (.retAddr 0), some (.ref 0), some (.ref 59), some (.int i)], []) wm q → Go X 40 mt_0 (32, [some (.retAddr 0), some (.ref 0), some (.ref 59), some (.int i)], [.int (x0 &&& 63)]) w q := by
  obtain ⟨⟨I, hI, ρ, H⟩, hP, hY, hA, hO, t, hB⟩ := hw
  rcases List.mem_cons.mp hI with rfl | hI
  · obtain ⟨v1, v2, wx, wm, gs, fs, ⟨z1, a1⟩, ⟨z2, a2⟩, b1, b2, g1, g2, hI2, hF, hS⟩ := pr_goL (pr_goQ (X := []) (vs := [.int x1, .int x2]) rfl rfl (ai_cons kah_525 (ai_cons kah_526 ai_nil)) pc0_29 H ⟨⟨_, rfl⟩, ⟨_, rfl⟩, trivial⟩) sy_0_6 H
    obtain ⟨ρ', H'⟩ := pr_one hI2
    obtain ⟨r, wx', wm', k1, k2, kB⟩ := h29_0 (x := x1) (y := x2) hB
    cases Go.det g1 k1
    cases Go.det g2 k2
    exact ⟨wm, ⟨⟨(iv_0, iv_l0), List.mem_of_getElem? (i := 0) rfl, ρ', H'⟩, up_t0 H' hP (hS _ (List.mem_of_getElem? (i := 0) rfl)) (hF 15 (List.mem_append_left _ (by decide +kernel))) (hF 16 (List.mem_append_left _ (by decide +kernel))) (hF 66 (List.mem_append_left _ (by decide +kernel))), up_y0 H' hY (hS _ (List.mem_of_getElem? (i := 1) rfl)) (hS _ (List.mem_of_getElem? (i := 2) rfl)) (hF 33 (List.mem_append_left _ (by decide +kernel))) (hF 63 (List.mem_append_left _ (by decide +kernel))), hA.same (fun p hp => hF p (List.mem_append_right _ (List.mem_append_left _ hp))), ((hS _ (List.mem_of_getElem? (i := 3) rfl))).trans (hO.trans ((hS _ (List.mem_of_getElem? (i := 4) rfl))).symm), kB⟩, (g1.sm (List.mem_of_getElem? (i := 61) rfl) (by decide +kernel) rfl).tr (g2.sm (List.mem_of_getElem? (i := 62) rfl) (by decide +kernel) rfl), fun q kk => lc_29 h1 h2 h3 h4 b1 b2 hs g1 g2 kk⟩
  · obtain rfl := List.mem_singleton.mp hI
    obtain ⟨v1, v2, wx, wm, gs, fs, ⟨z1, a1⟩, ⟨z2, a2⟩, b1, b2, g1, g2, hI2, hF, hS⟩ := pr_goL (pr_goQ (X := []) (vs := [.int x1, .int x2]) rfl rfl (ai_cons kbh_341 (ai_cons kah_526 ai_nil)) pc1_29 H ⟨⟨_, rfl⟩, ⟨_, rfl⟩, trivial⟩) sy_1_7 H
    obtain ⟨ρ', H'⟩ := pr_one hI2
    obtain ⟨r, wx', wm', k1, k2, kB⟩ := h29_1 (x := x1) (y := x2) hB
    cases Go.det g1 k1
    cases Go.det g2 k2
    exact ⟨wm, ⟨⟨(iv_1, iv_l1), List.mem_of_getElem? (i := 1) rfl, ρ', H'⟩, up_t1 H' hP (hS _ (List.mem_of_getElem? (i := 0) rfl)) (hF 15 (List.mem_append_left _ (by decide +kernel))) (hF 16 (List.mem_append_left _ (by decide +kernel))) (hF 66 (List.mem_append_left _ (by decide +kernel))), up_y1 H' hY (hS _ (List.mem_of_getElem? (i := 1) rfl)) (hS _ (List.mem_of_getElem? (i := 2) rfl)) (hF 33 (List.mem_append_left _ (by decide +kernel))) (hF 63 (List.mem_append_left _ (by decide +kernel))), hA.same (fun p hp => hF p (List.mem_append_right _ (List.mem_append_left _ hp))), ((hS _ (List.mem_of_getElem? (i := 3) rfl))).trans (hO.trans ((hS _ (List.mem_of_getElem? (i := 4) rfl))).symm), kB⟩, (g1.sm (List.mem_of_getElem? (i := 61) rfl) (by decide +kernel) rfl).tr (g2.sm (List.mem_of_getElem? (i := 62) rfl) (by decide +kernel) rfl), fun q kk => lc_29 h1 h2 h3 h4 b1 b2 hs g1 g2 kk⟩
theorem ls_30 {X : List Int32} {i x0 x1 x2 x3 x4 : Int32} {w : ex_W} (h1 : lw_x X (i + 1) x1) (h2 : lw_x X (i + 2) x2) (h3 : lw_x X (i + 3) x3) (h4 : lw_x X (i + 4) x4) (hw : bv_I w) (hs : x0 &&& 63 = 30) : ∃ wm, bv_I wm ∧ ex_sm w wm ∧ ∀ q, Go X 40 mt_0 (1238, [some (.retAddr 0), some (.ref 0), some (.ref 59), some (.int i)], []) wm q → Go X 40 mt_0 (32, [some (.retAddr 0), some (.ref 0), some (.ref 59), some (.int i)], [.int (x0 &&& 63)]) w q := by
  obtain ⟨⟨I, hI, ρ, H⟩, hP, hY, hA, hO, t, hB⟩ := hw
  rcases List.mem_cons.mp hI with rfl | hI
  · obtain ⟨v1, v2, wx, wm, gs, fs, ⟨z1, a1⟩, ⟨z2, a2⟩, b1, b2, g1, g2, hI2, hF, hS⟩ := pr_goL (pr_goQ (X := []) (vs := []) rfl rfl (ai_cons kah_527 (ai_cons kah_528 ai_nil)) pc0_30 H trivial) sy_0_6 H
    obtain ⟨ρ', H'⟩ := pr_one hI2
    obtain ⟨r, wx', wm', k1, k2, kB⟩ := h30_0  hB
    cases Go.det g1 k1
    cases Go.det g2 k2
    exact ⟨wm, ⟨⟨(iv_0, iv_l0), List.mem_of_getElem? (i := 0) rfl, ρ', H'⟩, up_t0 H' hP (hS _ (List.mem_of_getElem? (i := 0) rfl)) (hF 15 (List.mem_append_left _ (by decide +kernel))) (hF 16 (List.mem_append_left _ (by decide +kernel))) (hF 66 (List.mem_append_left _ (by decide +kernel))), up_y0 H' hY (hS _ (List.mem_of_getElem? (i := 1) rfl)) (hS _ (List.mem_of_getElem? (i := 2) rfl)) (hF 33 (List.mem_append_left _ (by decide +kernel))) (hF 63 (List.mem_append_left _ (by decide +kernel))), hA.same (fun p hp => hF p (List.mem_append_right _ (List.mem_append_left _ hp))), ((hS _ (List.mem_of_getElem? (i := 3) rfl))).trans (hO.trans ((hS _ (List.mem_of_getElem? (i := 4) rfl))).symm), kB⟩, (g1.sm (List.mem_of_getElem? (i := 63) rfl) (by decide +kernel) rfl).tr (g2.sm (List.mem_of_getElem? (i := 64) rfl) (by decide +kernel) rfl), fun q kk => lc_30 h1 h2 h3 h4 b1 b2 hs g1 g2 kk⟩
  · obtain rfl := List.mem_singleton.mp hI
    obtain ⟨v1, v2, wx, wm, gs, fs, ⟨z1, a1⟩, ⟨z2, a2⟩, b1, b2, g1, g2, hI2, hF, hS⟩ := pr_goL (pr_goQ (X := []) (vs := []) rfl rfl (ai_cons kbh_342 (ai_cons kah_528 ai_nil)) pc1_30 H trivial) sy_1_7 H
    obtain ⟨ρ', H'⟩ := pr_one hI2
    obtain ⟨r, wx', wm', k1, k2, kB⟩ := h30_1  hB
    cases Go.det g1 k1
    cases Go.det g2 k2
    exact ⟨wm, ⟨⟨(iv_1, iv_l1), List.mem_of_getElem? (i := 1) rfl, ρ', H'⟩, up_t1 H' hP (hS _ (List.mem_of_getElem? (i := 0) rfl)) (hF 15 (List.mem_append_left _ (by decide +kernel))) (hF 16 (List.mem_append_left _ (by decide +kernel))) (hF 66 (List.mem_append_left _ (by decide +kernel))), up_y1 H' hY (hS _ (List.mem_of_getElem? (i := 1) rfl)) (hS _ (List.mem_of_getElem? (i := 2) rfl)) (hF 33 (List.mem_append_left _ (by decide +kernel))) (hF 63 (List.mem_append_left _ (by decide +kernel))), hA.same (fun p hp => hF p (List.mem_append_right _ (List.mem_append_left _ hp))), ((hS _ (List.mem_of_getElem? (i := 3) rfl))).trans (hO.trans ((hS _ (List.mem_of_getElem? (i := 4) rfl))).symm), kB⟩, (g1.sm (List.mem_of_getElem? (i := 63) rfl) (by decide +kernel) rfl).tr (g2.sm (List.mem_of_getElem? (i := 64) rfl) (by decide +kernel) rfl), fun q kk => lc_30 h1 h2 h3 h4 b1 b2 hs g1 g2 kk⟩
theorem ls_31 {X : List Int32} {i x0 x1 x2 x3 x4 : Int32} {w : ex_W} (h1 : lw_x X (i + 1) x1) (h2 : lw_x X (i + 2) x2) (h3 : lw_x X (i + 3) x3) (h4 : lw_x X (i + 4) x4) (hw : bv_I w) (hs : x0 &&& 63 = 31) : ∃ wm, bv_I wm ∧ ex_sm w wm ∧ ∀ q, Go X 40 mt_0 (1238, [some (.retAddr 0), some (.ref 0), some (.ref 59), some (.int i)], []) wm q → Go X 40 mt_0 (32, [some (.retAddr 0), some (.ref 0), some (.ref 59), some (.int i)], [.int (x0 &&& 63)]) w q := by
  obtain ⟨⟨I, hI, ρ, H⟩, hP, hY, hA, hO, t, hB⟩ := hw
  rcases List.mem_cons.mp hI with rfl | hI
  · obtain ⟨v1, v2, wx, wm, gs, fs, ⟨z1, a1⟩, ⟨z2, a2⟩, b1, b2, g1, g2, hI2, hF, hS⟩ := pr_goL (pr_goQ (X := []) (vs := [.int x1]) rfl rfl (ai_cons kah_655 (ai_cons kah_723 ai_nil)) pc0_31 H ⟨⟨_, rfl⟩, trivial⟩) sy_0_4 H
    obtain ⟨ρ', H'⟩ := pr_one hI2
    obtain ⟨u1, rfl, -⟩ := ai_nzI a1
    obtain ⟨u2, rfl, -⟩ := ai_nzI a2
    exact ⟨wm, ⟨⟨(iv_0, iv_l0), List.mem_of_getElem? (i := 0) rfl, ρ', H'⟩, up_t0 H' hP (hS _ (List.mem_of_getElem? (i := 0) rfl)) (hF 15 (List.mem_append_left _ (by decide +kernel))) (hF 16 (List.mem_append_left _ (by decide +kernel))) (hF 66 (List.mem_append_left _ (by decide +kernel))), up_y0 H' hY (hS _ (List.mem_of_getElem? (i := 1) rfl)) (hS _ (List.mem_of_getElem? (i := 2) rfl)) (hF 33 (List.mem_append_left _ (by decide +kernel))) (hF 63 (List.mem_append_left _ (by decide +kernel))), hA.same (fun p hp => hF p (List.mem_append_right _ (List.mem_append_left _ hp))), ((hS _ (List.mem_of_getElem? (i := 3) rfl))).trans (hO.trans ((hS _ (List.mem_of_getElem? (i := 4) rfl))).symm), up_b0 H' H hB (hS _ (List.mem_of_getElem? (i := 5) rfl)) (hS _ (List.mem_of_getElem? (i := 6) rfl)) (fun q hq => hF q (List.mem_append_right _ (List.mem_append_right _ hq)))⟩, (g1.sm (List.mem_of_getElem? (i := 65) rfl) (by decide +kernel) rfl).tr (g2.sm (List.mem_of_getElem? (i := 66) rfl) (by decide +kernel) rfl), fun q kk => lc_31 h1 h2 h3 h4 b1 b2 hs g1 g2 kk⟩
  · obtain rfl := List.mem_singleton.mp hI
    obtain ⟨v1, v2, wx, wm, gs, fs, ⟨z1, a1⟩, ⟨z2, a2⟩, b1, b2, g1, g2, hI2, hF, hS⟩ := pr_goL (pr_goQ (X := []) (vs := [.int x1]) rfl rfl (ai_cons kbh_469 (ai_cons kah_723 ai_nil)) pc1_31 H ⟨⟨_, rfl⟩, trivial⟩) sy_1_5 H
    obtain ⟨ρ', H'⟩ := pr_one hI2
    obtain ⟨u1, rfl, -⟩ := ai_nzI a1
    obtain ⟨u2, rfl, -⟩ := ai_nzI a2
    exact ⟨wm, ⟨⟨(iv_1, iv_l1), List.mem_of_getElem? (i := 1) rfl, ρ', H'⟩, up_t1 H' hP (hS _ (List.mem_of_getElem? (i := 0) rfl)) (hF 15 (List.mem_append_left _ (by decide +kernel))) (hF 16 (List.mem_append_left _ (by decide +kernel))) (hF 66 (List.mem_append_left _ (by decide +kernel))), up_y1 H' hY (hS _ (List.mem_of_getElem? (i := 1) rfl)) (hS _ (List.mem_of_getElem? (i := 2) rfl)) (hF 33 (List.mem_append_left _ (by decide +kernel))) (hF 63 (List.mem_append_left _ (by decide +kernel))), hA.same (fun p hp => hF p (List.mem_append_right _ (List.mem_append_left _ hp))), ((hS _ (List.mem_of_getElem? (i := 3) rfl))).trans (hO.trans ((hS _ (List.mem_of_getElem? (i := 4) rfl))).symm), up_b1 H' H hB (hS _ (List.mem_of_getElem? (i := 5) rfl)) (hS _ (List.mem_of_getElem? (i := 6) rfl)) (fun q hq => hF q (List.mem_append_right _ (List.mem_append_right _ hq)))⟩, (g1.sm (List.mem_of_getElem? (i := 65) rfl) (by decide +kernel) rfl).tr (g2.sm (List.mem_of_getElem? (i := 66) rfl) (by decide +kernel) rfl), fun q kk => lc_31 h1 h2 h3 h4 b1 b2 hs g1 g2 kk⟩
theorem ls_32 {X : List Int32} {i x0 x1 x2 x3 x4 : Int32} {w : ex_W} (h1 : lw_x X (i + 1) x1) (h2 : lw_x X (i + 2) x2) (h3 : lw_x X (i + 3) x3) (h4 : lw_x X (i + 4) x4) (hw : bv_I w) (hs : x0 &&& 63 = 32) : ∃ wm, bv_I wm ∧ ex_sm w wm ∧ ∀ q, Go X 40 mt_0 (1238, [some (.retAddr 0), some (.ref 0), some (.ref 59), some (.int i)], []) wm q → Go X 40 mt_0 (32, [some (.retAddr 0), some (.ref 0), some (.ref 59), some (.int i)], [.int (x0 &&& 63)]) w q := by
  obtain ⟨⟨I, hI, ρ, H⟩, hP, hY, hA, hO, t, hB⟩ := hw
  rcases List.mem_cons.mp hI with rfl | hI
  · obtain ⟨v1, v2, wx, wm, gs, fs, ⟨z1, a1⟩, ⟨z2, a2⟩, b1, b2, g1, g2, hI2, hF, hS⟩ := pr_goL (pr_goQ (X := []) (vs := [.int x1, .int x2, .int x3]) rfl rfl (ai_cons kah_744 (ai_cons kah_755 ai_nil)) pc0_32 H ⟨⟨_, rfl⟩, ⟨_, rfl⟩, ⟨_, rfl⟩, trivial⟩) sy_0_4 H
    obtain ⟨ρ', H'⟩ := pr_one hI2
    obtain ⟨u1, rfl, -⟩ := ai_nzI a1
    obtain ⟨u2, rfl, -⟩ := ai_nzI a2
    exact ⟨wm, ⟨⟨(iv_0, iv_l0), List.mem_of_getElem? (i := 0) rfl, ρ', H'⟩, up_t0 H' hP (hS _ (List.mem_of_getElem? (i := 0) rfl)) (hF 15 (List.mem_append_left _ (by decide +kernel))) (hF 16 (List.mem_append_left _ (by decide +kernel))) (hF 66 (List.mem_append_left _ (by decide +kernel))), up_y0 H' hY (hS _ (List.mem_of_getElem? (i := 1) rfl)) (hS _ (List.mem_of_getElem? (i := 2) rfl)) (hF 33 (List.mem_append_left _ (by decide +kernel))) (hF 63 (List.mem_append_left _ (by decide +kernel))), hA.same (fun p hp => hF p (List.mem_append_right _ (List.mem_append_left _ hp))), ((hS _ (List.mem_of_getElem? (i := 3) rfl))).trans (hO.trans ((hS _ (List.mem_of_getElem? (i := 4) rfl))).symm), up_b0 H' H hB (hS _ (List.mem_of_getElem? (i := 5) rfl)) (hS _ (List.mem_of_getElem? (i := 6) rfl)) (fun q hq => hF q (List.mem_append_right _ (List.mem_append_right _ hq)))⟩, (g1.sm (List.mem_of_getElem? (i := 67) rfl) (by decide +kernel) rfl).tr (g2.sm (List.mem_of_getElem? (i := 68) rfl) (by decide +kernel) rfl), fun q kk => lc_32 h1 h2 h3 h4 b1 b2 hs g1 g2 kk⟩
  · obtain rfl := List.mem_singleton.mp hI
    obtain ⟨v1, v2, wx, wm, gs, fs, ⟨z1, a1⟩, ⟨z2, a2⟩, b1, b2, g1, g2, hI2, hF, hS⟩ := pr_goL (pr_goQ (X := []) (vs := [.int x1, .int x2, .int x3]) rfl rfl (ai_cons kbh_490 (ai_cons kah_755 ai_nil)) pc1_32 H ⟨⟨_, rfl⟩, ⟨_, rfl⟩, ⟨_, rfl⟩, trivial⟩) sy_1_5 H
    obtain ⟨ρ', H'⟩ := pr_one hI2
    obtain ⟨u1, rfl, -⟩ := ai_nzI a1
    obtain ⟨u2, rfl, -⟩ := ai_nzI a2
    exact ⟨wm, ⟨⟨(iv_1, iv_l1), List.mem_of_getElem? (i := 1) rfl, ρ', H'⟩, up_t1 H' hP (hS _ (List.mem_of_getElem? (i := 0) rfl)) (hF 15 (List.mem_append_left _ (by decide +kernel))) (hF 16 (List.mem_append_left _ (by decide +kernel))) (hF 66 (List.mem_append_left _ (by decide +kernel))), up_y1 H' hY (hS _ (List.mem_of_getElem? (i := 1) rfl)) (hS _ (List.mem_of_getElem? (i := 2) rfl)) (hF 33 (List.mem_append_left _ (by decide +kernel))) (hF 63 (List.mem_append_left _ (by decide +kernel))), hA.same (fun p hp => hF p (List.mem_append_right _ (List.mem_append_left _ hp))), ((hS _ (List.mem_of_getElem? (i := 3) rfl))).trans (hO.trans ((hS _ (List.mem_of_getElem? (i := 4) rfl))).symm), up_b1 H' H hB (hS _ (List.mem_of_getElem? (i := 5) rfl)) (hS _ (List.mem_of_getElem? (i := 6) rfl)) (fun q hq => hF q (List.mem_append_right _ (List.mem_append_right _ hq)))⟩, (g1.sm (List.mem_of_getElem? (i := 67) rfl) (by decide +kernel) rfl).tr (g2.sm (List.mem_of_getElem? (i := 68) rfl) (by decide +kernel) rfl), fun q kk => lc_32 h1 h2 h3 h4 b1 b2 hs g1 g2 kk⟩
theorem ls_33 {X : List Int32} {i x0 x1 x2 x3 x4 : Int32} {w : ex_W} (h1 : lw_x X (i + 1) x1) (h2 : lw_x X (i + 2) x2) (h3 : lw_x X (i + 3) x3) (h4 : lw_x X (i + 4) x4) (hw : bv_I w) (hs : x0 &&& 63 = 33) : ∃ wm, bv_I wm ∧ ex_sm w wm ∧ ∀ q, Go X 40 mt_0 (1238, [some (.retAddr 0), some (.ref 0), some (.ref 59), some (.int i)], []) wm q → Go X 40 mt_0 (32, [some (.retAddr 0), some (.ref 0), some (.ref 59), some (.int i)], [.int (x0 &&& 63)]) w q := by
  obtain ⟨⟨I, hI, ρ, H⟩, hP, hY, hA, hO, t, hB⟩ := hw
  rcases List.mem_cons.mp hI with rfl | hI
  · obtain ⟨v1, v2, wx, wm, gs, fs, ⟨z1, a1⟩, ⟨z2, a2⟩, b1, b2, g1, g2, hI2, hF, hS⟩ := pr_goL (pr_goQ (X := []) (vs := [.int x1]) rfl rfl (ai_cons kah_758 (ai_cons kah_766 ai_nil)) pc0_33 H ⟨⟨_, rfl⟩, trivial⟩) sy_0_6 H
    obtain ⟨ρ', H'⟩ := pr_one hI2
    obtain ⟨r, wx', wm', k1, k2, kB⟩ := h33_0 (x := x1) H hB
    cases Go.det g1 k1
    cases Go.det g2 k2
    exact ⟨wm, ⟨⟨(iv_0, iv_l0), List.mem_of_getElem? (i := 0) rfl, ρ', H'⟩, up_t0 H' hP (hS _ (List.mem_of_getElem? (i := 0) rfl)) (hF 15 (List.mem_append_left _ (by decide +kernel))) (hF 16 (List.mem_append_left _ (by decide +kernel))) (hF 66 (List.mem_append_left _ (by decide +kernel))), up_y0 H' hY (hS _ (List.mem_of_getElem? (i := 1) rfl)) (hS _ (List.mem_of_getElem? (i := 2) rfl)) (hF 33 (List.mem_append_left _ (by decide +kernel))) (hF 63 (List.mem_append_left _ (by decide +kernel))), hA.same (fun p hp => hF p (List.mem_append_right _ (List.mem_append_left _ hp))), ((hS _ (List.mem_of_getElem? (i := 3) rfl))).trans (hO.trans ((hS _ (List.mem_of_getElem? (i := 4) rfl))).symm), kB⟩, (g1.sm (List.mem_of_getElem? (i := 69) rfl) (by decide +kernel) rfl).tr (g2.sm (List.mem_of_getElem? (i := 70) rfl) (by decide +kernel) rfl), fun q kk => lc_33 h1 h2 h3 h4 b1 b2 hs g1 g2 kk⟩
  · obtain rfl := List.mem_singleton.mp hI
    obtain ⟨v1, v2, wx, wm, gs, fs, ⟨z1, a1⟩, ⟨z2, a2⟩, b1, b2, g1, g2, hI2, hF, hS⟩ := pr_goL (pr_goQ (X := []) (vs := [.int x1]) rfl rfl (ai_cons kbh_493 (ai_cons kah_766 ai_nil)) pc1_33 H ⟨⟨_, rfl⟩, trivial⟩) sy_1_7 H
    obtain ⟨ρ', H'⟩ := pr_one hI2
    obtain ⟨r, wx', wm', k1, k2, kB⟩ := h33_1 (x := x1) H hB
    cases Go.det g1 k1
    cases Go.det g2 k2
    exact ⟨wm, ⟨⟨(iv_1, iv_l1), List.mem_of_getElem? (i := 1) rfl, ρ', H'⟩, up_t1 H' hP (hS _ (List.mem_of_getElem? (i := 0) rfl)) (hF 15 (List.mem_append_left _ (by decide +kernel))) (hF 16 (List.mem_append_left _ (by decide +kernel))) (hF 66 (List.mem_append_left _ (by decide +kernel))), up_y1 H' hY (hS _ (List.mem_of_getElem? (i := 1) rfl)) (hS _ (List.mem_of_getElem? (i := 2) rfl)) (hF 33 (List.mem_append_left _ (by decide +kernel))) (hF 63 (List.mem_append_left _ (by decide +kernel))), hA.same (fun p hp => hF p (List.mem_append_right _ (List.mem_append_left _ hp))), ((hS _ (List.mem_of_getElem? (i := 3) rfl))).trans (hO.trans ((hS _ (List.mem_of_getElem? (i := 4) rfl))).symm), kB⟩, (g1.sm (List.mem_of_getElem? (i := 69) rfl) (by decide +kernel) rfl).tr (g2.sm (List.mem_of_getElem? (i := 70) rfl) (by decide +kernel) rfl), fun q kk => lc_33 h1 h2 h3 h4 b1 b2 hs g1 g2 kk⟩
theorem ls_34 {X : List Int32} {i x0 x1 x2 x3 x4 : Int32} {w : ex_W} (h1 : lw_x X (i + 1) x1) (h2 : lw_x X (i + 2) x2) (h3 : lw_x X (i + 3) x3) (h4 : lw_x X (i + 4) x4) (hw : bv_I w) (hs : x0 &&& 63 = 34) : ∃ wm, bv_I wm ∧ ex_sm w wm ∧ ∀ q, Go X 40 mt_0 (1238, [some (.retAddr 0), some (.ref 0), some (.ref 59), some (.int i)], []) wm q → Go X 40 mt_0 (32, [some (.retAddr 0), some (.ref 0), some (.ref 59), some (.int i)], [.int (x0 &&& 63)]) w q := by
  obtain ⟨⟨I, hI, ρ, H⟩, hP, hY, hA, hO, t, hB⟩ := hw
  rcases List.mem_cons.mp hI with rfl | hI
  · obtain ⟨v1, v2, wx, wm, gs, fs, ⟨z1, a1⟩, ⟨z2, a2⟩, b1, b2, g1, g2, hI2, hF, hS⟩ := pr_goL (pr_goQ (X := []) (vs := [.int x1]) rfl rfl (ai_cons kah_769 (ai_cons kah_772 ai_nil)) pc0_34 H ⟨⟨_, rfl⟩, trivial⟩) sy_0_6 H
    obtain ⟨ρ', H'⟩ := pr_one hI2
    obtain ⟨r, wx', wm', k1, k2, kB⟩ := h34_0 (x := x1) H hB
    cases Go.det g1 k1
    cases Go.det g2 k2
    exact ⟨wm, ⟨⟨(iv_0, iv_l0), List.mem_of_getElem? (i := 0) rfl, ρ', H'⟩, up_t0 H' hP (hS _ (List.mem_of_getElem? (i := 0) rfl)) (hF 15 (List.mem_append_left _ (by decide +kernel))) (hF 16 (List.mem_append_left _ (by decide +kernel))) (hF 66 (List.mem_append_left _ (by decide +kernel))), up_y0 H' hY (hS _ (List.mem_of_getElem? (i := 1) rfl)) (hS _ (List.mem_of_getElem? (i := 2) rfl)) (hF 33 (List.mem_append_left _ (by decide +kernel))) (hF 63 (List.mem_append_left _ (by decide +kernel))), hA.same (fun p hp => hF p (List.mem_append_right _ (List.mem_append_left _ hp))), ((hS _ (List.mem_of_getElem? (i := 3) rfl))).trans (hO.trans ((hS _ (List.mem_of_getElem? (i := 4) rfl))).symm), kB⟩, (g1.sm (List.mem_of_getElem? (i := 71) rfl) (by decide +kernel) rfl).tr (g2.sm (List.mem_of_getElem? (i := 72) rfl) (by decide +kernel) rfl), fun q kk => lc_34 h1 h2 h3 h4 b1 b2 hs g1 g2 kk⟩
  · obtain rfl := List.mem_singleton.mp hI
    obtain ⟨v1, v2, wx, wm, gs, fs, ⟨z1, a1⟩, ⟨z2, a2⟩, b1, b2, g1, g2, hI2, hF, hS⟩ := pr_goL (pr_goQ (X := []) (vs := [.int x1]) rfl rfl (ai_cons kbh_496 (ai_cons kah_772 ai_nil)) pc1_34 H ⟨⟨_, rfl⟩, trivial⟩) sy_1_7 H
    obtain ⟨ρ', H'⟩ := pr_one hI2
    obtain ⟨r, wx', wm', k1, k2, kB⟩ := h34_1 (x := x1) H hB
    cases Go.det g1 k1
    cases Go.det g2 k2
    exact ⟨wm, ⟨⟨(iv_1, iv_l1), List.mem_of_getElem? (i := 1) rfl, ρ', H'⟩, up_t1 H' hP (hS _ (List.mem_of_getElem? (i := 0) rfl)) (hF 15 (List.mem_append_left _ (by decide +kernel))) (hF 16 (List.mem_append_left _ (by decide +kernel))) (hF 66 (List.mem_append_left _ (by decide +kernel))), up_y1 H' hY (hS _ (List.mem_of_getElem? (i := 1) rfl)) (hS _ (List.mem_of_getElem? (i := 2) rfl)) (hF 33 (List.mem_append_left _ (by decide +kernel))) (hF 63 (List.mem_append_left _ (by decide +kernel))), hA.same (fun p hp => hF p (List.mem_append_right _ (List.mem_append_left _ hp))), ((hS _ (List.mem_of_getElem? (i := 3) rfl))).trans (hO.trans ((hS _ (List.mem_of_getElem? (i := 4) rfl))).symm), kB⟩, (g1.sm (List.mem_of_getElem? (i := 71) rfl) (by decide +kernel) rfl).tr (g2.sm (List.mem_of_getElem? (i := 72) rfl) (by decide +kernel) rfl), fun q kk => lc_34 h1 h2 h3 h4 b1 b2 hs g1 g2 kk⟩
theorem ls_35 {X : List Int32} {i x0 x1 x2 x3 x4 : Int32} {w : ex_W} (h1 : lw_x X (i + 1) x1) (h2 : lw_x X (i + 2) x2) (h3 : lw_x X (i + 3) x3) (h4 : lw_x X (i + 4) x4) (hw : bv_I w) (hs : x0 &&& 63 = 35) : ∃ wm, bv_I wm ∧ ex_sm w wm ∧ ∀ q, Go X 40 mt_0 (1238, [some (.retAddr 0), some (.ref 0), some (.ref 59), some (.int i)], []) wm q → Go X 40 mt_0 (32, [some (.retAddr 0), some (.ref 0), some (.ref 59), some (.int i)], [.int (x0 &&& 63)]) w q := by
  obtain ⟨⟨I, hI, ρ, H⟩, hP, hY, hA, hO, t, hB⟩ := hw
  rcases List.mem_cons.mp hI with rfl | hI
  · obtain ⟨v1, v2, wx, wm, gs, fs, ⟨z1, a1⟩, ⟨z2, a2⟩, b1, b2, g1, g2, hI2, hF, hS⟩ := pr_goL (pr_goQ (X := []) (vs := [.int x1, .int x2, .int x3]) rfl rfl (ai_cons kah_781 (ai_cons kah_794 ai_nil)) pc0_35 H ⟨⟨_, rfl⟩, ⟨_, rfl⟩, ⟨_, rfl⟩, trivial⟩) sy_0_4 H
    obtain ⟨ρ', H'⟩ := pr_one hI2
    obtain ⟨r, wx', wm', k1, k2, kA⟩ := sh_sheet (X := []) (d := 37) (k := x1) (x := x2) (n := x3) (paC_0 H) hA
    cases Go.det g1 k1
    cases Go.det g2 k2
    exact ⟨wm, ⟨⟨(iv_0, iv_l0), List.mem_of_getElem? (i := 0) rfl, ρ', H'⟩, up_t0 H' hP (hS _ (List.mem_of_getElem? (i := 0) rfl)) (hF 15 (List.mem_append_left _ (by decide +kernel))) (hF 16 (List.mem_append_left _ (by decide +kernel))) (hF 66 (List.mem_append_left _ (by decide +kernel))), up_y0 H' hY (hS _ (List.mem_of_getElem? (i := 1) rfl)) (hS _ (List.mem_of_getElem? (i := 2) rfl)) (hF 33 (List.mem_append_left _ (by decide +kernel))) (hF 63 (List.mem_append_left _ (by decide +kernel))), kA, ((hS _ (List.mem_of_getElem? (i := 3) rfl))).trans (hO.trans ((hS _ (List.mem_of_getElem? (i := 4) rfl))).symm), up_b0 H' H hB (hS _ (List.mem_of_getElem? (i := 5) rfl)) (hS _ (List.mem_of_getElem? (i := 6) rfl)) (fun q hq => hF q (List.mem_append_right _ (List.mem_append_right _ hq)))⟩, (g1.sm (List.mem_of_getElem? (i := 73) rfl) (by decide +kernel) rfl).tr (g2.sm (List.mem_of_getElem? (i := 74) rfl) (by decide +kernel) rfl), fun q kk => lc_35 h1 h2 h3 h4 b1 b2 hs g1 g2 kk⟩
  · obtain rfl := List.mem_singleton.mp hI
    obtain ⟨v1, v2, wx, wm, gs, fs, ⟨z1, a1⟩, ⟨z2, a2⟩, b1, b2, g1, g2, hI2, hF, hS⟩ := pr_goL (pr_goQ (X := []) (vs := [.int x1, .int x2, .int x3]) rfl rfl (ai_cons kbh_505 (ai_cons kah_794 ai_nil)) pc1_35 H ⟨⟨_, rfl⟩, ⟨_, rfl⟩, ⟨_, rfl⟩, trivial⟩) sy_1_5 H
    obtain ⟨ρ', H'⟩ := pr_one hI2
    obtain ⟨r, wx', wm', k1, k2, kA⟩ := sh_sheet (X := []) (d := 37) (k := x1) (x := x2) (n := x3) (paC_1 H) hA
    cases Go.det g1 k1
    cases Go.det g2 k2
    exact ⟨wm, ⟨⟨(iv_1, iv_l1), List.mem_of_getElem? (i := 1) rfl, ρ', H'⟩, up_t1 H' hP (hS _ (List.mem_of_getElem? (i := 0) rfl)) (hF 15 (List.mem_append_left _ (by decide +kernel))) (hF 16 (List.mem_append_left _ (by decide +kernel))) (hF 66 (List.mem_append_left _ (by decide +kernel))), up_y1 H' hY (hS _ (List.mem_of_getElem? (i := 1) rfl)) (hS _ (List.mem_of_getElem? (i := 2) rfl)) (hF 33 (List.mem_append_left _ (by decide +kernel))) (hF 63 (List.mem_append_left _ (by decide +kernel))), kA, ((hS _ (List.mem_of_getElem? (i := 3) rfl))).trans (hO.trans ((hS _ (List.mem_of_getElem? (i := 4) rfl))).symm), up_b1 H' H hB (hS _ (List.mem_of_getElem? (i := 5) rfl)) (hS _ (List.mem_of_getElem? (i := 6) rfl)) (fun q hq => hF q (List.mem_append_right _ (List.mem_append_right _ hq)))⟩, (g1.sm (List.mem_of_getElem? (i := 73) rfl) (by decide +kernel) rfl).tr (g2.sm (List.mem_of_getElem? (i := 74) rfl) (by decide +kernel) rfl), fun q kk => lc_35 h1 h2 h3 h4 b1 b2 hs g1 g2 kk⟩
theorem ls_36 {X : List Int32} {i x0 x1 x2 x3 x4 : Int32} {w : ex_W} (h1 : lw_x X (i + 1) x1) (h2 : lw_x X (i + 2) x2) (h3 : lw_x X (i + 3) x3) (h4 : lw_x X (i + 4) x4) (hw : bv_I w) (hs : x0 &&& 63 = 36) : ∃ wm, bv_I wm ∧ ex_sm w wm ∧ ∀ q, Go X 40 mt_0 (1238, [some (.retAddr 0), some (.ref 0), some (.ref 59), some (.int i)], []) wm q → Go X 40 mt_0 (32, [some (.retAddr 0), some (.ref 0), some (.ref 59), some (.int i)], [.int (x0 &&& 63)]) w q := by
  obtain ⟨⟨I, hI, ρ, H⟩, hP, hY, hA, hO, t, hB⟩ := hw
  rcases List.mem_cons.mp hI with rfl | hI
  · obtain ⟨v1, v2, wx, wm, gs, fs, ⟨z1, a1⟩, ⟨z2, a2⟩, b1, b2, g1, g2, hI2, hF, hS⟩ := pr_goL (pr_goQ (X := []) (vs := [.int x1, .int x2, .int x3]) rfl rfl (ai_cons kah_803 (ai_cons kah_812 ai_nil)) pc0_36 H ⟨⟨_, rfl⟩, ⟨_, rfl⟩, ⟨_, rfl⟩, trivial⟩) sy_0_4 H
    obtain ⟨ρ', H'⟩ := pr_one hI2
    obtain ⟨r, wx', wm', k1, k2, kA⟩ := sh_lay (X := []) (d := 37) (k := x1) (i := x2) (v := x3) (paC_0 H) hA
    cases Go.det g1 k1
    cases Go.det g2 k2
    exact ⟨wm, ⟨⟨(iv_0, iv_l0), List.mem_of_getElem? (i := 0) rfl, ρ', H'⟩, up_t0 H' hP (hS _ (List.mem_of_getElem? (i := 0) rfl)) (hF 15 (List.mem_append_left _ (by decide +kernel))) (hF 16 (List.mem_append_left _ (by decide +kernel))) (hF 66 (List.mem_append_left _ (by decide +kernel))), up_y0 H' hY (hS _ (List.mem_of_getElem? (i := 1) rfl)) (hS _ (List.mem_of_getElem? (i := 2) rfl)) (hF 33 (List.mem_append_left _ (by decide +kernel))) (hF 63 (List.mem_append_left _ (by decide +kernel))), kA, ((hS _ (List.mem_of_getElem? (i := 3) rfl))).trans (hO.trans ((hS _ (List.mem_of_getElem? (i := 4) rfl))).symm), up_b0 H' H hB (hS _ (List.mem_of_getElem? (i := 5) rfl)) (hS _ (List.mem_of_getElem? (i := 6) rfl)) (fun q hq => hF q (List.mem_append_right _ (List.mem_append_right _ hq)))⟩, (g1.sm (List.mem_of_getElem? (i := 75) rfl) (by decide +kernel) rfl).tr (g2.sm (List.mem_of_getElem? (i := 76) rfl) (by decide +kernel) rfl), fun q kk => lc_36 h1 h2 h3 h4 b1 b2 hs g1 g2 kk⟩
  · obtain rfl := List.mem_singleton.mp hI
    obtain ⟨v1, v2, wx, wm, gs, fs, ⟨z1, a1⟩, ⟨z2, a2⟩, b1, b2, g1, g2, hI2, hF, hS⟩ := pr_goL (pr_goQ (X := []) (vs := [.int x1, .int x2, .int x3]) rfl rfl (ai_cons kbh_514 (ai_cons kah_812 ai_nil)) pc1_36 H ⟨⟨_, rfl⟩, ⟨_, rfl⟩, ⟨_, rfl⟩, trivial⟩) sy_1_5 H
    obtain ⟨ρ', H'⟩ := pr_one hI2
    obtain ⟨r, wx', wm', k1, k2, kA⟩ := sh_lay (X := []) (d := 37) (k := x1) (i := x2) (v := x3) (paC_1 H) hA
    cases Go.det g1 k1
    cases Go.det g2 k2
    exact ⟨wm, ⟨⟨(iv_1, iv_l1), List.mem_of_getElem? (i := 1) rfl, ρ', H'⟩, up_t1 H' hP (hS _ (List.mem_of_getElem? (i := 0) rfl)) (hF 15 (List.mem_append_left _ (by decide +kernel))) (hF 16 (List.mem_append_left _ (by decide +kernel))) (hF 66 (List.mem_append_left _ (by decide +kernel))), up_y1 H' hY (hS _ (List.mem_of_getElem? (i := 1) rfl)) (hS _ (List.mem_of_getElem? (i := 2) rfl)) (hF 33 (List.mem_append_left _ (by decide +kernel))) (hF 63 (List.mem_append_left _ (by decide +kernel))), kA, ((hS _ (List.mem_of_getElem? (i := 3) rfl))).trans (hO.trans ((hS _ (List.mem_of_getElem? (i := 4) rfl))).symm), up_b1 H' H hB (hS _ (List.mem_of_getElem? (i := 5) rfl)) (hS _ (List.mem_of_getElem? (i := 6) rfl)) (fun q hq => hF q (List.mem_append_right _ (List.mem_append_right _ hq)))⟩, (g1.sm (List.mem_of_getElem? (i := 75) rfl) (by decide +kernel) rfl).tr (g2.sm (List.mem_of_getElem? (i := 76) rfl) (by decide +kernel) rfl), fun q kk => lc_36 h1 h2 h3 h4 b1 b2 hs g1 g2 kk⟩
theorem ls_37 {X : List Int32} {i x0 x1 x2 x3 x4 : Int32} {w : ex_W} (h1 : lw_x X (i + 1) x1) (h2 : lw_x X (i + 2) x2) (h3 : lw_x X (i + 3) x3) (h4 : lw_x X (i + 4) x4) (hw : bv_I w) (hs : x0 &&& 63 = 37) : ∃ wm, bv_I wm ∧ ex_sm w wm ∧ ∀ q, Go X 40 mt_0 (1238, [some (.retAddr 0), some (.ref 0), some (.ref 59), some (.int i)], []) wm q → Go X 40 mt_0 (32, [some (.retAddr 0), some (.ref 0), some (.ref 59), some (.int i)], [.int (x0 &&& 63)]) w q := by
  obtain ⟨⟨I, hI, ρ, H⟩, hP, hY, hA, hO, t, hB⟩ := hw
  rcases List.mem_cons.mp hI with rfl | hI
  · obtain ⟨v1, v2, wx, wm, gs, fs, ⟨z1, a1⟩, ⟨z2, a2⟩, b1, b2, g1, g2, hI2, hF, hS⟩ := pr_goL (pr_goQ (X := []) (vs := [.int x1, .int x2, .int x3, .int x4]) rfl rfl (ai_cons kah_823 (ai_cons kah_825 ai_nil)) pc0_37 H ⟨⟨_, rfl⟩, ⟨_, rfl⟩, ⟨_, rfl⟩, ⟨_, rfl⟩, trivial⟩) sy_0_10 H
    obtain ⟨ρ', H'⟩ := pr_one hI2
    obtain ⟨r, wx', wm', k1, k2, kO, kB⟩ := h37_0 H hB hA hO
    cases Go.det g1 k1
    cases Go.det g2 k2
    exact ⟨wm, ⟨⟨(iv_0, iv_l0), List.mem_of_getElem? (i := 0) rfl, ρ', H'⟩, up_t0 H' hP (hS _ (List.mem_of_getElem? (i := 0) rfl)) (hF 15 (List.mem_append_left _ (by decide +kernel))) (hF 16 (List.mem_append_left _ (by decide +kernel))) (hF 66 (List.mem_append_left _ (by decide +kernel))), up_y0 H' hY (hS _ (List.mem_of_getElem? (i := 1) rfl)) (hS _ (List.mem_of_getElem? (i := 2) rfl)) (hF 33 (List.mem_append_left _ (by decide +kernel))) (hF 63 (List.mem_append_left _ (by decide +kernel))), hA.same (fun p hp => hF p (List.mem_append_right _ (List.mem_append_left _ hp))), kO, kB⟩, (g1.sm (List.mem_of_getElem? (i := 77) rfl) (by decide +kernel) rfl).tr (g2.sm (List.mem_of_getElem? (i := 78) rfl) (by decide +kernel) rfl), fun q kk => lc_37 h1 h2 h3 h4 b1 b2 hs g1 g2 kk⟩
  · obtain rfl := List.mem_singleton.mp hI
    obtain ⟨v1, v2, wx, wm, gs, fs, ⟨z1, a1⟩, ⟨z2, a2⟩, b1, b2, g1, g2, hI2, hF, hS⟩ := pr_goL (pr_goQ (X := []) (vs := [.int x1, .int x2, .int x3, .int x4]) rfl rfl (ai_cons kbh_525 (ai_cons kah_825 ai_nil)) pc1_37 H ⟨⟨_, rfl⟩, ⟨_, rfl⟩, ⟨_, rfl⟩, ⟨_, rfl⟩, trivial⟩) sy_1_11 H
    obtain ⟨ρ', H'⟩ := pr_one hI2
    obtain ⟨r, wx', wm', k1, k2, kO, kB⟩ := h37_1 H hB hA hO
    cases Go.det g1 k1
    cases Go.det g2 k2
    exact ⟨wm, ⟨⟨(iv_1, iv_l1), List.mem_of_getElem? (i := 1) rfl, ρ', H'⟩, up_t1 H' hP (hS _ (List.mem_of_getElem? (i := 0) rfl)) (hF 15 (List.mem_append_left _ (by decide +kernel))) (hF 16 (List.mem_append_left _ (by decide +kernel))) (hF 66 (List.mem_append_left _ (by decide +kernel))), up_y1 H' hY (hS _ (List.mem_of_getElem? (i := 1) rfl)) (hS _ (List.mem_of_getElem? (i := 2) rfl)) (hF 33 (List.mem_append_left _ (by decide +kernel))) (hF 63 (List.mem_append_left _ (by decide +kernel))), hA.same (fun p hp => hF p (List.mem_append_right _ (List.mem_append_left _ hp))), kO, kB⟩, (g1.sm (List.mem_of_getElem? (i := 77) rfl) (by decide +kernel) rfl).tr (g2.sm (List.mem_of_getElem? (i := 78) rfl) (by decide +kernel) rfl), fun q kk => lc_37 h1 h2 h3 h4 b1 b2 hs g1 g2 kk⟩
theorem ls_38 {X : List Int32} {i x0 x1 x2 x3 x4 : Int32} {w : ex_W} (h1 : lw_x X (i + 1) x1) (h2 : lw_x X (i + 2) x2) (h3 : lw_x X (i + 3) x3) (h4 : lw_x X (i + 4) x4) (hw : bv_I w) (hs : x0 &&& 63 = 38) : ∃ wm, bv_I wm ∧ ex_sm w wm ∧ ∀ q, Go X 40 mt_0 (1238, [some (.retAddr 0), some (.ref 0), some (.ref 59), some (.int i)], []) wm q → Go X 40 mt_0 (32, [some (.retAddr 0), some (.ref 0), some (.ref 59), some (.int i)], [.int (x0 &&& 63)]) w q := by
  obtain ⟨⟨I, hI, ρ, H⟩, hP, hY, hA, hO, t, hB⟩ := hw
  rcases List.mem_cons.mp hI with rfl | hI
  · obtain ⟨v1, v2, wx, wm, gs, fs, ⟨z1, a1⟩, ⟨z2, a2⟩, b1, b2, g1, g2, hI2, hF, hS⟩ := pr_goL (pr_goQ (X := []) (vs := []) rfl rfl (ai_cons kah_826 (ai_cons kah_827 ai_nil)) pc0_38 H trivial) sy_0_4 H
    obtain ⟨ρ', H'⟩ := pr_one hI2
    obtain ⟨u1, rfl, -⟩ := ai_nzI a1
    obtain ⟨u2, rfl, -⟩ := ai_nzI a2
    exact ⟨wm, ⟨⟨(iv_0, iv_l0), List.mem_of_getElem? (i := 0) rfl, ρ', H'⟩, up_t0 H' hP (hS _ (List.mem_of_getElem? (i := 0) rfl)) (hF 15 (List.mem_append_left _ (by decide +kernel))) (hF 16 (List.mem_append_left _ (by decide +kernel))) (hF 66 (List.mem_append_left _ (by decide +kernel))), up_y0 H' hY (hS _ (List.mem_of_getElem? (i := 1) rfl)) (hS _ (List.mem_of_getElem? (i := 2) rfl)) (hF 33 (List.mem_append_left _ (by decide +kernel))) (hF 63 (List.mem_append_left _ (by decide +kernel))), hA.same (fun p hp => hF p (List.mem_append_right _ (List.mem_append_left _ hp))), ((hS _ (List.mem_of_getElem? (i := 3) rfl))).trans (hO.trans ((hS _ (List.mem_of_getElem? (i := 4) rfl))).symm), up_b0 H' H hB (hS _ (List.mem_of_getElem? (i := 5) rfl)) (hS _ (List.mem_of_getElem? (i := 6) rfl)) (fun q hq => hF q (List.mem_append_right _ (List.mem_append_right _ hq)))⟩, (g1.sm (List.mem_of_getElem? (i := 79) rfl) (by decide +kernel) rfl).tr (g2.sm (List.mem_of_getElem? (i := 80) rfl) (by decide +kernel) rfl), fun q kk => lc_38 h1 h2 h3 h4 b1 b2 hs g1 g2 kk⟩
  · obtain rfl := List.mem_singleton.mp hI
    obtain ⟨v1, v2, wx, wm, gs, fs, ⟨z1, a1⟩, ⟨z2, a2⟩, b1, b2, g1, g2, hI2, hF, hS⟩ := pr_goL (pr_goQ (X := []) (vs := []) rfl rfl (ai_cons kbh_526 (ai_cons kah_827 ai_nil)) pc1_38 H trivial) sy_1_5 H
    obtain ⟨ρ', H'⟩ := pr_one hI2
    obtain ⟨u1, rfl, -⟩ := ai_nzI a1
    obtain ⟨u2, rfl, -⟩ := ai_nzI a2
    exact ⟨wm, ⟨⟨(iv_1, iv_l1), List.mem_of_getElem? (i := 1) rfl, ρ', H'⟩, up_t1 H' hP (hS _ (List.mem_of_getElem? (i := 0) rfl)) (hF 15 (List.mem_append_left _ (by decide +kernel))) (hF 16 (List.mem_append_left _ (by decide +kernel))) (hF 66 (List.mem_append_left _ (by decide +kernel))), up_y1 H' hY (hS _ (List.mem_of_getElem? (i := 1) rfl)) (hS _ (List.mem_of_getElem? (i := 2) rfl)) (hF 33 (List.mem_append_left _ (by decide +kernel))) (hF 63 (List.mem_append_left _ (by decide +kernel))), hA.same (fun p hp => hF p (List.mem_append_right _ (List.mem_append_left _ hp))), ((hS _ (List.mem_of_getElem? (i := 3) rfl))).trans (hO.trans ((hS _ (List.mem_of_getElem? (i := 4) rfl))).symm), up_b1 H' H hB (hS _ (List.mem_of_getElem? (i := 5) rfl)) (hS _ (List.mem_of_getElem? (i := 6) rfl)) (fun q hq => hF q (List.mem_append_right _ (List.mem_append_right _ hq)))⟩, (g1.sm (List.mem_of_getElem? (i := 79) rfl) (by decide +kernel) rfl).tr (g2.sm (List.mem_of_getElem? (i := 80) rfl) (by decide +kernel) rfl), fun q kk => lc_38 h1 h2 h3 h4 b1 b2 hs g1 g2 kk⟩
theorem ls_39 {X : List Int32} {i x0 x1 x2 x3 x4 : Int32} {w : ex_W} (h1 : lw_x X (i + 1) x1) (h2 : lw_x X (i + 2) x2) (h3 : lw_x X (i + 3) x3) (h4 : lw_x X (i + 4) x4) (hw : bv_I w) (hs : x0 &&& 63 = 39) : ∃ wm, bv_I wm ∧ ex_sm w wm ∧ ∀ q, Go X 40 mt_0 (1238, [some (.retAddr 0), some (.ref 0), some (.ref 59), some (.int i)], []) wm q → Go X 40 mt_0 (32, [some (.retAddr 0), some (.ref 0), some (.ref 59), some (.int i)], [.int (x0 &&& 63)]) w q := by
  obtain ⟨⟨I, hI, ρ, H⟩, hP, hY, hA, hO, t, hB⟩ := hw
  rcases List.mem_cons.mp hI with rfl | hI
  · obtain ⟨v1, v2, wx, wm, gs, fs, ⟨z1, a1⟩, ⟨z2, a2⟩, b1, b2, g1, g2, hI2, hF, hS⟩ := pr_goL (pr_goQ (X := []) (vs := [.int x1]) rfl rfl (ai_cons kah_830 (ai_cons kah_831 ai_nil)) pc0_39 H ⟨⟨_, rfl⟩, trivial⟩) sy_0_4 H
    obtain ⟨ρ', H'⟩ := pr_one hI2
    obtain ⟨u1, rfl, -⟩ := ai_nzI a1
    obtain ⟨u2, rfl, -⟩ := ai_nzI a2
    exact ⟨wm, ⟨⟨(iv_0, iv_l0), List.mem_of_getElem? (i := 0) rfl, ρ', H'⟩, up_t0 H' hP (hS _ (List.mem_of_getElem? (i := 0) rfl)) (hF 15 (List.mem_append_left _ (by decide +kernel))) (hF 16 (List.mem_append_left _ (by decide +kernel))) (hF 66 (List.mem_append_left _ (by decide +kernel))), up_y0 H' hY (hS _ (List.mem_of_getElem? (i := 1) rfl)) (hS _ (List.mem_of_getElem? (i := 2) rfl)) (hF 33 (List.mem_append_left _ (by decide +kernel))) (hF 63 (List.mem_append_left _ (by decide +kernel))), hA.same (fun p hp => hF p (List.mem_append_right _ (List.mem_append_left _ hp))), ((hS _ (List.mem_of_getElem? (i := 3) rfl))).trans (hO.trans ((hS _ (List.mem_of_getElem? (i := 4) rfl))).symm), up_b0 H' H hB (hS _ (List.mem_of_getElem? (i := 5) rfl)) (hS _ (List.mem_of_getElem? (i := 6) rfl)) (fun q hq => hF q (List.mem_append_right _ (List.mem_append_right _ hq)))⟩, (g1.sm (List.mem_of_getElem? (i := 81) rfl) (by decide +kernel) rfl).tr (g2.sm (List.mem_of_getElem? (i := 82) rfl) (by decide +kernel) rfl), fun q kk => lc_39 h1 h2 h3 h4 b1 b2 hs g1 g2 kk⟩
  · obtain rfl := List.mem_singleton.mp hI
    obtain ⟨v1, v2, wx, wm, gs, fs, ⟨z1, a1⟩, ⟨z2, a2⟩, b1, b2, g1, g2, hI2, hF, hS⟩ := pr_goL (pr_goQ (X := []) (vs := [.int x1]) rfl rfl (ai_cons kbh_529 (ai_cons kah_831 ai_nil)) pc1_39 H ⟨⟨_, rfl⟩, trivial⟩) sy_1_5 H
    obtain ⟨ρ', H'⟩ := pr_one hI2
    obtain ⟨u1, rfl, -⟩ := ai_nzI a1
    obtain ⟨u2, rfl, -⟩ := ai_nzI a2
    exact ⟨wm, ⟨⟨(iv_1, iv_l1), List.mem_of_getElem? (i := 1) rfl, ρ', H'⟩, up_t1 H' hP (hS _ (List.mem_of_getElem? (i := 0) rfl)) (hF 15 (List.mem_append_left _ (by decide +kernel))) (hF 16 (List.mem_append_left _ (by decide +kernel))) (hF 66 (List.mem_append_left _ (by decide +kernel))), up_y1 H' hY (hS _ (List.mem_of_getElem? (i := 1) rfl)) (hS _ (List.mem_of_getElem? (i := 2) rfl)) (hF 33 (List.mem_append_left _ (by decide +kernel))) (hF 63 (List.mem_append_left _ (by decide +kernel))), hA.same (fun p hp => hF p (List.mem_append_right _ (List.mem_append_left _ hp))), ((hS _ (List.mem_of_getElem? (i := 3) rfl))).trans (hO.trans ((hS _ (List.mem_of_getElem? (i := 4) rfl))).symm), up_b1 H' H hB (hS _ (List.mem_of_getElem? (i := 5) rfl)) (hS _ (List.mem_of_getElem? (i := 6) rfl)) (fun q hq => hF q (List.mem_append_right _ (List.mem_append_right _ hq)))⟩, (g1.sm (List.mem_of_getElem? (i := 81) rfl) (by decide +kernel) rfl).tr (g2.sm (List.mem_of_getElem? (i := 82) rfl) (by decide +kernel) rfl), fun q kk => lc_39 h1 h2 h3 h4 b1 b2 hs g1 g2 kk⟩
def law_ok (N : Nat) : Prop := ∀ X : List Int32, X.length ≤ N → ∃ (n : Nat) (we : ex_W), ex_run X n 40 mt_0 (ex_ent mt_0 [.retAddr 0]) [] = some (some (.int 1), we) ∧ we.length ≤ 600000 ∧ ex_sl we ≤ 7302250
theorem lw_sub5 {L : Nat} (h : L ≤ 2560) : (Int32.ofNat L - 5).toInt = (L : Int) - 5 := by
  have e : (Int32.ofNat L).toInt = (L : Int) := nI_toInt (n := L) (by omega)
  have e5 : (5 : Int32).toInt = 5 := by decide
  have h1 := (ai_wrapI (Int32.toInt_sub (Int32.ofNat L) 5)).2 ⟨by show (-2147483648 : Int) ≤ _; rw [e, e5]; omega, by show _ ≤ (2147483647 : Int); rw [e, e5]; omega⟩
  rw [h1, e, e5]
theorem lw_gt {L m : Nat} (h : L ≤ 2560) (hm : m ≤ L) (h5 : ¬ m + 5 ≤ L) : ex_c2 .gt (nI m) (Int32.ofNat L - 5) = true := by
  rw [kc_gt, lw_sub5 h, nI_toInt (by omega)]
  exact decide_eq_true (by omega)
theorem lw_ng {L m : Nat} (h : L ≤ 2560) (h5 : m + 5 ≤ L) : ex_c2 .gt (nI m) (Int32.ofNat L - 5) = false := by
  rw [kc_gt, lw_sub5 h, nI_toInt (by omega)]
  exact decide_eq_false (by omega)
theorem lw_at {X : List Int32} {m : Nat} (c : Nat) {ci : Int32} (hc : ci = nI c) (h : m + c < X.length) (hX : X.length ≤ 2560) : lw_x X (nI m + ci) (ex_gd X (nI m + ci).toNatClampNeg) := lw_x_of (by
  rw [hc, nI_add]
  exact decide_eq_true (nI_in h (by omega)))
theorem lw_a0 {X : List Int32} {m : Nat} (h : m < X.length) (hX : X.length ≤ 2560) : lw_x X (nI m) (ex_gd X (nI m).toNatClampNeg) := lw_x_of (decide_eq_true (nI_in h (by omega)))
theorem law_go {X : List Int32} (hX : X.length ≤ 2560) : ∀ (f m : Nat) (w : ex_W), X.length - m ≤ f → m ≤ X.length → bv_I w → ∃ we, ex_sm w we ∧ Go X 40 mt_0 (18, [some (.retAddr 0), some (.ref 0), some (.ref 59), some (.int (nI m))], []) w (some (.int 1), we) := by
  intro f
  induction f with
  | zero =>
    intro m w hf hm hw
    exact ⟨w, ex_sm.rf w, law_out (lw_gt hX hm (by omega))⟩
  | succ f ih =>
    intro m w hf hm hw
    by_cases h5 : m + 5 ≤ X.length
    · have h0 := lw_a0 (X := X) (m := m) (by omega) hX
      have h1 := lw_at (X := X) (m := m) 1 (ci := 1) rfl (by omega) hX
      have h2 := lw_at (X := X) (m := m) 2 (ci := 2) rfl (by omega) hX
      have h3 := lw_at (X := X) (m := m) 3 (ci := 3) rfl (by omega) hX
      have h4 := lw_at (X := X) (m := m) 4 (ci := 4) rfl (by omega) hX
      obtain ⟨k, hk, hs⟩ := pk_andE (ex_gd X (nI m).toNatClampNeg) (m := 63) 6 (by decide +kernel)
      have hk : k < 64 := hk
      have st : ∃ wm, bv_I wm ∧ ex_sm w wm ∧ ∀ q, Go X 40 mt_0 (1238, [some (.retAddr 0), some (.ref 0), some (.ref 59), some (.int (nI m))], []) wm q → Go X 40 mt_0 (32, [some (.retAddr 0), some (.ref 0), some (.ref 59), some (.int (nI m))], [.int (ex_gd X (nI m).toNatClampNeg &&& 63)]) w q := by
        match k, hk, hs with
        | 0, _, hs => exact ls_0 h1 h2 h3 h4 hw hs
        | 1, _, hs => exact ls_1 h1 h2 h3 h4 hw hs
        | 2, _, hs => exact ls_2 h1 h2 h3 h4 hw hs
        | 3, _, hs => exact ls_3 h1 h2 h3 h4 hw hs
        | 4, _, hs => exact ls_4 h1 h2 h3 h4 hw hs
        | 5, _, hs => exact ls_5 h1 h2 h3 h4 hw hs
        | 6, _, hs => exact ls_6 h1 h2 h3 h4 hw hs
        | 7, _, hs => exact ls_7 h1 h2 h3 h4 hw hs
        | 8, _, hs => exact ls_8 h1 h2 h3 h4 hw hs
        | 9, _, hs => exact ls_9 h1 h2 h3 h4 hw hs
        | 10, _, hs => exact ls_10 h1 h2 h3 h4 hw hs
        | 11, _, hs => exact ls_11 h1 h2 h3 h4 hw hs
        | 12, _, hs => exact ls_12 h1 h2 h3 h4 hw hs
        | 13, _, hs => exact ls_13 h1 h2 h3 h4 hw hs
        | 14, _, hs => exact ls_14 h1 h2 h3 h4 hw hs
        | 15, _, hs => exact ls_15 h1 h2 h3 h4 hw hs
        | 16, _, hs => exact ls_16 h1 h2 h3 h4 hw hs
        | 17, _, hs => exact ls_17 h1 h2 h3 h4 hw hs
        | 18, _, hs => exact ls_18 h1 h2 h3 h4 hw hs
        | 19, _, hs => exact ls_19 h1 h2 h3 h4 hw hs
        | 20, _, hs => exact ls_20 h1 h2 h3 h4 hw hs
        | 21, _, hs => exact ls_21 h1 h2 h3 h4 hw hs
        | 22, _, hs => exact ls_22 h1 h2 h3 h4 hw hs
        | 23, _, hs => exact ls_23 h1 h2 h3 h4 hw hs
        | 24, _, hs => exact ls_24 h1 h2 h3 h4 hw hs
        | 25, _, hs => exact ls_25 h1 h2 h3 h4 hw hs
        | 26, _, hs => exact ls_26 h1 h2 h3 h4 hw hs
        | 27, _, hs => exact ls_27 h1 h2 h3 h4 hw hs
        | 28, _, hs => exact ls_28 h1 h2 h3 h4 hw hs
        | 29, _, hs => exact ls_29 h1 h2 h3 h4 hw hs
        | 30, _, hs => exact ls_30 h1 h2 h3 h4 hw hs
        | 31, _, hs => exact ls_31 h1 h2 h3 h4 hw hs
        | 32, _, hs => exact ls_32 h1 h2 h3 h4 hw hs
        | 33, _, hs => exact ls_33 h1 h2 h3 h4 hw hs
        | 34, _, hs => exact ls_34 h1 h2 h3 h4 hw hs
        | 35, _, hs => exact ls_35 h1 h2 h3 h4 hw hs
        | 36, _, hs => exact ls_36 h1 h2 h3 h4 hw hs
        | 37, _, hs => exact ls_37 h1 h2 h3 h4 hw hs
        | 38, _, hs => exact ls_38 h1 h2 h3 h4 hw hs
        | 39, _, hs => exact ls_39 h1 h2 h3 h4 hw hs
        | n + 40, hk, hs => exact ⟨w, hw, ex_sm.rf w, fun q kk => lc_dflt ⟨by omega, hk⟩ hs kk⟩
      obtain ⟨wm, hI, hsm, hgo⟩ := st
      obtain ⟨we, e1, e2⟩ := ih (m + 5) wm (by omega) h5 hI
      refine ⟨we, hsm.tr e1, law_in h0 (lw_ng hX h5) (hgo _ (law_end ?_))⟩
      rw [show nI m + 5 = nI (m + 5) from nI_add m 5]
      exact e2
    · exact ⟨w, ex_sm.rf w, law_out (lw_gt hX hm h5)⟩
theorem law_all : law_ok 2560 := by
  intro X hX
  obtain ⟨we, e1, e2⟩ := law_go hX X.length 0 fr_w (by omega) (by omega) ⟨pr_first iv_fr, tp_fr, yr_fr, sh_fr, to_fr, 1, b_fr⟩
  rw [nI_0] at e2
  obtain ⟨n, hn⟩ := law_pre e2
  exact ⟨n, we, hn, by rw [e1.1]; decide, by rw [e1.2]; decide +kernel⟩
