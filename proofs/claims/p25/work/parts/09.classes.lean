/-! WHAT IS SO OF THE CLASSES OF OBJECTS. Written by wip/gen.py. -/
def ex_cx (ci : Nat) : Prop := vwCl[ci]? = some (ex_on ci, ex_TT ci, ex_nf ci) ∧ (∀ k, k < ex_nf ci → parseFieldDescriptor (ex_TT ci k).2.2.1 = some (ex_fty ci k)) ∧ (∀ a, a < ex_nf ci → ∀ b, b < ex_nf ci → a ≠ b → (ex_TT ci a).2.1 ≠ (ex_TT ci b).2.1) ∧ Cond.instantiable (ex_on ci) (ex_nf ci) ∈ lw_tbl ∧ Cond.initialized (ex_on ci) ∈ lw_tbl ∧ (∀ j, j < ex_nf ci → defaultValue (ex_fty ci j) = vp_V (ex_dfl ci) j) ∧ (ex_dfl ci).length = ex_nf ci ∧ (∀ k, k < ex_nf ci → u_lay (ex_on ci) (ex_TT ci) k ∈ lw_tbl ∧ (ex_TT ci k).1 = ex_on ci) ∧ ∀ k, (ex_TT ci k).2.2.2 = ex_ffin ci k
theorem ly_0 : ∀ k, k < 5 → u_lay (ex_on 0) (ex_TT 0) k ∈ lw_tbl ∧ (ex_TT 0 k).1 = ex_on 0 := by
  intro k h
  match k, h with
  | 0, _ => exact ⟨wd_238, rfl⟩
  | 1, _ => exact ⟨wd_240, rfl⟩
  | 2, _ => exact ⟨wd_242, rfl⟩
  | 3, _ => exact ⟨wd_244, rfl⟩
  | 4, _ => exact ⟨wd_246, rfl⟩
  | n + 5, h => exact absurd h (by omega)
theorem cx_0 : ex_cx 0 := ⟨rfl, tyX0_ok, nmX0, wd_228, wd_71, by decide, rfl, ly_0, fun _ => rfl⟩
theorem ly_1 : ∀ k, k < 8 → u_lay (ex_on 1) (ex_TT 1) k ∈ lw_tbl ∧ (ex_TT 1 k).1 = ex_on 1 := by
  intro k h
  match k, h with
  | 0, _ => exact ⟨wd_291, rfl⟩
  | 1, _ => exact ⟨wd_293, rfl⟩
  | 2, _ => exact ⟨wd_295, rfl⟩
  | 3, _ => exact ⟨wd_297, rfl⟩
  | 4, _ => exact ⟨wd_299, rfl⟩
  | 5, _ => exact ⟨wd_301, rfl⟩
  | 6, _ => exact ⟨wd_303, rfl⟩
  | 7, _ => exact ⟨wd_305, rfl⟩
  | n + 8, h => exact absurd h (by omega)
theorem cx_1 : ex_cx 1 := ⟨rfl, tyX1_ok, nmX1, wd_278, wd_73, by decide, rfl, ly_1, fun _ => rfl⟩
theorem ly_2 : ∀ k, k < 7 → u_lay (ex_on 2) (ex_TT 2) k ∈ lw_tbl ∧ (ex_TT 2 k).1 = ex_on 2 := by
  intro k h
  match k, h with
  | 0, _ => exact ⟨wd_262, rfl⟩
  | 1, _ => exact ⟨wd_264, rfl⟩
  | 2, _ => exact ⟨wd_266, rfl⟩
  | 3, _ => exact ⟨wd_268, rfl⟩
  | 4, _ => exact ⟨wd_270, rfl⟩
  | 5, _ => exact ⟨wd_272, rfl⟩
  | 6, _ => exact ⟨wd_274, rfl⟩
  | n + 7, h => exact absurd h (by omega)
theorem cx_2 : ex_cx 2 := ⟨rfl, tyX2_ok, nmX2, wd_250, wd_72, by decide, rfl, ly_2, fun _ => rfl⟩
theorem ly_3 : ∀ k, k < 5 → u_lay (ex_on 3) (ex_TT 3) k ∈ lw_tbl ∧ (ex_TT 3 k).1 = ex_on 3 := by
  intro k h
  match k, h with
  | 0, _ => exact ⟨wd_322, rfl⟩
  | 1, _ => exact ⟨wd_324, rfl⟩
  | 2, _ => exact ⟨wd_326, rfl⟩
  | 3, _ => exact ⟨wd_328, rfl⟩
  | 4, _ => exact ⟨wd_330, rfl⟩
  | n + 5, h => exact absurd h (by omega)
theorem cx_3 : ex_cx 3 := ⟨rfl, tyX3_ok, nmX3, wd_309, wd_74, by decide, rfl, ly_3, fun _ => rfl⟩
theorem ly_4 : ∀ k, k < 3 → u_lay (ex_on 4) (ex_TT 4) k ∈ lw_tbl ∧ (ex_TT 4 k).1 = ex_on 4 := by
  intro k h
  match k, h with
  | 0, _ => exact ⟨wd_345, rfl⟩
  | 1, _ => exact ⟨wd_347, rfl⟩
  | 2, _ => exact ⟨wd_349, rfl⟩
  | n + 3, h => exact absurd h (by omega)
theorem cx_4 : ex_cx 4 := ⟨rfl, tyX4_ok, nmX4, wd_336, wd_75, by decide, rfl, ly_4, fun _ => rfl⟩
theorem ly_5 : ∀ k, k < 10 → u_lay (ex_on 5) (ex_TT 5) k ∈ lw_tbl ∧ (ex_TT 5 k).1 = ex_on 5 := by
  intro k h
  match k, h with
  | 0, _ => exact ⟨wd_205, rfl⟩
  | 1, _ => exact ⟨wd_207, rfl⟩
  | 2, _ => exact ⟨wd_209, rfl⟩
  | 3, _ => exact ⟨wd_211, rfl⟩
  | 4, _ => exact ⟨wd_213, rfl⟩
  | 5, _ => exact ⟨wd_215, rfl⟩
  | 6, _ => exact ⟨wd_217, rfl⟩
  | 7, _ => exact ⟨wd_219, rfl⟩
  | 8, _ => exact ⟨wd_221, rfl⟩
  | 9, _ => exact ⟨wd_223, rfl⟩
  | n + 10, h => exact absurd h (by omega)
theorem cx_5 : ex_cx 5 := ⟨rfl, tyX5_ok, nmX5, wd_187, wd_70, by decide, rfl, ly_5, fun _ => rfl⟩
theorem ly_6 : ∀ k, k < 14 → u_lay (ex_on 6) (ex_TT 6) k ∈ lw_tbl ∧ (ex_TT 6 k).1 = ex_on 6 := by
  intro k h
  match k, h with
  | 0, _ => exact ⟨wd_156, rfl⟩
  | 1, _ => exact ⟨wd_158, rfl⟩
  | 2, _ => exact ⟨wd_160, rfl⟩
  | 3, _ => exact ⟨wd_162, rfl⟩
  | 4, _ => exact ⟨wd_164, rfl⟩
  | 5, _ => exact ⟨wd_166, rfl⟩
  | 6, _ => exact ⟨wd_168, rfl⟩
  | 7, _ => exact ⟨wd_170, rfl⟩
  | 8, _ => exact ⟨wd_172, rfl⟩
  | 9, _ => exact ⟨wd_174, rfl⟩
  | 10, _ => exact ⟨wd_176, rfl⟩
  | 11, _ => exact ⟨wd_178, rfl⟩
  | 12, _ => exact ⟨wd_180, rfl⟩
  | 13, _ => exact ⟨wd_182, rfl⟩
  | n + 14, h => exact absurd h (by omega)
theorem cx_6 : ex_cx 6 := ⟨rfl, tyX6_ok, nmX6, wd_93, wd_68, by decide, rfl, ly_6, fun _ => rfl⟩
theorem ly_7 : ∀ k, k < 14 → u_lay (ex_on 7) (ex_TT 7) k ∈ lw_tbl ∧ (ex_TT 7 k).1 = ex_on 7 := by
  intro k h
  match k, h with
  | 0, _ => exact ⟨wd_367, rfl⟩
  | 1, _ => exact ⟨wd_369, rfl⟩
  | 2, _ => exact ⟨wd_371, rfl⟩
  | 3, _ => exact ⟨wd_373, rfl⟩
  | 4, _ => exact ⟨wd_375, rfl⟩
  | 5, _ => exact ⟨wd_377, rfl⟩
  | 6, _ => exact ⟨wd_379, rfl⟩
  | 7, _ => exact ⟨wd_381, rfl⟩
  | 8, _ => exact ⟨wd_383, rfl⟩
  | 9, _ => exact ⟨wd_385, rfl⟩
  | 10, _ => exact ⟨wd_387, rfl⟩
  | 11, _ => exact ⟨wd_389, rfl⟩
  | 12, _ => exact ⟨wd_391, rfl⟩
  | 13, _ => exact ⟨wd_393, rfl⟩
  | n + 14, h => exact absurd h (by omega)
theorem cx_7 : ex_cx 7 := ⟨rfl, tyX7_ok, nmX7, wd_85, wd_67, by decide, rfl, ly_7, fun _ => rfl⟩
theorem ly_8 : ∀ k, k < 34 → u_lay (ex_on 8) (ex_TT 8) k ∈ lw_tbl ∧ (ex_TT 8 k).1 = ex_on 8 := by
  intro k h
  match k, h with
  | 0, _ => exact ⟨wd_1010, rfl⟩
  | 1, _ => exact ⟨wd_1012, rfl⟩
  | 2, _ => exact ⟨wd_1014, rfl⟩
  | 3, _ => exact ⟨wd_1016, rfl⟩
  | 4, _ => exact ⟨wd_1018, rfl⟩
  | 5, _ => exact ⟨wd_1020, rfl⟩
  | 6, _ => exact ⟨wd_1022, rfl⟩
  | 7, _ => exact ⟨wd_1024, rfl⟩
  | 8, _ => exact ⟨wd_1026, rfl⟩
  | 9, _ => exact ⟨wd_1028, rfl⟩
  | 10, _ => exact ⟨wd_1030, rfl⟩
  | 11, _ => exact ⟨wd_1032, rfl⟩
  | 12, _ => exact ⟨wd_1034, rfl⟩
  | 13, _ => exact ⟨wd_1036, rfl⟩
  | 14, _ => exact ⟨wd_1038, rfl⟩
  | 15, _ => exact ⟨wd_1040, rfl⟩
  | 16, _ => exact ⟨wd_1042, rfl⟩
  | 17, _ => exact ⟨wd_1044, rfl⟩
  | 18, _ => exact ⟨wd_1046, rfl⟩
  | 19, _ => exact ⟨wd_1048, rfl⟩
  | 20, _ => exact ⟨wd_1050, rfl⟩
  | 21, _ => exact ⟨wd_1052, rfl⟩
  | 22, _ => exact ⟨wd_1054, rfl⟩
  | 23, _ => exact ⟨wd_1056, rfl⟩
  | 24, _ => exact ⟨wd_1058, rfl⟩
  | 25, _ => exact ⟨wd_1060, rfl⟩
  | 26, _ => exact ⟨wd_1062, rfl⟩
  | 27, _ => exact ⟨wd_1064, rfl⟩
  | 28, _ => exact ⟨wd_1066, rfl⟩
  | 29, _ => exact ⟨wd_1068, rfl⟩
  | 30, _ => exact ⟨wd_1070, rfl⟩
  | 31, _ => exact ⟨wd_1072, rfl⟩
  | 32, _ => exact ⟨wd_1074, rfl⟩
  | 33, _ => exact ⟨wd_1076, rfl⟩
  | n + 34, h => exact absurd h (by omega)
theorem cx_8 : ex_cx 8 := ⟨rfl, tyX8_ok, nmX8, wd_963, wd_76, by decide, rfl, ly_8, fun _ => rfl⟩
theorem ex_cxs : ∀ ci, ci < 9 → ex_cx ci := by
  intro c h
  match c, h with
  | 0, _ => exact cx_0
  | 1, _ => exact cx_1
  | 2, _ => exact cx_2
  | 3, _ => exact cx_3
  | 4, _ => exact cx_4
  | 5, _ => exact cx_5
  | 6, _ => exact cx_6
  | 7, _ => exact cx_7
  | 8, _ => exact cx_8
  | n + 9, h => exact absurd h (by omega)
theorem ac_0 : (Jvm.Cond.arrayClass Jvm.ClassFile.FieldType.int) ∈ lw_tbl := wd_185
theorem ac_1 : (Jvm.Cond.arrayClass Jvm.ClassFile.FieldType.byte) ∈ lw_tbl := wd_226
theorem ac_2 : (Jvm.Cond.arrayClass Jvm.ClassFile.FieldType.boolean) ∈ lw_tbl := wd_352
theorem ao_6 : (Jvm.Cond.arrayOver (.object (ex_on 6))) ∈ lw_tbl := wd_333
theorem ao_4 : (Jvm.Cond.arrayOver (.object (ex_on 4))) ∈ lw_tbl := wd_335
