/-! ONE CALL ON FRESH OBJECTS: law_ok 5 put together. Written by wip/p1asm.py. -/
theorem a_2 : A2 mt_7 mt_8 [] := by
  exact ck2_of in_2
theorem a_3 : A2 mt_9 mt_10 [] := by
  exact ck2_of in_3
theorem a_13 : A2 mt_29 mt_30 [] := by
  exact ck2_of in_13
theorem a_17 : A2 mt_37 mt_38 [] := by
  exact ck2_of in_17
theorem a_30 : A2 mt_63 mt_64 [] := by
  exact ck2_of in_30
theorem a_38 : A2 mt_79 mt_80 [] := by
  exact ck2_of in_38
theorem a_1 (x1 : Int32) : A2 mt_5 mt_6 [.int x1] := by
  by_cases h1 : x1.toInt < 0
  · exact ao_1_a x1 h1
  by_cases h2 : 0 < x1.toInt
  · exact ao_1_b x1 h2
  exact in1 in_1 (by omega) (by omega)
theorem a_4 (x1 : Int32) : A2 mt_11 mt_12 [.int x1] := by
  by_cases h1 : x1.toInt < 0
  · exact ao_4_a x1 h1
  by_cases h2 : 5 < x1.toInt
  · exact ao_4_b x1 h2
  exact in1 in_4 (by omega) (by omega)
theorem a_6 (x1 : Int32) : A2 mt_15 mt_16 [.int x1] := by
  by_cases h1 : x1.toInt < 0
  · exact ao_6_a x1 h1
  by_cases h2 : 1 < x1.toInt
  · exact ao_6_b x1 h2
  exact in1 in_6 (by omega) (by omega)
theorem a_7 (x1 : Int32) : A2 mt_17 mt_18 [.int x1] := by
  by_cases h1 : x1.toInt < 1
  · exact ao_7_a x1 h1
  by_cases h2 : 12 < x1.toInt
  · exact ao_7_b x1 h2
  exact in1 in_7 (by omega) (by omega)
theorem a_8 (x1 : Int32) : A2 mt_19 mt_20 [.int x1] := by
  by_cases h1 : x1.toInt < 0
  · exact ao_8_a x1 h1
  by_cases h2 : 20 < x1.toInt
  · exact ao_8_b x1 h2
  exact in1 in_8 (by omega) (by omega)
theorem a_9 (x1 : Int32) : A2 mt_21 mt_22 [.int x1] := by
  by_cases h1 : x1.toInt < 0
  · exact ao_9_a x1 h1
  by_cases h2 : 1 < x1.toInt
  · exact ao_9_b x1 h2
  exact in1 in_9 (by omega) (by omega)
theorem a_10 (x1 : Int32) : A2 mt_23 mt_24 [.int x1] := by
  by_cases h1 : x1.toInt < 0
  · exact ao_10_a x1 h1
  by_cases h2 : 2 < x1.toInt
  · exact ao_10_b x1 h2
  exact in1 in_10 (by omega) (by omega)
theorem a_12 (x1 : Int32) : A2 mt_27 mt_28 [.int x1] := by
  by_cases h1 : x1.toInt < 0
  · exact ao_12_a x1 h1
  by_cases h2 : 0 < x1.toInt
  · exact ao_12_b x1 h2
  exact in1 in_12 (by omega) (by omega)
theorem a_14 (x1 : Int32) : A2 mt_31 mt_32 [.int x1] := by
  by_cases h1 : x1.toInt < 1
  · exact ao_14_a x1 h1
  by_cases h2 : 12 < x1.toInt
  · exact ao_14_b x1 h2
  exact in1 in_14 (by omega) (by omega)
theorem a_15 (x1 : Int32) : A2 mt_33 mt_34 [.int x1] := by
  by_cases h1 : x1.toInt < 0
  · exact ao_15_a x1 h1
  by_cases h2 : 1 < x1.toInt
  · exact ao_15_b x1 h2
  exact in1 in_15 (by omega) (by omega)
theorem a_16 (x1 : Int32) : A2 mt_35 mt_36 [.int x1] := by
  by_cases h1 : x1.toInt < 0
  · exact ao_16_a x1 h1
  by_cases h2 : 12 < x1.toInt
  · exact ao_16_b x1 h2
  exact in1 in_16 (by omega) (by omega)
theorem a_18 (x1 : Int32) : A2 mt_39 mt_40 [.int x1] := by
  by_cases h1 : x1.toInt < 0
  · exact ao_18_a x1 h1
  by_cases h2 : 12 < x1.toInt
  · exact ao_18_b x1 h2
  exact in1 in_18 (by omega) (by omega)
theorem a_19 (x1 : Int32) : A2 mt_41 mt_42 [.int x1] := by
  by_cases h1 : x1.toInt < 0
  · exact ao_19_a x1 h1
  by_cases h2 : 0 < x1.toInt
  · exact ao_19_b x1 h2
  exact in1 in_19 (by omega) (by omega)
theorem a_20 (x1 : Int32) : A2 mt_43 mt_44 [.int x1] := by
  by_cases h1 : x1.toInt < 0
  · exact ao_20_a x1 h1
  by_cases h2 : 1 < x1.toInt
  · exact ao_20_b x1 h2
  exact in1 in_20 (by omega) (by omega)
theorem a_21 (x1 : Int32) : A2 mt_45 mt_46 [.int x1] := by
  by_cases h1 : x1.toInt < 0
  · exact ao_21_a x1 h1
  by_cases h2 : 1 < x1.toInt
  · exact ao_21_b x1 h2
  exact in1 in_21 (by omega) (by omega)
theorem a_22 (x1 : Int32) : A2 mt_47 mt_48 [.int x1] := by
  by_cases h1 : x1.toInt < 0
  · exact ao_22_a x1 h1
  by_cases h2 : 0 < x1.toInt
  · exact ao_22_b x1 h2
  exact in1 in_22 (by omega) (by omega)
theorem a_33 (x1 : Int32) : A2 mt_69 mt_70 [.int x1] := by
  by_cases h1 : x1.toInt < 0
  · exact ao_33_a x1 h1
  by_cases h2 : 1 < x1.toInt
  · exact ao_33_b x1 h2
  exact in1 in_33 (by omega) (by omega)
theorem a_34 (x1 : Int32) : A2 mt_71 mt_72 [.int x1] := by
  by_cases h1 : x1.toInt < 0
  · exact ao_34_a x1 h1
  by_cases h2 : 1 < x1.toInt
  · exact ao_34_b x1 h2
  exact in1 in_34 (by omega) (by omega)
theorem a_39 (x1 : Int32) : A2 mt_81 mt_82 [.int x1] := by
  by_cases h1 : x1.toInt < 0
  · exact ao_39_a x1 h1
  by_cases h2 : 6 < x1.toInt
  · exact ao_39_b x1 h2
  exact in1 in_39 (by omega) (by omega)
theorem a_5 (x1 : Int32) : A2 mt_13 mt_14 [.int x1] := by
  by_cases h1 : x1.toInt < 0
  · exact ao_5_a x1 h1
  exact ao_5_b x1 (by omega)
theorem a_11 (x1 x2 : Int32) : A2 mt_25 mt_26 [.int x1, .int x2] := by
  by_cases h1 : x1.toInt < 1
  · exact ao_11_a x1 x2 h1
  by_cases h2 : 12 < x1.toInt
  · exact ao_11_b x1 x2 h2
  by_cases h3 : x2.toInt < -4
  · exact ao_11_c x1 x2 (by omega) (by omega) h3
  by_cases h4 : 1 < x2.toInt
  · exact ao_11_e x1 x2 (by omega) (by omega) h4
  by_cases h5 : x2.toInt = -4
  · have e : x2 = -4 := Int32.toInt_inj.mp (by rw [h5]; rfl)
    subst e
    have h6 := List.all_eq_true.mp in_11_b (x1.toInt.toNat - 1) (List.mem_range.mpr (by omega))
    rw [show 1 + (x1.toInt.toNat - 1) = x1.toInt.toNat by omega, ← ofI (by omega)] at h6
    exact ck2_of h6
  by_cases h6 : x2.toInt < 0
  · exact ao_11_d x1 x2 (by omega) (by omega) (by omega) h6
  exact in2 in_11_a (by omega) (by omega) (by omega) (by omega)
theorem a_23 (x1 : Int32) : A2 mt_49 mt_50 [.int x1] := by
  by_cases h1 : x1.toInt < 0
  · exact ao_23_a x1 h1
  by_cases h2 : 14 < x1.toInt
  · exact ao_23_c x1 h2
  by_cases h3 : x1.toInt = 0
  · exact in1 in_23_a (by omega) (by omega)
  by_cases h4 : x1.toInt < 10
  · exact ao_23_b x1 (by omega) h4
  exact in1 in_23_b (by omega) (by omega)
theorem a_24 (x1 : Int32) : A2 mt_51 mt_52 [.int x1] := by
  by_cases h1 : x1.toInt < 0
  · exact ao_24_a x1 h1
  by_cases h2 : 14 < x1.toInt
  · exact ao_24_c x1 h2
  by_cases h3 : x1.toInt = 0
  · exact in1 in_24_a (by omega) (by omega)
  by_cases h4 : x1.toInt < 10
  · exact ao_24_b x1 (by omega) h4
  exact in1 in_24_b (by omega) (by omega)
theorem a_25 (x1 x2 : Int32) : A2 mt_53 mt_54 [.int x1, .int x2] := by
  by_cases h1 : x1.toInt < 1
  · exact ao_25_a x1 x2 h1
  by_cases h2 : 3 < x1.toInt
  · exact ao_25_b x1 x2 h2
  by_cases h3 : x2.toInt < 0
  · exact ao_25_c x1 x2 (by omega) (by omega) h3
  by_cases h4 : 1 < x2.toInt
  · exact ao_25_d x1 x2 (by omega) (by omega) h4
  have e1 : x1 = Int32.ofNat x1.toInt.toNat := ofI (by omega)
  have e2 : x2 = Int32.ofNat x2.toInt.toNat := ofI (by omega)
  have b1 : 1 ≤ x1.toInt.toNat ∧ x1.toInt.toNat ≤ 3 := by omega
  have b2 : x2.toInt.toNat ≤ 1 := by omega
  rw [e1, e2]
  generalize x1.toInt.toNat = n at b1 ⊢
  generalize x2.toInt.toNat = m at b2 ⊢
  match n, m, b1, b2 with
  | 1, 0, _, _ => exact hv_25_1_0
  | 1, 1, _, _ => exact hv_25_1_1
  | 2, 0, _, _ => exact hv_25_2_0
  | 2, 1, _, _ => exact hv_25_2_1
  | 3, 0, _, _ => exact hv_25_3_0
  | 3, 1, _, _ => exact hv_25_3_1
  | 0, _, h, _ => exact absurd h.1 (by omega)
  | n + 4, _, h, _ => exact absurd h.2 (by omega)
  | _, m + 2, _, h => exact absurd h (by omega)
theorem a_26 (x1 x2 : Int32) : A2L mt_55 mt_56 [.int x1, .int x2] := by
  by_cases h1 : x1.toInt < 1
  · exact ao_26_a x1 x2 h1
  by_cases h2 : 4 < x1.toInt
  · exact ao_26_b x1 x2 h2
  by_cases h3 : x2.toInt < 0
  · exact ao_26_c x1 x2 (by omega) (by omega) h3
  by_cases h4 : 1 < x2.toInt
  · exact ao_26_d x1 x2 (by omega) (by omega) h4
  have e1 : x1 = Int32.ofNat x1.toInt.toNat := ofI (by omega)
  have e2 : x2 = Int32.ofNat x2.toInt.toNat := ofI (by omega)
  have b1 : 1 ≤ x1.toInt.toNat ∧ x1.toInt.toNat ≤ 4 := by omega
  have b2 : x2.toInt.toNat ≤ 1 := by omega
  rw [e1, e2]
  generalize x1.toInt.toNat = n at b1 ⊢
  generalize x2.toInt.toNat = m at b2 ⊢
  match n, m, b1, b2 with
  | 1, 0, _, _ => exact hv_26_1_0
  | 1, 1, _, _ => exact hv_26_1_1
  | 2, 0, _, _ => exact hv_26_2_0
  | 2, 1, _, _ => exact hv_26_2_1
  | 3, 0, _, _ => exact hv_26_3_0
  | 3, 1, _, _ => exact hv_26_3_1
  | 4, 0, _, _ => exact hv_26_4_0
  | 4, 1, _, _ => exact hv_26_4_1
  | 0, _, h, _ => exact absurd h.1 (by omega)
  | n + 5, _, h, _ => exact absurd h.2 (by omega)
  | _, m + 2, _, h => exact absurd h (by omega)
theorem a_27 (x1 x2 : Int32) : A2 mt_57 mt_58 [.int x1, .int x2] := by
  by_cases h1 : x1.toInt < 0
  · exact ao_27_a x1 x2 h1
  by_cases h2 : 10 < x1.toInt
  · exact ao_27_b x1 x2 h2
  by_cases h3 : x2.toInt < 1
  · exact ao_27_c x1 x2 (by omega) (by omega) h3
  by_cases h4 : 12 < x2.toInt
  · exact ao_27_d x1 x2 (by omega) (by omega) h4
  exact in_27 (by omega) (by omega) (by omega) (by omega)
theorem a_28 (x1 : Int32) : A2 mt_59 mt_60 [.int x1] := by
  by_cases h1 : x1.toInt < 0
  · exact ao_28_a x1 h1
  by_cases h2 : 10 < x1.toInt
  · exact ao_28_b x1 h2
  exact in_28 (by omega) (by omega)
theorem a_29 (x1 x2 : Int32) : A2 mt_61 mt_62 [.int x1, .int x2] := by
  by_cases h1 : x1.toInt < 0
  · exact ao_29_a x1 x2 h1
  by_cases h2 : 1 < x1.toInt
  · exact ao_29_b x1 x2 h2
  by_cases h3 : x2.toInt < 0
  · exact ao_29_c x1 x2 (by omega) (by omega) h3
  by_cases h4 : 4 < x2.toInt
  · exact ao_29_d x1 x2 (by omega) (by omega) h4
  exact in2 in_29 (by omega) (by omega) (by omega) (by omega)
theorem a_31 (x1 : Int32) : A2 mt_65 mt_66 [.int x1] := by
  by_cases h1 : x1.toInt < 0
  · exact ao_31_a x1 h1
  by_cases h2 : 23 < x1.toInt
  · exact ao_31_d x1 h2
  by_cases h3 : x1.toInt = 0
  · exact in1 in_31_a (by omega) (by omega)
  by_cases h4 : x1.toInt < 10
  · exact ao_31_b x1 (by omega) h4
  by_cases h5 : x1.toInt < 14
  · exact in1 in_31_b (by omega) (by omega)
  by_cases h6 : x1.toInt < 20
  · exact ao_31_c x1 (by omega) h6
  exact in1 in_31_c (by omega) (by omega)
theorem a_32 (x1 x2 x3 : Int32) : A2 mt_67 mt_68 [.int x1, .int x2, .int x3] := by
  by_cases h1 : x1.toInt < 1
  · exact ao_32_a x1 x2 x3 h1
  by_cases h2 : 6 < x1.toInt
  · exact ao_32_b x1 x2 x3 h2
  by_cases h3 : x2.toInt < 0
  · exact ao_32_c x1 x2 x3 (by omega) (by omega) h3
  by_cases h4 : 100 < x2.toInt
  · exact ao_32_d x1 x2 x3 (by omega) (by omega) h4
  by_cases h5 : x3.toInt < 0
  · exact ao_32_e x1 x2 x3 (by omega) (by omega) (by omega) (by omega) h5
  by_cases h6 : 2 < x3.toInt
  · exact ao_32_f x1 x2 x3 (by omega) (by omega) (by omega) (by omega) h6
  have e1 : x1 = Int32.ofNat x1.toInt.toNat := ofI (by omega)
  have e2 : x2 = Int32.ofNat x2.toInt.toNat := ofI (by omega)
  rw [e1, e2]
  exact ai_32 x1.toInt.toNat x2.toInt.toNat (by omega) (by omega) (by omega) x3 (by omega) (by omega)
theorem a_35 (x1 x2 x3 : Int32) : A2 mt_73 mt_74 [.int x1, .int x2, .int x3] := by
  by_cases h1 : x1.toInt < 0
  · exact ao_35_a x1 x2 x3 h1
  by_cases h2 : 3 < x1.toInt
  · exact ao_35_b x1 x2 x3 h2
  by_cases h3 : x2.toInt < 0
  · exact ao_35_c x1 x2 x3 (by omega) (by omega) h3
  by_cases h4 : 2 < x2.toInt
  · exact ao_35_d x1 x2 x3 (by omega) (by omega) h4
  by_cases h5 : 40 < x3.toInt
  · exact ao_35_e x1 x2 x3 (by omega) (by omega) (by omega) (by omega) h5
  by_cases h6 : x3.toInt < 0
  · exact ao_35_f x1 x2 x3 (by omega) (by omega) (by omega) (by omega) h6
  have e1 : x1 = Int32.ofNat x1.toInt.toNat := ofI (by omega)
  have b1 : x1.toInt.toNat < 4 := by omega
  rw [e1]
  generalize x1.toInt.toNat = n at b1 ⊢
  match n, b1 with
  | 0, _ => exact ai_35_0 x2 x3 (by omega) (by omega) (by omega) (by omega)
  | 1, _ => exact ai_35_1 x2 x3 (by omega) (by omega) (by omega) (by omega)
  | 2, _ => exact ai_35_2 x2 x3 (by omega) (by omega) (by omega) (by omega)
  | 3, _ => exact ai_35_3 x2 x3 (by omega) (by omega) (by omega) (by omega)
  | n + 4, h => exact absurd h (by omega)
theorem a_36 (x1 x2 x3 : Int32) : A2 mt_75 mt_76 [.int x1, .int x2, .int x3] := by
  by_cases h1 : x1.toInt < 0
  · exact ao_36_a x1 x2 x3 h1
  by_cases h2 : 3 < x1.toInt
  · exact ao_36_b x1 x2 x3 h2
  have e1 : x1 = Int32.ofNat x1.toInt.toNat := ofI (by omega)
  have b1 : x1.toInt.toNat < 4 := by omega
  rw [e1]
  generalize x1.toInt.toNat = n at b1 ⊢
  match n, b1 with
  | 0, _ => exact ao_36_k0 x2 x3
  | 1, _ => exact ao_36_k1 x2 x3
  | 2, _ => exact ao_36_k2 x2 x3
  | 3, _ => exact ao_36_k3 x2 x3
  | n + 4, h => exact absurd h (by omega)
theorem a_37 (x1 x2 x3 x4 : Int32) : A2 mt_77 mt_78 [.int x1, .int x2, .int x3, .int x4] := by
  by_cases h1 : x1.toInt < 0
  · exact ao_37_a x1 x2 x3 x4 h1
  by_cases h2 : 3 < x1.toInt
  · exact ao_37_b x1 x2 x3 x4 h2
  by_cases h3 : x2.toInt < 0
  · exact ao_37_c x1 x2 x3 x4 (by omega) (by omega) h3
  by_cases h4 : 2 < x2.toInt
  · exact ao_37_d x1 x2 x3 x4 (by omega) (by omega) h4
  by_cases h5 : x4.toInt < 0
  · exact ao_37_e x1 x2 x3 x4 (by omega) (by omega) (by omega) (by omega) h5
  by_cases h6 : 20 < x4.toInt
  · exact ao_37_f x1 x2 x3 x4 (by omega) (by omega) (by omega) (by omega) h6
  by_cases h7 : x4.toInt = 0
  · have e1 : x1 = Int32.ofNat x1.toInt.toNat := ofI (by omega)
    have b1 : x1.toInt.toNat < 4 := by omega
    rw [e1]
    generalize x1.toInt.toNat = n at b1 ⊢
    match n, b1 with
    | 0, _ => exact ai_37_0z x2 x3 x4 (by omega) (by omega) h7
    | 1, _ => exact ai_37_1z x2 x3 x4 (by omega) (by omega) h7
    | 2, _ => exact ai_37_2z x2 x3 x4 (by omega) (by omega) h7
    | 3, _ => exact ai_37_3z x2 x3 x4 (by omega) (by omega) h7
    | n + 4, h => exact absurd h (by omega)
  by_cases h8 : x4.toInt = 1
  · have e1 : x1 = Int32.ofNat x1.toInt.toNat := ofI (by omega)
    have b1 : x1.toInt.toNat < 4 := by omega
    rw [e1]
    generalize x1.toInt.toNat = n at b1 ⊢
    match n, b1 with
    | 0, _ => exact ai_37_0o x2 x3 x4 (by omega) (by omega) h8
    | 1, _ => exact ai_37_1o x2 x3 x4 (by omega) (by omega) h8
    | 2, _ => exact ai_37_2o x2 x3 x4 (by omega) (by omega) h8
    | 3, _ => exact ai_37_3o x2 x3 x4 (by omega) (by omega) h8
    | n + 4, h => exact absurd h (by omega)
  · have e1 : x1 = Int32.ofNat x1.toInt.toNat := ofI (by omega)
    have b1 : x1.toInt.toNat < 4 := by omega
    rw [e1]
    generalize x1.toInt.toNat = n at b1 ⊢
    match n, b1 with
    | 0, _ => exact ai_37_0p x2 x3 x4 (by omega) (by omega) (by omega) (by omega)
    | 1, _ => exact ai_37_1p x2 x3 x4 (by omega) (by omega) (by omega) (by omega)
    | 2, _ => exact ai_37_2p x2 x3 x4 (by omega) (by omega) (by omega) (by omega)
    | 3, _ => exact ai_37_3p x2 x3 x4 (by omega) (by omega) (by omega) (by omega)
    | n + 4, h => exact absurd h (by omega)
/-- THE WHOLE RUN, over the abstract machine: the answer is 1, and the cells fit the room -/
def law_ok (N : Nat) : Prop := ∀ X : List Int32, X.length ≤ N → ∃ (n : Nat) (we : ex_W), ex_run X n 40 mt_0 (ex_ent mt_0 [.retAddr 0]) [] = some (some (.int 1), we) ∧ we.length ≤ 600000 ∧ ex_sl we ≤ 7302250
theorem law_fin {x0 x1 x2 x3 x4 : Int32} {wx wm : ex_W} (hx : ex_sm fr_w wx) (hm : ex_sm wx wm) (h : Go [x0, x1, x2, x3, x4] 40 mt_0 (32, [some (.retAddr 0), some (.ref 0), some (.ref 59), some (.int 0)], [.int (x0 &&& 63)]) fr_w (some (.int 1), wm)) : ∃ (n : Nat) (we : ex_W), ex_run [x0, x1, x2, x3, x4] n 40 mt_0 (ex_ent mt_0 [.retAddr 0]) [] = some (some (.int 1), we) ∧ we.length ≤ 600000 ∧ ex_sl we ≤ 7302250 := by
  obtain ⟨n, hn⟩ := law_pre (law_in h)
  have e := hx.tr hm
  exact ⟨n, wm, hn, by rw [e.1]; decide, by rw [e.2]; decide +kernel⟩
theorem lk_0 (x0 x1 x2 x3 x4 : Int32) (hs : x0 &&& 63 = 0) : ∃ (n : Nat) (we : ex_W), ex_run [x0, x1, x2, x3, x4] n 40 mt_0 (ex_ent mt_0 [.retAddr 0]) [] = some (some (.int 1), we) ∧ we.length ≤ 600000 ∧ ex_sl we ≤ 7302250 := by
  obtain ⟨v, wx, wm, fs, hx, hw, hm⟩ := in_0 _
  exact law_fin (hx.sm (List.mem_of_getElem? (i := 3) rfl) (by decide) rfl) (hm.sm (List.mem_of_getElem? (i := 4) rfl) (by decide) rfl) (lc_0 x0 x1 x2 x3 x4 hw hs hx hm)
theorem lk_1 (x0 x1 x2 x3 x4 : Int32) (hs : x0 &&& 63 = 1) : ∃ (n : Nat) (we : ex_W), ex_run [x0, x1, x2, x3, x4] n 40 mt_0 (ex_ent mt_0 [.retAddr 0]) [] = some (some (.int 1), we) ∧ we.length ≤ 600000 ∧ ex_sl we ≤ 7302250 := by
  obtain ⟨v, wx, wm, fs, hx, hw, hm⟩ := a_1 x1
  exact law_fin (hx.sm (List.mem_of_getElem? (i := 5) rfl) (by decide) rfl) (hm.sm (List.mem_of_getElem? (i := 6) rfl) (by decide) rfl) (lc_1 x0 x1 x2 x3 x4 hw hs hx hm)
theorem lk_2 (x0 x1 x2 x3 x4 : Int32) (hs : x0 &&& 63 = 2) : ∃ (n : Nat) (we : ex_W), ex_run [x0, x1, x2, x3, x4] n 40 mt_0 (ex_ent mt_0 [.retAddr 0]) [] = some (some (.int 1), we) ∧ we.length ≤ 600000 ∧ ex_sl we ≤ 7302250 := by
  obtain ⟨v, wx, wm, fs, hx, hw, hm⟩ := a_2 
  exact law_fin (hx.sm (List.mem_of_getElem? (i := 7) rfl) (by decide) rfl) (hm.sm (List.mem_of_getElem? (i := 8) rfl) (by decide) rfl) (lc_2 x0 x1 x2 x3 x4 hw hs hx hm)
theorem lk_3 (x0 x1 x2 x3 x4 : Int32) (hs : x0 &&& 63 = 3) : ∃ (n : Nat) (we : ex_W), ex_run [x0, x1, x2, x3, x4] n 40 mt_0 (ex_ent mt_0 [.retAddr 0]) [] = some (some (.int 1), we) ∧ we.length ≤ 600000 ∧ ex_sl we ≤ 7302250 := by
  obtain ⟨v, wx, wm, fs, hx, hw, hm⟩ := a_3 
  exact law_fin (hx.sm (List.mem_of_getElem? (i := 9) rfl) (by decide) rfl) (hm.sm (List.mem_of_getElem? (i := 10) rfl) (by decide) rfl) (lc_3 x0 x1 x2 x3 x4 hw hs hx hm)
theorem lk_4 (x0 x1 x2 x3 x4 : Int32) (hs : x0 &&& 63 = 4) : ∃ (n : Nat) (we : ex_W), ex_run [x0, x1, x2, x3, x4] n 40 mt_0 (ex_ent mt_0 [.retAddr 0]) [] = some (some (.int 1), we) ∧ we.length ≤ 600000 ∧ ex_sl we ≤ 7302250 := by
  obtain ⟨v, wx, wm, fs, hx, hw, hm⟩ := a_4 x1
  exact law_fin (hx.sm (List.mem_of_getElem? (i := 11) rfl) (by decide) rfl) (hm.sm (List.mem_of_getElem? (i := 12) rfl) (by decide) rfl) (lc_4 x0 x1 x2 x3 x4 hw hs hx hm)
theorem lk_5 (x0 x1 x2 x3 x4 : Int32) (hs : x0 &&& 63 = 5) : ∃ (n : Nat) (we : ex_W), ex_run [x0, x1, x2, x3, x4] n 40 mt_0 (ex_ent mt_0 [.retAddr 0]) [] = some (some (.int 1), we) ∧ we.length ≤ 600000 ∧ ex_sl we ≤ 7302250 := by
  obtain ⟨v, wx, wm, fs, hx, hw, hm⟩ := a_5 x1
  exact law_fin (hx.sm (List.mem_of_getElem? (i := 13) rfl) (by decide) rfl) (hm.sm (List.mem_of_getElem? (i := 14) rfl) (by decide) rfl) (lc_5 x0 x1 x2 x3 x4 hw hs hx hm)
theorem lk_6 (x0 x1 x2 x3 x4 : Int32) (hs : x0 &&& 63 = 6) : ∃ (n : Nat) (we : ex_W), ex_run [x0, x1, x2, x3, x4] n 40 mt_0 (ex_ent mt_0 [.retAddr 0]) [] = some (some (.int 1), we) ∧ we.length ≤ 600000 ∧ ex_sl we ≤ 7302250 := by
  obtain ⟨v, wx, wm, fs, hx, hw, hm⟩ := a_6 x1
  exact law_fin (hx.sm (List.mem_of_getElem? (i := 15) rfl) (by decide) rfl) (hm.sm (List.mem_of_getElem? (i := 16) rfl) (by decide) rfl) (lc_6 x0 x1 x2 x3 x4 hw hs hx hm)
theorem lk_7 (x0 x1 x2 x3 x4 : Int32) (hs : x0 &&& 63 = 7) : ∃ (n : Nat) (we : ex_W), ex_run [x0, x1, x2, x3, x4] n 40 mt_0 (ex_ent mt_0 [.retAddr 0]) [] = some (some (.int 1), we) ∧ we.length ≤ 600000 ∧ ex_sl we ≤ 7302250 := by
  obtain ⟨v, wx, wm, fs, hx, hw, hm⟩ := a_7 x1
  exact law_fin (hx.sm (List.mem_of_getElem? (i := 17) rfl) (by decide) rfl) (hm.sm (List.mem_of_getElem? (i := 18) rfl) (by decide) rfl) (lc_7 x0 x1 x2 x3 x4 hw hs hx hm)
theorem lk_8 (x0 x1 x2 x3 x4 : Int32) (hs : x0 &&& 63 = 8) : ∃ (n : Nat) (we : ex_W), ex_run [x0, x1, x2, x3, x4] n 40 mt_0 (ex_ent mt_0 [.retAddr 0]) [] = some (some (.int 1), we) ∧ we.length ≤ 600000 ∧ ex_sl we ≤ 7302250 := by
  obtain ⟨v, wx, wm, fs, hx, hw, hm⟩ := a_8 x1
  exact law_fin (hx.sm (List.mem_of_getElem? (i := 19) rfl) (by decide) rfl) (hm.sm (List.mem_of_getElem? (i := 20) rfl) (by decide) rfl) (lc_8 x0 x1 x2 x3 x4 hw hs hx hm)
theorem lk_9 (x0 x1 x2 x3 x4 : Int32) (hs : x0 &&& 63 = 9) : ∃ (n : Nat) (we : ex_W), ex_run [x0, x1, x2, x3, x4] n 40 mt_0 (ex_ent mt_0 [.retAddr 0]) [] = some (some (.int 1), we) ∧ we.length ≤ 600000 ∧ ex_sl we ≤ 7302250 := by
  obtain ⟨v, wx, wm, fs, hx, hw, hm⟩ := a_9 x1
  exact law_fin (hx.sm (List.mem_of_getElem? (i := 21) rfl) (by decide) rfl) (hm.sm (List.mem_of_getElem? (i := 22) rfl) (by decide) rfl) (lc_9 x0 x1 x2 x3 x4 hw hs hx hm)
theorem lk_10 (x0 x1 x2 x3 x4 : Int32) (hs : x0 &&& 63 = 10) : ∃ (n : Nat) (we : ex_W), ex_run [x0, x1, x2, x3, x4] n 40 mt_0 (ex_ent mt_0 [.retAddr 0]) [] = some (some (.int 1), we) ∧ we.length ≤ 600000 ∧ ex_sl we ≤ 7302250 := by
  obtain ⟨v, wx, wm, fs, hx, hw, hm⟩ := a_10 x1
  exact law_fin (hx.sm (List.mem_of_getElem? (i := 23) rfl) (by decide) rfl) (hm.sm (List.mem_of_getElem? (i := 24) rfl) (by decide) rfl) (lc_10 x0 x1 x2 x3 x4 hw hs hx hm)
theorem lk_11 (x0 x1 x2 x3 x4 : Int32) (hs : x0 &&& 63 = 11) : ∃ (n : Nat) (we : ex_W), ex_run [x0, x1, x2, x3, x4] n 40 mt_0 (ex_ent mt_0 [.retAddr 0]) [] = some (some (.int 1), we) ∧ we.length ≤ 600000 ∧ ex_sl we ≤ 7302250 := by
  obtain ⟨v, wx, wm, fs, hx, hw, hm⟩ := a_11 x1 x2
  exact law_fin (hx.sm (List.mem_of_getElem? (i := 25) rfl) (by decide) rfl) (hm.sm (List.mem_of_getElem? (i := 26) rfl) (by decide) rfl) (lc_11 x0 x1 x2 x3 x4 hw hs hx hm)
theorem lk_12 (x0 x1 x2 x3 x4 : Int32) (hs : x0 &&& 63 = 12) : ∃ (n : Nat) (we : ex_W), ex_run [x0, x1, x2, x3, x4] n 40 mt_0 (ex_ent mt_0 [.retAddr 0]) [] = some (some (.int 1), we) ∧ we.length ≤ 600000 ∧ ex_sl we ≤ 7302250 := by
  obtain ⟨v, wx, wm, fs, hx, hw, hm⟩ := a_12 x1
  exact law_fin (hx.sm (List.mem_of_getElem? (i := 27) rfl) (by decide) rfl) (hm.sm (List.mem_of_getElem? (i := 28) rfl) (by decide) rfl) (lc_12 x0 x1 x2 x3 x4 hw hs hx hm)
theorem lk_13 (x0 x1 x2 x3 x4 : Int32) (hs : x0 &&& 63 = 13) : ∃ (n : Nat) (we : ex_W), ex_run [x0, x1, x2, x3, x4] n 40 mt_0 (ex_ent mt_0 [.retAddr 0]) [] = some (some (.int 1), we) ∧ we.length ≤ 600000 ∧ ex_sl we ≤ 7302250 := by
  obtain ⟨v, wx, wm, fs, hx, hw, hm⟩ := a_13 
  exact law_fin (hx.sm (List.mem_of_getElem? (i := 29) rfl) (by decide) rfl) (hm.sm (List.mem_of_getElem? (i := 30) rfl) (by decide) rfl) (lc_13 x0 x1 x2 x3 x4 hw hs hx hm)
theorem lk_14 (x0 x1 x2 x3 x4 : Int32) (hs : x0 &&& 63 = 14) : ∃ (n : Nat) (we : ex_W), ex_run [x0, x1, x2, x3, x4] n 40 mt_0 (ex_ent mt_0 [.retAddr 0]) [] = some (some (.int 1), we) ∧ we.length ≤ 600000 ∧ ex_sl we ≤ 7302250 := by
  obtain ⟨v, wx, wm, fs, hx, hw, hm⟩ := a_14 x1
  exact law_fin (hx.sm (List.mem_of_getElem? (i := 31) rfl) (by decide) rfl) (hm.sm (List.mem_of_getElem? (i := 32) rfl) (by decide) rfl) (lc_14 x0 x1 x2 x3 x4 hw hs hx hm)
theorem lk_15 (x0 x1 x2 x3 x4 : Int32) (hs : x0 &&& 63 = 15) : ∃ (n : Nat) (we : ex_W), ex_run [x0, x1, x2, x3, x4] n 40 mt_0 (ex_ent mt_0 [.retAddr 0]) [] = some (some (.int 1), we) ∧ we.length ≤ 600000 ∧ ex_sl we ≤ 7302250 := by
  obtain ⟨v, wx, wm, fs, hx, hw, hm⟩ := a_15 x1
  exact law_fin (hx.sm (List.mem_of_getElem? (i := 33) rfl) (by decide) rfl) (hm.sm (List.mem_of_getElem? (i := 34) rfl) (by decide) rfl) (lc_15 x0 x1 x2 x3 x4 hw hs hx hm)
theorem lk_16 (x0 x1 x2 x3 x4 : Int32) (hs : x0 &&& 63 = 16) : ∃ (n : Nat) (we : ex_W), ex_run [x0, x1, x2, x3, x4] n 40 mt_0 (ex_ent mt_0 [.retAddr 0]) [] = some (some (.int 1), we) ∧ we.length ≤ 600000 ∧ ex_sl we ≤ 7302250 := by
  obtain ⟨v, wx, wm, fs, hx, hw, hm⟩ := a_16 x1
  exact law_fin (hx.sm (List.mem_of_getElem? (i := 35) rfl) (by decide) rfl) (hm.sm (List.mem_of_getElem? (i := 36) rfl) (by decide) rfl) (lc_16 x0 x1 x2 x3 x4 hw hs hx hm)
theorem lk_17 (x0 x1 x2 x3 x4 : Int32) (hs : x0 &&& 63 = 17) : ∃ (n : Nat) (we : ex_W), ex_run [x0, x1, x2, x3, x4] n 40 mt_0 (ex_ent mt_0 [.retAddr 0]) [] = some (some (.int 1), we) ∧ we.length ≤ 600000 ∧ ex_sl we ≤ 7302250 := by
  obtain ⟨v, wx, wm, fs, hx, hw, hm⟩ := a_17 
  exact law_fin (hx.sm (List.mem_of_getElem? (i := 37) rfl) (by decide) rfl) (hm.sm (List.mem_of_getElem? (i := 38) rfl) (by decide) rfl) (lc_17 x0 x1 x2 x3 x4 hw hs hx hm)
theorem lk_18 (x0 x1 x2 x3 x4 : Int32) (hs : x0 &&& 63 = 18) : ∃ (n : Nat) (we : ex_W), ex_run [x0, x1, x2, x3, x4] n 40 mt_0 (ex_ent mt_0 [.retAddr 0]) [] = some (some (.int 1), we) ∧ we.length ≤ 600000 ∧ ex_sl we ≤ 7302250 := by
  obtain ⟨v, wx, wm, fs, hx, hw, hm⟩ := a_18 x1
  exact law_fin (hx.sm (List.mem_of_getElem? (i := 39) rfl) (by decide) rfl) (hm.sm (List.mem_of_getElem? (i := 40) rfl) (by decide) rfl) (lc_18 x0 x1 x2 x3 x4 hw hs hx hm)
theorem lk_19 (x0 x1 x2 x3 x4 : Int32) (hs : x0 &&& 63 = 19) : ∃ (n : Nat) (we : ex_W), ex_run [x0, x1, x2, x3, x4] n 40 mt_0 (ex_ent mt_0 [.retAddr 0]) [] = some (some (.int 1), we) ∧ we.length ≤ 600000 ∧ ex_sl we ≤ 7302250 := by
  obtain ⟨v, wx, wm, fs, hx, hw, hm⟩ := a_19 x1
  exact law_fin (hx.sm (List.mem_of_getElem? (i := 41) rfl) (by decide) rfl) (hm.sm (List.mem_of_getElem? (i := 42) rfl) (by decide) rfl) (lc_19 x0 x1 x2 x3 x4 hw hs hx hm)
theorem lk_20 (x0 x1 x2 x3 x4 : Int32) (hs : x0 &&& 63 = 20) : ∃ (n : Nat) (we : ex_W), ex_run [x0, x1, x2, x3, x4] n 40 mt_0 (ex_ent mt_0 [.retAddr 0]) [] = some (some (.int 1), we) ∧ we.length ≤ 600000 ∧ ex_sl we ≤ 7302250 := by
  obtain ⟨v, wx, wm, fs, hx, hw, hm⟩ := a_20 x1
  exact law_fin (hx.sm (List.mem_of_getElem? (i := 43) rfl) (by decide) rfl) (hm.sm (List.mem_of_getElem? (i := 44) rfl) (by decide) rfl) (lc_20 x0 x1 x2 x3 x4 hw hs hx hm)
theorem lk_21 (x0 x1 x2 x3 x4 : Int32) (hs : x0 &&& 63 = 21) : ∃ (n : Nat) (we : ex_W), ex_run [x0, x1, x2, x3, x4] n 40 mt_0 (ex_ent mt_0 [.retAddr 0]) [] = some (some (.int 1), we) ∧ we.length ≤ 600000 ∧ ex_sl we ≤ 7302250 := by
  obtain ⟨v, wx, wm, fs, hx, hw, hm⟩ := a_21 x1
  exact law_fin (hx.sm (List.mem_of_getElem? (i := 45) rfl) (by decide) rfl) (hm.sm (List.mem_of_getElem? (i := 46) rfl) (by decide) rfl) (lc_21 x0 x1 x2 x3 x4 hw hs hx hm)
theorem lk_22 (x0 x1 x2 x3 x4 : Int32) (hs : x0 &&& 63 = 22) : ∃ (n : Nat) (we : ex_W), ex_run [x0, x1, x2, x3, x4] n 40 mt_0 (ex_ent mt_0 [.retAddr 0]) [] = some (some (.int 1), we) ∧ we.length ≤ 600000 ∧ ex_sl we ≤ 7302250 := by
  obtain ⟨v, wx, wm, fs, hx, hw, hm⟩ := a_22 x1
  exact law_fin (hx.sm (List.mem_of_getElem? (i := 47) rfl) (by decide) rfl) (hm.sm (List.mem_of_getElem? (i := 48) rfl) (by decide) rfl) (lc_22 x0 x1 x2 x3 x4 hw hs hx hm)
theorem lk_23 (x0 x1 x2 x3 x4 : Int32) (hs : x0 &&& 63 = 23) : ∃ (n : Nat) (we : ex_W), ex_run [x0, x1, x2, x3, x4] n 40 mt_0 (ex_ent mt_0 [.retAddr 0]) [] = some (some (.int 1), we) ∧ we.length ≤ 600000 ∧ ex_sl we ≤ 7302250 := by
  obtain ⟨v, wx, wm, fs, hx, hw, hm⟩ := a_23 x1
  exact law_fin (hx.sm (List.mem_of_getElem? (i := 49) rfl) (by decide) rfl) (hm.sm (List.mem_of_getElem? (i := 50) rfl) (by decide) rfl) (lc_23 x0 x1 x2 x3 x4 hw hs hx hm)
theorem lk_24 (x0 x1 x2 x3 x4 : Int32) (hs : x0 &&& 63 = 24) : ∃ (n : Nat) (we : ex_W), ex_run [x0, x1, x2, x3, x4] n 40 mt_0 (ex_ent mt_0 [.retAddr 0]) [] = some (some (.int 1), we) ∧ we.length ≤ 600000 ∧ ex_sl we ≤ 7302250 := by
  obtain ⟨v, wx, wm, fs, hx, hw, hm⟩ := a_24 x1
  exact law_fin (hx.sm (List.mem_of_getElem? (i := 51) rfl) (by decide) rfl) (hm.sm (List.mem_of_getElem? (i := 52) rfl) (by decide) rfl) (lc_24 x0 x1 x2 x3 x4 hw hs hx hm)
theorem lk_25 (x0 x1 x2 x3 x4 : Int32) (hs : x0 &&& 63 = 25) : ∃ (n : Nat) (we : ex_W), ex_run [x0, x1, x2, x3, x4] n 40 mt_0 (ex_ent mt_0 [.retAddr 0]) [] = some (some (.int 1), we) ∧ we.length ≤ 600000 ∧ ex_sl we ≤ 7302250 := by
  obtain ⟨v, wx, wm, fs, hx, hw, hm⟩ := a_25 x1 x2
  exact law_fin (hx.sm (List.mem_of_getElem? (i := 53) rfl) (by decide) rfl) (hm.sm (List.mem_of_getElem? (i := 54) rfl) (by decide) rfl) (lc_25 x0 x1 x2 x3 x4 hw hs hx hm)
theorem lk_26 (x0 x1 x2 x3 x4 : Int32) (hs : x0 &&& 63 = 26) : ∃ (n : Nat) (we : ex_W), ex_run [x0, x1, x2, x3, x4] n 40 mt_0 (ex_ent mt_0 [.retAddr 0]) [] = some (some (.int 1), we) ∧ we.length ≤ 600000 ∧ ex_sl we ≤ 7302250 := by
  obtain ⟨v, wx, wm, fs, hx, hw, hm⟩ := a_26 x1 x2
  exact law_fin (hx.sm (List.mem_of_getElem? (i := 55) rfl) (by decide) rfl) (hm.sm (List.mem_of_getElem? (i := 56) rfl) (by decide) rfl) (lc_26 x0 x1 x2 x3 x4 hw hs hx hm)
theorem lk_27 (x0 x1 x2 x3 x4 : Int32) (hs : x0 &&& 63 = 27) : ∃ (n : Nat) (we : ex_W), ex_run [x0, x1, x2, x3, x4] n 40 mt_0 (ex_ent mt_0 [.retAddr 0]) [] = some (some (.int 1), we) ∧ we.length ≤ 600000 ∧ ex_sl we ≤ 7302250 := by
  obtain ⟨v, wx, wm, fs, hx, hw, hm⟩ := a_27 x1 x2
  exact law_fin (hx.sm (List.mem_of_getElem? (i := 57) rfl) (by decide) rfl) (hm.sm (List.mem_of_getElem? (i := 58) rfl) (by decide) rfl) (lc_27 x0 x1 x2 x3 x4 hw hs hx hm)
theorem lk_28 (x0 x1 x2 x3 x4 : Int32) (hs : x0 &&& 63 = 28) : ∃ (n : Nat) (we : ex_W), ex_run [x0, x1, x2, x3, x4] n 40 mt_0 (ex_ent mt_0 [.retAddr 0]) [] = some (some (.int 1), we) ∧ we.length ≤ 600000 ∧ ex_sl we ≤ 7302250 := by
  obtain ⟨v, wx, wm, fs, hx, hw, hm⟩ := a_28 x1
  exact law_fin (hx.sm (List.mem_of_getElem? (i := 59) rfl) (by decide) rfl) (hm.sm (List.mem_of_getElem? (i := 60) rfl) (by decide) rfl) (lc_28 x0 x1 x2 x3 x4 hw hs hx hm)
theorem lk_29 (x0 x1 x2 x3 x4 : Int32) (hs : x0 &&& 63 = 29) : ∃ (n : Nat) (we : ex_W), ex_run [x0, x1, x2, x3, x4] n 40 mt_0 (ex_ent mt_0 [.retAddr 0]) [] = some (some (.int 1), we) ∧ we.length ≤ 600000 ∧ ex_sl we ≤ 7302250 := by
  obtain ⟨v, wx, wm, fs, hx, hw, hm⟩ := a_29 x1 x2
  exact law_fin (hx.sm (List.mem_of_getElem? (i := 61) rfl) (by decide) rfl) (hm.sm (List.mem_of_getElem? (i := 62) rfl) (by decide) rfl) (lc_29 x0 x1 x2 x3 x4 hw hs hx hm)
theorem lk_30 (x0 x1 x2 x3 x4 : Int32) (hs : x0 &&& 63 = 30) : ∃ (n : Nat) (we : ex_W), ex_run [x0, x1, x2, x3, x4] n 40 mt_0 (ex_ent mt_0 [.retAddr 0]) [] = some (some (.int 1), we) ∧ we.length ≤ 600000 ∧ ex_sl we ≤ 7302250 := by
  obtain ⟨v, wx, wm, fs, hx, hw, hm⟩ := a_30 
  exact law_fin (hx.sm (List.mem_of_getElem? (i := 63) rfl) (by decide) rfl) (hm.sm (List.mem_of_getElem? (i := 64) rfl) (by decide) rfl) (lc_30 x0 x1 x2 x3 x4 hw hs hx hm)
theorem lk_31 (x0 x1 x2 x3 x4 : Int32) (hs : x0 &&& 63 = 31) : ∃ (n : Nat) (we : ex_W), ex_run [x0, x1, x2, x3, x4] n 40 mt_0 (ex_ent mt_0 [.retAddr 0]) [] = some (some (.int 1), we) ∧ we.length ≤ 600000 ∧ ex_sl we ≤ 7302250 := by
  obtain ⟨v, wx, wm, fs, hx, hw, hm⟩ := a_31 x1
  exact law_fin (hx.sm (List.mem_of_getElem? (i := 65) rfl) (by decide) rfl) (hm.sm (List.mem_of_getElem? (i := 66) rfl) (by decide) rfl) (lc_31 x0 x1 x2 x3 x4 hw hs hx hm)
theorem lk_32 (x0 x1 x2 x3 x4 : Int32) (hs : x0 &&& 63 = 32) : ∃ (n : Nat) (we : ex_W), ex_run [x0, x1, x2, x3, x4] n 40 mt_0 (ex_ent mt_0 [.retAddr 0]) [] = some (some (.int 1), we) ∧ we.length ≤ 600000 ∧ ex_sl we ≤ 7302250 := by
  obtain ⟨v, wx, wm, fs, hx, hw, hm⟩ := a_32 x1 x2 x3
  exact law_fin (hx.sm (List.mem_of_getElem? (i := 67) rfl) (by decide) rfl) (hm.sm (List.mem_of_getElem? (i := 68) rfl) (by decide) rfl) (lc_32 x0 x1 x2 x3 x4 hw hs hx hm)
theorem lk_33 (x0 x1 x2 x3 x4 : Int32) (hs : x0 &&& 63 = 33) : ∃ (n : Nat) (we : ex_W), ex_run [x0, x1, x2, x3, x4] n 40 mt_0 (ex_ent mt_0 [.retAddr 0]) [] = some (some (.int 1), we) ∧ we.length ≤ 600000 ∧ ex_sl we ≤ 7302250 := by
  obtain ⟨v, wx, wm, fs, hx, hw, hm⟩ := a_33 x1
  exact law_fin (hx.sm (List.mem_of_getElem? (i := 69) rfl) (by decide) rfl) (hm.sm (List.mem_of_getElem? (i := 70) rfl) (by decide) rfl) (lc_33 x0 x1 x2 x3 x4 hw hs hx hm)
theorem lk_34 (x0 x1 x2 x3 x4 : Int32) (hs : x0 &&& 63 = 34) : ∃ (n : Nat) (we : ex_W), ex_run [x0, x1, x2, x3, x4] n 40 mt_0 (ex_ent mt_0 [.retAddr 0]) [] = some (some (.int 1), we) ∧ we.length ≤ 600000 ∧ ex_sl we ≤ 7302250 := by
  obtain ⟨v, wx, wm, fs, hx, hw, hm⟩ := a_34 x1
  exact law_fin (hx.sm (List.mem_of_getElem? (i := 71) rfl) (by decide) rfl) (hm.sm (List.mem_of_getElem? (i := 72) rfl) (by decide) rfl) (lc_34 x0 x1 x2 x3 x4 hw hs hx hm)
theorem lk_35 (x0 x1 x2 x3 x4 : Int32) (hs : x0 &&& 63 = 35) : ∃ (n : Nat) (we : ex_W), ex_run [x0, x1, x2, x3, x4] n 40 mt_0 (ex_ent mt_0 [.retAddr 0]) [] = some (some (.int 1), we) ∧ we.length ≤ 600000 ∧ ex_sl we ≤ 7302250 := by
  obtain ⟨v, wx, wm, fs, hx, hw, hm⟩ := a_35 x1 x2 x3
  exact law_fin (hx.sm (List.mem_of_getElem? (i := 73) rfl) (by decide) rfl) (hm.sm (List.mem_of_getElem? (i := 74) rfl) (by decide) rfl) (lc_35 x0 x1 x2 x3 x4 hw hs hx hm)
theorem lk_36 (x0 x1 x2 x3 x4 : Int32) (hs : x0 &&& 63 = 36) : ∃ (n : Nat) (we : ex_W), ex_run [x0, x1, x2, x3, x4] n 40 mt_0 (ex_ent mt_0 [.retAddr 0]) [] = some (some (.int 1), we) ∧ we.length ≤ 600000 ∧ ex_sl we ≤ 7302250 := by
  obtain ⟨v, wx, wm, fs, hx, hw, hm⟩ := a_36 x1 x2 x3
  exact law_fin (hx.sm (List.mem_of_getElem? (i := 75) rfl) (by decide) rfl) (hm.sm (List.mem_of_getElem? (i := 76) rfl) (by decide) rfl) (lc_36 x0 x1 x2 x3 x4 hw hs hx hm)
theorem lk_37 (x0 x1 x2 x3 x4 : Int32) (hs : x0 &&& 63 = 37) : ∃ (n : Nat) (we : ex_W), ex_run [x0, x1, x2, x3, x4] n 40 mt_0 (ex_ent mt_0 [.retAddr 0]) [] = some (some (.int 1), we) ∧ we.length ≤ 600000 ∧ ex_sl we ≤ 7302250 := by
  obtain ⟨v, wx, wm, fs, hx, hw, hm⟩ := a_37 x1 x2 x3 x4
  exact law_fin (hx.sm (List.mem_of_getElem? (i := 77) rfl) (by decide) rfl) (hm.sm (List.mem_of_getElem? (i := 78) rfl) (by decide) rfl) (lc_37 x0 x1 x2 x3 x4 hw hs hx hm)
theorem lk_38 (x0 x1 x2 x3 x4 : Int32) (hs : x0 &&& 63 = 38) : ∃ (n : Nat) (we : ex_W), ex_run [x0, x1, x2, x3, x4] n 40 mt_0 (ex_ent mt_0 [.retAddr 0]) [] = some (some (.int 1), we) ∧ we.length ≤ 600000 ∧ ex_sl we ≤ 7302250 := by
  obtain ⟨v, wx, wm, fs, hx, hw, hm⟩ := a_38 
  exact law_fin (hx.sm (List.mem_of_getElem? (i := 79) rfl) (by decide) rfl) (hm.sm (List.mem_of_getElem? (i := 80) rfl) (by decide) rfl) (lc_38 x0 x1 x2 x3 x4 hw hs hx hm)
theorem lk_39 (x0 x1 x2 x3 x4 : Int32) (hs : x0 &&& 63 = 39) : ∃ (n : Nat) (we : ex_W), ex_run [x0, x1, x2, x3, x4] n 40 mt_0 (ex_ent mt_0 [.retAddr 0]) [] = some (some (.int 1), we) ∧ we.length ≤ 600000 ∧ ex_sl we ≤ 7302250 := by
  obtain ⟨v, wx, wm, fs, hx, hw, hm⟩ := a_39 x1
  exact law_fin (hx.sm (List.mem_of_getElem? (i := 81) rfl) (by decide) rfl) (hm.sm (List.mem_of_getElem? (i := 82) rfl) (by decide) rfl) (lc_39 x0 x1 x2 x3 x4 hw hs hx hm)
theorem law_dflt (x0 x1 x2 x3 x4 : Int32) {k : Nat} (hk : 40 ≤ k ∧ k < 64) (hs : x0 &&& 63 = Int32.ofNat k) : ∃ (n : Nat) (we : ex_W), ex_run [x0, x1, x2, x3, x4] n 40 mt_0 (ex_ent mt_0 [.retAddr 0]) [] = some (some (.int 1), we) ∧ we.length ≤ 600000 ∧ ex_sl we ≤ 7302250 := by
  refine law_fin (ex_sm.rf fr_w) (ex_sm.rf fr_w) ?_
  have hI : (x0 &&& 63).toInt = (k : Int) := by rw [hs]; exact nI_toInt (by omega)
  refine Go.next (f' := (1239, [some (.retAddr 0), some (.ref 0), some (.ref 59), some (.int 0)], [])) (w' := fr_w) ((ex_stp (ins := .tableswitch 1207 0 39 #[176, 229, 252, 265, 278, 301, 324, 347, 370, 393, 416, 439, 472, 495, 508, 531, 554, 577, 590, 613, 636, 659, 682, 705, 728, 751, 784, 818, 851, 874, 907, 920, 943, 986, 1009, 1032, 1075, 1118, 1171, 1184]) rfl).trans (ex_tsw_o (x := x0 &&& 63) (by rw [hI]; omega) (by decide))) ?_
  exact law_end x0 x1 x2 x3 x4 fr_w
theorem law_all : law_ok 5 := by
  intro X hX
  match X, hX with
  | [x0, x1, x2, x3, x4], _ =>
    obtain ⟨k, hk, hs⟩ := pk_andE x0 (m := 63) 6 (by decide)
    have hk : k < 64 := hk
    match k, hk, hs with
    | 0, _, hs => exact lk_0 x0 x1 x2 x3 x4 hs
    | 1, _, hs => exact lk_1 x0 x1 x2 x3 x4 hs
    | 2, _, hs => exact lk_2 x0 x1 x2 x3 x4 hs
    | 3, _, hs => exact lk_3 x0 x1 x2 x3 x4 hs
    | 4, _, hs => exact lk_4 x0 x1 x2 x3 x4 hs
    | 5, _, hs => exact lk_5 x0 x1 x2 x3 x4 hs
    | 6, _, hs => exact lk_6 x0 x1 x2 x3 x4 hs
    | 7, _, hs => exact lk_7 x0 x1 x2 x3 x4 hs
    | 8, _, hs => exact lk_8 x0 x1 x2 x3 x4 hs
    | 9, _, hs => exact lk_9 x0 x1 x2 x3 x4 hs
    | 10, _, hs => exact lk_10 x0 x1 x2 x3 x4 hs
    | 11, _, hs => exact lk_11 x0 x1 x2 x3 x4 hs
    | 12, _, hs => exact lk_12 x0 x1 x2 x3 x4 hs
    | 13, _, hs => exact lk_13 x0 x1 x2 x3 x4 hs
    | 14, _, hs => exact lk_14 x0 x1 x2 x3 x4 hs
    | 15, _, hs => exact lk_15 x0 x1 x2 x3 x4 hs
    | 16, _, hs => exact lk_16 x0 x1 x2 x3 x4 hs
    | 17, _, hs => exact lk_17 x0 x1 x2 x3 x4 hs
    | 18, _, hs => exact lk_18 x0 x1 x2 x3 x4 hs
    | 19, _, hs => exact lk_19 x0 x1 x2 x3 x4 hs
    | 20, _, hs => exact lk_20 x0 x1 x2 x3 x4 hs
    | 21, _, hs => exact lk_21 x0 x1 x2 x3 x4 hs
    | 22, _, hs => exact lk_22 x0 x1 x2 x3 x4 hs
    | 23, _, hs => exact lk_23 x0 x1 x2 x3 x4 hs
    | 24, _, hs => exact lk_24 x0 x1 x2 x3 x4 hs
    | 25, _, hs => exact lk_25 x0 x1 x2 x3 x4 hs
    | 26, _, hs => exact lk_26 x0 x1 x2 x3 x4 hs
    | 27, _, hs => exact lk_27 x0 x1 x2 x3 x4 hs
    | 28, _, hs => exact lk_28 x0 x1 x2 x3 x4 hs
    | 29, _, hs => exact lk_29 x0 x1 x2 x3 x4 hs
    | 30, _, hs => exact lk_30 x0 x1 x2 x3 x4 hs
    | 31, _, hs => exact lk_31 x0 x1 x2 x3 x4 hs
    | 32, _, hs => exact lk_32 x0 x1 x2 x3 x4 hs
    | 33, _, hs => exact lk_33 x0 x1 x2 x3 x4 hs
    | 34, _, hs => exact lk_34 x0 x1 x2 x3 x4 hs
    | 35, _, hs => exact lk_35 x0 x1 x2 x3 x4 hs
    | 36, _, hs => exact lk_36 x0 x1 x2 x3 x4 hs
    | 37, _, hs => exact lk_37 x0 x1 x2 x3 x4 hs
    | 38, _, hs => exact lk_38 x0 x1 x2 x3 x4 hs
    | 39, _, hs => exact lk_39 x0 x1 x2 x3 x4 hs
    | n + 40, hk, hs => exact law_dflt x0 x1 x2 x3 x4 ⟨by omega, hk⟩ hs
  | [], _ =>
    obtain ⟨n, hn⟩ := law_pre (X := []) (law_out (w := fr_w) (i := 0) (a := 0) (b := 59) (show ex_c2 .gt 0 (Int32.ofNat 0 - 5) = true by decide +kernel))
    exact ⟨n, fr_w, hn, by decide, by decide +kernel⟩
  | [y0], _ =>
    obtain ⟨n, hn⟩ := law_pre (X := [y0]) (law_out (w := fr_w) (i := 0) (a := 0) (b := 59) (show ex_c2 .gt 0 (Int32.ofNat 1 - 5) = true by decide +kernel))
    exact ⟨n, fr_w, hn, by decide, by decide +kernel⟩
  | [y0, y1], _ =>
    obtain ⟨n, hn⟩ := law_pre (X := [y0, y1]) (law_out (w := fr_w) (i := 0) (a := 0) (b := 59) (show ex_c2 .gt 0 (Int32.ofNat 2 - 5) = true by decide +kernel))
    exact ⟨n, fr_w, hn, by decide, by decide +kernel⟩
  | [y0, y1, y2], _ =>
    obtain ⟨n, hn⟩ := law_pre (X := [y0, y1, y2]) (law_out (w := fr_w) (i := 0) (a := 0) (b := 59) (show ex_c2 .gt 0 (Int32.ofNat 3 - 5) = true by decide +kernel))
    exact ⟨n, fr_w, hn, by decide, by decide +kernel⟩
  | [y0, y1, y2, y3], _ =>
    obtain ⟨n, hn⟩ := law_pre (X := [y0, y1, y2, y3]) (law_out (w := fr_w) (i := 0) (a := 0) (b := 59) (show ex_c2 .gt 0 (Int32.ofNat 4 - 5) = true by decide +kernel))
    exact ⟨n, fr_w, hn, by decide, by decide +kernel⟩
  | _ :: _ :: _ :: _ :: _ :: _ :: _, h => exact absurd h (by simp)
