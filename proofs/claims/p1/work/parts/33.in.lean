/-! SINGLE METHODS ON THE FRESH OBJECTS, numbers within their bounds: the kernel runs them. Written by wip/p1in.py. -/
theorem ofI {x : Int32} (h : 0 ≤ x.toInt) : x = Int32.ofNat x.toInt.toNat := by
  apply Int32.toInt_inj.mp
  have h1 : x.toInt.toNat < 2 ^ 31 := by
    have := Int32.toInt_lt x
    omega
  have h2 := nI_toInt h1
  have h3 : (Int32.ofNat x.toInt.toNat).toInt = (x.toInt.toNat : Int) := h2
  rw [h3]
  omega
theorem in1 {jx jm : ex_M} {n lo k : Nat} (h : (List.range k).all (fun v => ck2 jx jm n [.int (Int32.ofNat (lo + v))]) = true) {x : Int32} (h1 : (lo : Int) ≤ x.toInt) (h2 : x.toInt < (lo : Int) + k) : A2 jx jm [.int x] := by
  have h3 := List.all_eq_true.mp h (x.toInt.toNat - lo) (List.mem_range.mpr (by omega))
  rw [show lo + (x.toInt.toNat - lo) = x.toInt.toNat by omega, ← ofI (by omega)] at h3
  exact ck2_of h3
theorem in2 {jx jm : ex_M} {n lo k lo2 k2 : Nat} (h : (List.range k).all (fun v => (List.range k2).all (fun u => ck2 jx jm n [.int (Int32.ofNat (lo + v)), .int (Int32.ofNat (lo2 + u))])) = true) {x y : Int32} (h1 : (lo : Int) ≤ x.toInt) (h2 : x.toInt < (lo : Int) + k) (h3 : (lo2 : Int) ≤ y.toInt) (h4 : y.toInt < (lo2 : Int) + k2) : A2 jx jm [.int x, .int y] := by
  have h5 := List.all_eq_true.mp h (x.toInt.toNat - lo) (List.mem_range.mpr (by omega))
  have h6 := List.all_eq_true.mp h5 (y.toInt.toNat - lo2) (List.mem_range.mpr (by omega))
  rw [show lo + (x.toInt.toNat - lo) = x.toInt.toNat by omega, ← ofI (by omega), show lo2 + (y.toInt.toNat - lo2) = y.toInt.toNat by omega, ← ofI (by omega)] at h6
  exact ck2_of h6
set_option maxRecDepth 1000000 in
theorem in_2 : ck2 mt_7 mt_8 20000 [] = true := by decide +kernel
set_option maxRecDepth 1000000 in
theorem in_3 : ck2 mt_9 mt_10 20000 [] = true := by decide +kernel
set_option maxRecDepth 1000000 in
theorem in_13 : ck2 mt_29 mt_30 20000 [] = true := by decide +kernel
set_option maxRecDepth 1000000 in
theorem in_17 : ck2 mt_37 mt_38 20000 [] = true := by decide +kernel
set_option maxRecDepth 1000000 in
theorem in_30 : ck2 mt_63 mt_64 20000 [] = true := by decide +kernel
set_option maxRecDepth 1000000 in
theorem in_38 : ck2 mt_79 mt_80 20000 [] = true := by decide +kernel
set_option maxRecDepth 1000000 in
theorem in_1 : (List.range 1).all (fun v => ck2 mt_5 mt_6 20000 [.int (Int32.ofNat (0 + v))]) = true := by decide +kernel
set_option maxRecDepth 1000000 in
theorem in_4 : (List.range 6).all (fun v => ck2 mt_11 mt_12 20000 [.int (Int32.ofNat (0 + v))]) = true := by decide +kernel
set_option maxRecDepth 1000000 in
theorem in_6 : (List.range 2).all (fun v => ck2 mt_15 mt_16 20000 [.int (Int32.ofNat (0 + v))]) = true := by decide +kernel
set_option maxRecDepth 1000000 in
theorem in_7 : (List.range 12).all (fun v => ck2 mt_17 mt_18 20000 [.int (Int32.ofNat (1 + v))]) = true := by decide +kernel
set_option maxRecDepth 1000000 in
theorem in_8 : (List.range 21).all (fun v => ck2 mt_19 mt_20 20000 [.int (Int32.ofNat (0 + v))]) = true := by decide +kernel
set_option maxRecDepth 1000000 in
theorem in_9 : (List.range 2).all (fun v => ck2 mt_21 mt_22 20000 [.int (Int32.ofNat (0 + v))]) = true := by decide +kernel
set_option maxRecDepth 1000000 in
theorem in_10 : (List.range 3).all (fun v => ck2 mt_23 mt_24 20000 [.int (Int32.ofNat (0 + v))]) = true := by decide +kernel
set_option maxRecDepth 1000000 in
theorem in_12 : (List.range 1).all (fun v => ck2 mt_27 mt_28 20000 [.int (Int32.ofNat (0 + v))]) = true := by decide +kernel
set_option maxRecDepth 1000000 in
theorem in_14 : (List.range 12).all (fun v => ck2 mt_31 mt_32 20000 [.int (Int32.ofNat (1 + v))]) = true := by decide +kernel
set_option maxRecDepth 1000000 in
theorem in_15 : (List.range 2).all (fun v => ck2 mt_33 mt_34 20000 [.int (Int32.ofNat (0 + v))]) = true := by decide +kernel
set_option maxRecDepth 1000000 in
theorem in_16 : (List.range 13).all (fun v => ck2 mt_35 mt_36 20000 [.int (Int32.ofNat (0 + v))]) = true := by decide +kernel
set_option maxRecDepth 1000000 in
theorem in_18 : (List.range 13).all (fun v => ck2 mt_39 mt_40 20000 [.int (Int32.ofNat (0 + v))]) = true := by decide +kernel
set_option maxRecDepth 1000000 in
theorem in_19 : (List.range 1).all (fun v => ck2 mt_41 mt_42 20000 [.int (Int32.ofNat (0 + v))]) = true := by decide +kernel
set_option maxRecDepth 1000000 in
theorem in_20 : (List.range 2).all (fun v => ck2 mt_43 mt_44 20000 [.int (Int32.ofNat (0 + v))]) = true := by decide +kernel
set_option maxRecDepth 1000000 in
theorem in_21 : (List.range 2).all (fun v => ck2 mt_45 mt_46 20000 [.int (Int32.ofNat (0 + v))]) = true := by decide +kernel
set_option maxRecDepth 1000000 in
theorem in_22 : (List.range 1).all (fun v => ck2 mt_47 mt_48 20000 [.int (Int32.ofNat (0 + v))]) = true := by decide +kernel
set_option maxRecDepth 1000000 in
theorem in_33 : (List.range 2).all (fun v => ck2 mt_69 mt_70 20000 [.int (Int32.ofNat (0 + v))]) = true := by decide +kernel
set_option maxRecDepth 1000000 in
theorem in_34 : (List.range 2).all (fun v => ck2 mt_71 mt_72 20000 [.int (Int32.ofNat (0 + v))]) = true := by decide +kernel
set_option maxRecDepth 1000000 in
theorem in_39 : (List.range 7).all (fun v => ck2 mt_81 mt_82 20000 [.int (Int32.ofNat (0 + v))]) = true := by decide +kernel
set_option maxRecDepth 1000000 in
theorem in_23_a : (List.range 1).all (fun v => ck2 mt_49 mt_50 20000 [.int (Int32.ofNat (0 + v))]) = true := by decide +kernel
set_option maxRecDepth 1000000 in
theorem in_23_b : (List.range 5).all (fun v => ck2 mt_49 mt_50 20000 [.int (Int32.ofNat (10 + v))]) = true := by decide +kernel
set_option maxRecDepth 1000000 in
theorem in_24_a : (List.range 1).all (fun v => ck2 mt_51 mt_52 20000 [.int (Int32.ofNat (0 + v))]) = true := by decide +kernel
set_option maxRecDepth 1000000 in
theorem in_24_b : (List.range 5).all (fun v => ck2 mt_51 mt_52 20000 [.int (Int32.ofNat (10 + v))]) = true := by decide +kernel
set_option maxRecDepth 1000000 in
theorem in_31_a : (List.range 1).all (fun v => ck2 mt_65 mt_66 20000 [.int (Int32.ofNat (0 + v))]) = true := by decide +kernel
set_option maxRecDepth 1000000 in
theorem in_31_b : (List.range 4).all (fun v => ck2 mt_65 mt_66 20000 [.int (Int32.ofNat (10 + v))]) = true := by decide +kernel
set_option maxRecDepth 1000000 in
theorem in_31_c : (List.range 4).all (fun v => ck2 mt_65 mt_66 20000 [.int (Int32.ofNat (20 + v))]) = true := by decide +kernel
set_option maxRecDepth 1000000 in
theorem in_29 : (List.range 2).all (fun v => (List.range 5).all (fun u => ck2 mt_61 mt_62 20000 [.int (Int32.ofNat (0 + v)), .int (Int32.ofNat (0 + u))])) = true := by decide +kernel
set_option maxRecDepth 1000000 in
theorem in_11_a : (List.range 12).all (fun v => (List.range 2).all (fun u => ck2 mt_25 mt_26 20000 [.int (Int32.ofNat (1 + v)), .int (Int32.ofNat (0 + u))])) = true := by decide +kernel
set_option maxRecDepth 1000000 in
theorem in_11_b : (List.range 12).all (fun v => ck2 mt_25 mt_26 20000 [.int (Int32.ofNat (1 + v)), .int (-4)]) = true := by decide +kernel
