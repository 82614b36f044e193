/-! alike, reads: the kernel runs them, a number at a time. -/
set_option maxRecDepth 1000000 in
theorem al_0 : ck2 mt_59 mt_60 20000 [.int (Int32.ofNat 0)] = true := by decide +kernel
set_option maxRecDepth 1000000 in
theorem al_1 : ck2 mt_59 mt_60 20000 [.int (Int32.ofNat 1)] = true := by decide +kernel
set_option maxRecDepth 1000000 in
theorem al_2 : ck2 mt_59 mt_60 20000 [.int (Int32.ofNat 2)] = true := by decide +kernel
set_option maxRecDepth 1000000 in
theorem al_3 : ck2 mt_59 mt_60 20000 [.int (Int32.ofNat 3)] = true := by decide +kernel
set_option maxRecDepth 1000000 in
theorem al_4 : ck2 mt_59 mt_60 20000 [.int (Int32.ofNat 4)] = true := by decide +kernel
set_option maxRecDepth 1000000 in
theorem al_5 : ck2 mt_59 mt_60 20000 [.int (Int32.ofNat 5)] = true := by decide +kernel
set_option maxRecDepth 1000000 in
theorem al_6 : ck2 mt_59 mt_60 20000 [.int (Int32.ofNat 6)] = true := by decide +kernel
set_option maxRecDepth 1000000 in
theorem al_7 : ck2 mt_59 mt_60 20000 [.int (Int32.ofNat 7)] = true := by decide +kernel
set_option maxRecDepth 1000000 in
theorem al_8 : ck2 mt_59 mt_60 20000 [.int (Int32.ofNat 8)] = true := by decide +kernel
set_option maxRecDepth 1000000 in
theorem al_9 : ck2 mt_59 mt_60 20000 [.int (Int32.ofNat 9)] = true := by decide +kernel
set_option maxRecDepth 1000000 in
theorem al_10 : ck2 mt_59 mt_60 20000 [.int (Int32.ofNat 10)] = true := by decide +kernel
theorem in_28 {x : Int32} (h1 : 0 ≤ x.toInt) (h2 : x.toInt < 11) : A2 mt_59 mt_60 [.int x] := by
  have h3 : x.toInt.toNat < 11 := by omega
  rw [ofI h1]
  generalize x.toInt.toNat = n at h3 ⊢
  match n, h3 with
  | 0, _ => exact ck2_of al_0
  | 1, _ => exact ck2_of al_1
  | 2, _ => exact ck2_of al_2
  | 3, _ => exact ck2_of al_3
  | 4, _ => exact ck2_of al_4
  | 5, _ => exact ck2_of al_5
  | 6, _ => exact ck2_of al_6
  | 7, _ => exact ck2_of al_7
  | 8, _ => exact ck2_of al_8
  | 9, _ => exact ck2_of al_9
  | 10, _ => exact ck2_of al_10
  | n + 11, h => exact absurd h (by omega)
set_option maxRecDepth 1000000 in
theorem rd_0 : (List.range 12).all (fun u => ck2 mt_57 mt_58 20000 [.int (Int32.ofNat 0), .int (Int32.ofNat (1 + u))]) = true := by decide +kernel
set_option maxRecDepth 1000000 in
theorem rd_1 : (List.range 12).all (fun u => ck2 mt_57 mt_58 20000 [.int (Int32.ofNat 1), .int (Int32.ofNat (1 + u))]) = true := by decide +kernel
set_option maxRecDepth 1000000 in
theorem rd_2 : (List.range 12).all (fun u => ck2 mt_57 mt_58 20000 [.int (Int32.ofNat 2), .int (Int32.ofNat (1 + u))]) = true := by decide +kernel
set_option maxRecDepth 1000000 in
theorem rd_3 : (List.range 12).all (fun u => ck2 mt_57 mt_58 20000 [.int (Int32.ofNat 3), .int (Int32.ofNat (1 + u))]) = true := by decide +kernel
set_option maxRecDepth 1000000 in
theorem rd_4 : (List.range 12).all (fun u => ck2 mt_57 mt_58 20000 [.int (Int32.ofNat 4), .int (Int32.ofNat (1 + u))]) = true := by decide +kernel
set_option maxRecDepth 1000000 in
theorem rd_5 : (List.range 12).all (fun u => ck2 mt_57 mt_58 20000 [.int (Int32.ofNat 5), .int (Int32.ofNat (1 + u))]) = true := by decide +kernel
set_option maxRecDepth 1000000 in
theorem rd_6 : (List.range 12).all (fun u => ck2 mt_57 mt_58 20000 [.int (Int32.ofNat 6), .int (Int32.ofNat (1 + u))]) = true := by decide +kernel
set_option maxRecDepth 1000000 in
theorem rd_7 : (List.range 12).all (fun u => ck2 mt_57 mt_58 20000 [.int (Int32.ofNat 7), .int (Int32.ofNat (1 + u))]) = true := by decide +kernel
set_option maxRecDepth 1000000 in
theorem rd_8 : (List.range 12).all (fun u => ck2 mt_57 mt_58 20000 [.int (Int32.ofNat 8), .int (Int32.ofNat (1 + u))]) = true := by decide +kernel
set_option maxRecDepth 1000000 in
theorem rd_9 : (List.range 12).all (fun u => ck2 mt_57 mt_58 20000 [.int (Int32.ofNat 9), .int (Int32.ofNat (1 + u))]) = true := by decide +kernel
set_option maxRecDepth 1000000 in
theorem rd_10 : (List.range 12).all (fun u => ck2 mt_57 mt_58 20000 [.int (Int32.ofNat 10), .int (Int32.ofNat (1 + u))]) = true := by decide +kernel
theorem in_27 {x y : Int32} (h1 : 0 ≤ x.toInt) (h2 : x.toInt < 11) (h3 : 1 ≤ y.toInt) (h4 : y.toInt < 13) : A2 mt_57 mt_58 [.int x, .int y] := by
  have h5 : x.toInt.toNat < 11 := by omega
  have h6 : ∀ n, n < 11 → (List.range 12).all (fun u => ck2 mt_57 mt_58 20000 [.int (Int32.ofNat n), .int (Int32.ofNat (1 + u))]) = true := by
    intro n h
    match n, h with
    | 0, _ => exact rd_0
    | 1, _ => exact rd_1
    | 2, _ => exact rd_2
    | 3, _ => exact rd_3
    | 4, _ => exact rd_4
    | 5, _ => exact rd_5
    | 6, _ => exact rd_6
    | 7, _ => exact rd_7
    | 8, _ => exact rd_8
    | 9, _ => exact rd_9
    | 10, _ => exact rd_10
    | n + 11, h => exact absurd h (by omega)
  have h7 := List.all_eq_true.mp (h6 _ h5) (y.toInt.toNat - 1) (List.mem_range.mpr (by omega))
  rw [show 1 + (y.toInt.toNat - 1) = y.toInt.toNat by omega, ← ofI h1, ← ofI (by omega)] at h7
  exact ck2_of h7
