/-! THE FRESH OBJECTS: what the two constructors make. -/
def fr_c : ex_W := [.inr (.inr (7, [.ref 15, .ref 17, .ref 21, .ref 26, .ref 32, .ref 35, .ref 34, .ref 50, .ref 33, .ref 1, .ref 8, .int 0, .int 0, .int 0])),
  .inr (.inr (6, [.ref 2, .ref 3, .ref 4, .ref 5, .ref 6, .ref 7, .int 12, .int 2, .int 0, .int 0, .int 0, .int 0, .int 0, .int 0])),
  .inl (.int, [1, 1, 1, 1]),
  .inl (.int, [(-4), (-4), (-4), (-4), (-4), (-4), (-4), (-4), (-4), (-4), (-4), (-4), (-4), (-4), (-4), (-4), (-4)]),
  .inl (.int, List.replicate 60 0),
  .inl (.int, [0, 0, 0, 0, 0]),
  .inl (.int, [0, 0, 0, 0]),
  .inl (.int, [0, 0, 0, 0]),
  .inr (.inr (6, [.ref 9, .ref 10, .ref 11, .ref 12, .ref 13, .ref 14, .int 12, .int 2, .int 0, .int 0, .int 0, .int 0, .int 0, .int 0])),
  .inl (.int, [1, 1, 1, 1]),
  .inl (.int, [(-4), (-4), (-4), (-4), (-4), (-4), (-4), (-4), (-4), (-4), (-4), (-4), (-4), (-4), (-4), (-4), (-4)]),
  .inl (.int, List.replicate 60 0),
  .inl (.int, [0, 0, 0, 0, 0]),
  .inl (.int, [0, 0, 0, 0]),
  .inl (.int, [0, 0, 0, 0]),
  .inr (.inr (5, [.ref 16, .int 0, .int 0, .int 0, .ref 8, .int 0, .int 0, .int 0, .int 0, .int 0])),
  .inl (.byte, List.replicate 400 0),
  .inr (.inr (0, [.ref 18, .ref 19, .ref 20, .ref 1, .int 0])),
  .inl (.int, List.replicate 128 0),
  .inl (.int, List.replicate 128 0),
  .inl (.int, [0, 0, 0, 0, 0, 0, 0, 0, 0, 0, 0, 0, 0, 0, 0, 0, 0]),
  .inr (.inr (2, [.ref 17, .ref 22, .ref 23, .ref 24, .ref 25, .int 0, .int 0])),
  .inl (.int, [0, 0, 0, 0, 0]),
  .inl (.int, [0, 0, 0, 0, 0, 0]),
  .inl (.int, [0, 0, 0, 0, 0]),
  .inl (.int, [0, 0, 0, 0, 0]),
  .inr (.inr (1, [.ref 17, .ref 27, .ref 28, .ref 29, .ref 30, .ref 31, .int 0, .int 0])),
  .inl (.int, [0, 0, 0, 0]),
  .inl (.int, [0, 0, 0, 0]),
  .inl (.int, [0, 0, 0, 0]),
  .inl (.int, [0, 0, 0, 0]),
  .inl (.int, [0, 0, 0, 0]),
  .inr (.inr (3, [.int 0, .int 0, .int 0, .int 0, .int 0])),
  .inl (.int, [0, 0, 0, 0, 0, 0, 0, 0, 0, 0, 0, 0]),
  .inl (.boolean, [0, 0]),
  .inr (.inl (6, [some 36, some 43])),
  .inr (.inr (6, [.ref 37, .ref 38, .ref 39, .ref 40, .ref 41, .ref 42, .int 12, .int 2, .int 0, .int 0, .int 0, .int 0, .int 0, .int 0])),
  .inl (.int, [1, 1, 1, 1]),
  .inl (.int, [(-4), (-4), (-4), (-4), (-4), (-4), (-4), (-4), (-4), (-4), (-4), (-4), (-4), (-4), (-4), (-4), (-4)]),
  .inl (.int, List.replicate 60 0),
  .inl (.int, [0, 0, 0, 0, 0]),
  .inl (.int, [0, 0, 0, 0]),
  .inl (.int, [0, 0, 0, 0]),
  .inr (.inr (6, [.ref 44, .ref 45, .ref 46, .ref 47, .ref 48, .ref 49, .int 12, .int 2, .int 0, .int 0, .int 0, .int 0, .int 0, .int 0])),
  .inl (.int, [1, 1, 1, 1]),
  .inl (.int, [(-4), (-4), (-4), (-4), (-4), (-4), (-4), (-4), (-4), (-4), (-4), (-4), (-4), (-4), (-4), (-4), (-4)]),
  .inl (.int, List.replicate 60 0),
  .inl (.int, [0, 0, 0, 0, 0]),
  .inl (.int, [0, 0, 0, 0]),
  .inl (.int, [0, 0, 0, 0]),
  .inr (.inl (4, [some 51, some 53, some 55, some 57])),
  .inr (.inr (4, [.ref 52, .int (-1), .int 0])),
  .inl (.int, List.replicate 40 0),
  .inr (.inr (4, [.ref 54, .int (-1), .int 0])),
  .inl (.int, List.replicate 40 0),
  .inr (.inr (4, [.ref 56, .int (-1), .int 0])),
  .inl (.int, List.replicate 40 0),
  .inr (.inr (4, [.ref 58, .int (-1), .int 0])),
  .inl (.int, List.replicate 40 0)]
def fr_m : ex_W := [.inr (.inr (8, [.ref 60, .ref 61, .int 12, .int 2, .ref 62, .ref 63, .int 0, .ref 64, .int 12, .int 2, .ref 65, .int 0, .int 0, .int (-4), .ref 66, .int 0, .int 0, .int 0, .int 0, .int 0, .int 0, .int 0, .ref 67, .int 0, .ref 68, .ref 69, .int 0, .ref 70, .ref 71, .ref 72, .ref 73, .ref 74, .ref 75, .int 0])),
  .inl (.int, [0, 0, 0, 0, 0, 0, 0, 0, 0, 0, 0, 0, 0, 0, 0, 0, 0, 0, 0, 0, 0, 0, 0, 0, 0, 0, 0, 0, 0, 0, 0, 0, 0, 0, 0, 0, 0, 0, 0, 0, 0, 0, 0, 0, 0, 0, 0, 0, 0, 0, 0, 0, 0, 0, 0, 0, 0, 0, 0, 0, 0, (-4), (-4), (-4), (-4), (-4), (-4), (-4), (-4), (-4), (-4), (-4), (-4), (-4), (-4), (-4), (-4), (-4), 0, 0, 0, 0, 0, 0, 0, 0, 0, 0, 0, 0, 0, 0, 0, 0, 0, 0, 0, 0, 0, 0, 0, 0, 0, 0, 0, 0, 0, 0, 0, 0, 0, 0, 0, 0, 0, 0, 0, 0, 0, 0, 0, 0, 0, 0, 0, 0, 0, 0, 0, 0, 0, 0, 0, 0, 0, 0, 0, 0, 0, 0, 0, 0, 0, 0, 0, 0, 0, 0, 0, 0, 0, 0, 0, 0, 0, 0, 0, 0, 0, 0, 0, 0, 0, 0, 0, 0, 0, 0, 0, 0, 0, 0, 0, 0, 0, 0, 0, 0, 0, 0, 0, 0, 0, 0, 0, 0, 0, 0, 0, 0, 0, 0, 0, 0, 0, 0, 0, 0, 0, 0, 0, 0, 0, 0, 0, 0, 0, 0, 0, 0, 0, 0, 0, 0, 0, 0, 0, 0, 0, 0, 0, 0, 0, 0, 0, 0, 0, 0, 0, 0, 0, 0, 0, 0, 0, 0, 0, 0, 0, 0, 0, 0, 0, 0, 0, 0, 0, 0, 0, 0, 0, 0, 0, 0, 0, 0, 0, 0, 0, 0, 0, 0, 0, 0, 0, 0, 0, 0, 0, 0, 0, 0, 0, 0, 0, 0, 0, 0, 0, 0, 0, 0, 0, 0, 0, 0, 0, 0]),
  .inl (.boolean, [0, 0]),
  .inl (.int, [1, 1, 1, 1]),
  .inl (.int, [0, 0, 0, 0, 0, 0, 0, 0, 0, 0, 0, 0]),
  .inl (.int, [0, 0, 0, 0, 0, 0, 0, 0, 0, 0, 0, 0, 0, 0, 0, 0, 0, 0, 0, 0, 0, 0, 0, 0, 0, 0, 0, 0, 0, 0, 0, 0, 0, 0, 0, 0, 0, 0, 0, 0, 0, 0, 0, 0, 0, 0, 0, 0, 0, 0, 0, 0, 0, 0, 0, 0, 0, 0, 0, 0, 0, (-4), (-4), (-4), (-4), (-4), (-4), (-4), (-4), (-4), (-4), (-4), (-4), (-4), (-4), (-4), (-4), (-4), 0, 0, 0, 0, 0, 0, 0, 0, 0, 0, 0, 0, 0, 0, 0, 0, 0, 0]),
  .inl (.int, [1, 1, 1, 1]),
  .inl (.int, List.replicate 400 0),
  .inl (.int, List.replicate 130 0),
  .inl (.int, [0, 0, 0, 0, 0]),
  .inl (.int, [0, 0, 0, 0, 0]),
  .inl (.int, [0, 0, 0, 0, 0, 0, 0, 0, 0, 0, 0, 0, 0, 0, 0, 0, 0]),
  .inl (.int, [0, 0, 0, 0, 0]),
  .inl (.int, [0, 0, 0, 0, 0]),
  .inl (.int, [(-4), (-4), (-4), (-4)]),
  .inl (.int, [0, 0, 0, 0]),
  .inl (.int, List.replicate 160 0)]
/-- cells that are the same, by numbers -/
noncomputable def ex_eqE (x y : ex_E) : Bool := match x, y with
  | .inl (t, l), .inl (t', l') => decide (t = t') && decide (l = l')
  | .inr (.inl (c, l)), .inr (.inl (c', l')) => decide (c = c') && decide (l = l')
  | .inr (.inr (c, l)), .inr (.inr (c', l')) => decide (c = c') && decide (l = l')
  | _, _ => false
theorem ex_eqE_of {x y : ex_E} (h : ex_eqE x y = true) : x = y := by
  unfold ex_eqE at h
  split at h
  · simp only [Bool.and_eq_true, decide_eq_true_eq] at h
    rw [h.1, h.2]
  · simp only [Bool.and_eq_true, decide_eq_true_eq] at h
    rw [h.1, h.2]
  · simp only [Bool.and_eq_true, decide_eq_true_eq] at h
    rw [h.1, h.2]
  · cases h
noncomputable def ex_eqW (a : ex_W) : ex_W → Bool := List.rec (motive := fun _ => ex_W → Bool) (fun b => b.isEmpty) (fun x _ ih b => List.casesOn (motive := fun _ => Bool) b false (fun y s => ex_eqE x y && ih s)) a
theorem ex_eqW_of (a : ex_W) : ∀ b : ex_W, ex_eqW a b = true → a = b := by
  induction a with
  | nil =>
    intro b h
    cases b with
    | nil => rfl
    | cons y s => cases h
  | cons x r ih =>
    intro b h
    cases b with
    | nil => cases h
    | cons y s =>
      have h : (ex_eqE x y && ex_eqW r s) = true := h
      rw [Bool.and_eq_true] at h
      rw [ex_eqE_of h.1, ih s h.2]
/-- a run's answer and cells -/
noncomputable def ex_is (q : Option (Option Value × ex_W)) (r : Option Value) (w : ex_W) : Bool := match q with
  | some (v, u) => decide (v = r) && ex_eqW u w
  | none => false
theorem ex_is_of {q : Option (Option Value × ex_W)} {r : Option Value} {w : ex_W} (h : ex_is q r w = true) : q = some (r, w) := by
  unfold ex_is at h
  split at h
  · simp only [Bool.and_eq_true, decide_eq_true_eq] at h
    rw [h.1, ex_eqW_of _ _ h.2]
  · cases h
set_option maxRecDepth 1000000 in
theorem fr_run_c : ex_is (ex_run [] 3000 39 mt_1 (ex_ent mt_1 [.ref 0]) [.inr (.inr (7, ex_dfl 7))]) none fr_c = true := by decide +kernel
set_option maxRecDepth 1000000 in
theorem fr_run_m : ex_is (ex_run [] 5000 39 mt_2 (ex_ent mt_2 [.ref 59]) (fr_c ++ [.inr (.inr (8, ex_dfl 8))])) none (fr_c ++ fr_m) = true := by decide +kernel
