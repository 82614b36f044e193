/-! BITS of a number; what may be rung, as a predicate. -/
def bt (b : Int32) (j : Nat) : Bool := b.toBitVec.getLsbD j
theorem bt_or (a b : Int32) (j : Nat) : bt (a ||| b) j = (bt a j || bt b j) := by
  unfold bt
  rw [Int32.toBitVec_or, BitVec.getLsbD_or]
theorem bt_and (a b : Int32) (j : Nat) : bt (a &&& b) j = (bt a j && bt b j) := by
  unfold bt
  rw [Int32.toBitVec_and, BitVec.getLsbD_and]
theorem bt_xor (a b : Int32) (j : Nat) : bt (a ^^^ b) j = (bt a j ^^ bt b j) := by
  unfold bt
  rw [Int32.toBitVec_xor, BitVec.getLsbD_xor]
theorem bt_ext {a b : Int32} (h : ∀ j, j < 32 → bt a j = bt b j) : a = b := Int32.toBitVec.inj (BitVec.eq_of_getLsbD_eq (fun i hi => h i hi))
set_option maxRecDepth 100000 in
theorem bt_one : ∀ k, k < 32 → ∀ j, j < 32 → bt ((1 : Int32) <<< (nI k &&& 31)) j = decide (j = k) := by decide +kernel
theorem bt_m1 : ∀ j, j < 32 → bt (Int32.ofInt (-1)) j = true := by decide +kernel
theorem bt_0 : ∀ j, j < 32 → bt 0 j = false := by decide +kernel
theorem bt_z {b : Int32} {k : Nat} (hk : k < 32) : (b &&& ((1 : Int32) <<< (nI k &&& 31))).toInt = 0 ↔ bt b k = false := by
  constructor
  · intro h
    have e : b &&& ((1 : Int32) <<< (nI k &&& 31)) = 0 := Int32.toInt_inj.mp (h.trans (by decide))
    have h2 : bt (b &&& ((1 : Int32) <<< (nI k &&& 31))) k = bt 0 k := congrArg (fun x => bt x k) e
    rw [bt_and, bt_one k hk k hk, bt_0 k hk, decide_eq_true rfl, Bool.and_true] at h2
    exact h2
  · intro h
    have e : b &&& ((1 : Int32) <<< (nI k &&& 31)) = 0 := bt_ext (fun j hj => by
      rw [bt_and, bt_one k hk j hj, bt_0 j hj]
      by_cases e : j = k
      · rw [e, h, Bool.false_and]
      · rw [decide_eq_false e, Bool.and_false])
    rw [e]
    decide
/-- the gap lets a number be rung on day Y, m days being known -/
def okG (R : Nat → Int) (m : Nat) (Y g x : Int) : Bool := decide (lst R x m = -1) || (decide (0 < g) && decide (Y - lst R x m ≥ g))
/-- yesterday's lets it -/
def okN (R : Nat → Int) (m : Nat) (ne x : Int) : Bool := !(decide (ne = 1) && (decide (0 < m) && (decide (0 < R (m - 1)) && (decide (x = R (m - 1) - 1) || decide (x = R (m - 1) + 1)))))
def okP (R : Nat → Int) (m : Nat) (g ne x : Int) : Bool := okG R m m g x && okN R m ne x
theorem lst_cg {R R' : Nat → Int} {x : Int} : ∀ m, (∀ i, i < m → R i = R' i) → lst R x m = lst R' x m
  | 0, _ => rfl
  | m + 1, h => by
    unfold lst
    rw [h m (by omega), lst_cg m (fun i hi => h i (by omega))]
theorem okG_t {R : Nat → Int} {m : Nat} {Y g x : Int} (h : lst R x m = -1 ∨ (0 < g ∧ Y - lst R x m ≥ g)) : okG R m Y g x = true := by
  unfold okG
  rcases h with h | ⟨h1, h2⟩
  · rw [decide_eq_true h, Bool.true_or]
  · rw [decide_eq_true h1, decide_eq_true h2, Bool.true_and, Bool.or_true]
theorem okG_f {R : Nat → Int} {m : Nat} {Y g x : Int} (h : ¬ (lst R x m = -1 ∨ (0 < g ∧ Y - lst R x m ≥ g))) : okG R m Y g x = false := by
  unfold okG
  rw [decide_eq_false (fun e => h (Or.inl e)), Bool.false_or]
  by_cases h1 : 0 < g
  · rw [decide_eq_false (fun e => h (Or.inr ⟨h1, e⟩)), Bool.and_false]
  · rw [decide_eq_false h1, Bool.false_and]
theorem okN_f {R : Nat → Int} {m : Nat} {ne x : Int} (h : ne = 1 ∧ 0 < m ∧ 0 < R (m - 1) ∧ (x = R (m - 1) - 1 ∨ x = R (m - 1) + 1)) : okN R m ne x = false := by
  unfold okN
  rw [decide_eq_true h.1, decide_eq_true h.2.1, decide_eq_true h.2.2.1]
  rcases h.2.2.2 with e | e
  · rw [decide_eq_true e]; rfl
  · rw [decide_eq_true e, Bool.or_true]; rfl
theorem okN_t {R : Nat → Int} {m : Nat} {ne x : Int} (h : ¬ (ne = 1 ∧ 0 < m ∧ 0 < R (m - 1) ∧ (x = R (m - 1) - 1 ∨ x = R (m - 1) + 1))) : okN R m ne x = true := by
  unfold okN
  by_cases h1 : ne = 1
  · by_cases h2 : 0 < m
    · by_cases h3 : 0 < R (m - 1)
      · rw [decide_eq_false (p := x = R (m - 1) - 1) (fun e => h ⟨h1, h2, h3, Or.inl e⟩), decide_eq_false (p := x = R (m - 1) + 1) (fun e => h ⟨h1, h2, h3, Or.inr e⟩), Bool.or_false, Bool.and_false, Bool.and_false, Bool.and_false]; rfl
      · rw [decide_eq_false h3, Bool.false_and, Bool.and_false, Bool.and_false]; rfl
    · rw [decide_eq_false h2, Bool.false_and, Bool.and_false]; rfl
  · rw [decide_eq_false h1, Bool.false_and]; rfl
