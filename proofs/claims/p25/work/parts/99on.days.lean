/-! DAYS: the last day of a number, and a look over the row. -/
def lst (R : Nat → Int) (x : Int) : Nat → Int
  | 0 => -1
  | m + 1 => if R m = x then (m : Int) else lst R x m
theorem lst_lt (R : Nat → Int) (x : Int) : ∀ m, lst R x m < m ∧ -1 ≤ lst R x m
  | 0 => ⟨by show (-1 : Int) < 0; omega, Int.le_refl _⟩
  | m + 1 => by
    have h := lst_lt R x m
    unfold lst
    by_cases e : R m = x
    · rw [if_pos e]; omega
    · rw [if_neg e]; omega
/-- behind lo there is none, just where the last is ahead of it -/
theorem lst_iff (R : Nat → Int) (x : Int) {lo : Nat} : ∀ m, lst R x m < lo ↔ ∀ t, lo ≤ t → t < m → ¬ R t = x
  | 0 => ⟨fun _ t _ h => by omega, fun _ => by show (-1 : Int) < lo; omega⟩
  | m + 1 => by
    have h := lst_iff R x (lo := lo) m
    unfold lst
    by_cases e : R m = x
    · rw [if_pos e]
      constructor
      · intro h1 t t1 t2 t3
        omega
      · intro h1
        by_cases h2 : m < lo
        · omega
        · exact absurd e (h1 m (by omega) (by omega))
    · rw [if_neg e, h]
      constructor
      · intro h1 t t1 t2
        by_cases e2 : t = m
        · rw [e2]; exact e
        · exact h1 t t1 (by omega)
      · intro h1 t t1 t2
        exact h1 t t1 (by omega)
/-- the gap of both -/
theorem lst_gap (R : Nat → Int) (x : Int) (m : Nat) {g : Int} (g0 : 0 ≤ g) : (lst R x m = -1 ∨ (0 < g ∧ (m : Int) - lst R x m ≥ g)) ↔ ∀ t : Nat, (if g = 0 then 0 else (m : Int) - g + 1) ≤ (t : Int) → t < m → ¬ R t = x := by
  have hl := lst_lt R x m
  by_cases e : g = 0
  · rw [if_pos e]
    have h := lst_iff R x (lo := 0) m
    constructor
    · intro h1 t _ t2
      exact h.mp (by omega) t (by omega) t2
    · intro h1
      have := h.mpr (fun t _ t2 => h1 t (by omega) t2)
      omega
  · rw [if_neg e]
    have h := lst_iff R x (lo := ((m : Int) - g + 1).toNat) m
    constructor
    · intro h1 t t1 t2
      exact h.mp (by omega) t (by omega) t2
    · intro h1
      have := h.mpr (fun t t1 t2 => h1 t (by omega) t2)
      omega
