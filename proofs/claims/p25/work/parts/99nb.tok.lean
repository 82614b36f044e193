/-! TOKENS: a pure function of the tape's codes u (0 .. 255) and its length L. -/
def tk_rn (f : Nat → Bool) : Nat → Nat → Nat
  | 0, p => p
  | n + 1, p => if f p = true then tk_rn f n (p + 1) else p
theorem tk_rn_ge (f : Nat → Bool) : ∀ n p, p ≤ tk_rn f n p
  | 0, p => Nat.le_refl p
  | n + 1, p => by
    unfold tk_rn
    split
    · have := tk_rn_ge f n (p + 1); omega
    · exact Nat.le_refl p
theorem tk_rn_le (f : Nat → Bool) : ∀ n p, tk_rn f n p ≤ p + n
  | 0, p => Nat.le_refl p
  | n + 1, p => by
    unfold tk_rn
    split
    · have := tk_rn_le f n (p + 1); omega
    · omega
theorem tk_rn_in (f : Nat → Bool) : ∀ n p q, p ≤ q → q < tk_rn f n p → f q = true
  | 0, p, q, h1, h2 => by
    have h2 : q < p := h2
    omega
  | n + 1, p, q, h1, h2 => by
    unfold tk_rn at h2
    split at h2
    · next h =>
      by_cases hq : q = p
      · rw [hq]; exact h
      · exact tk_rn_in f n (p + 1) q (by omega) h2
    · omega
theorem tk_rn_out (f : Nat → Bool) : ∀ n p, tk_rn f n p < p + n → f (tk_rn f n p) = false
  | 0, p, h => by
    have h : p < p + 0 := h
    omega
  | n + 1, p, h => by
    unfold tk_rn at h ⊢
    split at h
    · next h1 =>
      rw [if_pos h1]
      exact tk_rn_out f n (p + 1) (by omega)
    · next h1 =>
      rw [if_neg h1]
      simpa using h1
/-- one more step -/
theorem tk_rn_s {f : Nat → Bool} {L p : Nat} (hp : p < L) (h : f p = true) : tk_rn f (L - p) p = tk_rn f (L - (p + 1)) (p + 1) := by
  obtain ⟨n, hn⟩ : ∃ n, L - p = n + 1 := ⟨L - p - 1, by omega⟩
  rw [hn, show L - (p + 1) = n by omega]
  show (if f p = true then tk_rn f n (p + 1) else p) = _
  rw [if_pos h]
theorem tk_rn_0 {f : Nat → Bool} {L p : Nat} (h : L ≤ p ∨ f p = false) : tk_rn f (L - p) p = p := by
  rcases Nat.eq_zero_or_pos (L - p) with hz | hz
  · rw [hz]; rfl
  · obtain ⟨n, hn⟩ : ∃ n, L - p = n + 1 := ⟨L - p - 1, by omega⟩
    rw [hn]
    show (if f p = true then tk_rn f n (p + 1) else p) = _
    rw [if_neg]
    rcases h with h | h
    · omega
    · rw [h]; decide
def tk_sp (u : Nat → Nat) (q : Nat) : Bool := Nat.beq (u q) 32
def tk_le (u : Nat → Nat) (q : Nat) : Bool := Nat.ble 97 (u q) && Nat.ble (u q) 122
def tk_fi (u : Nat → Nat) (q : Nat) : Bool := Nat.ble 48 (u q) && Nat.ble (u q) 57
/-- where the token begins; where its figures, its letters end -/
def tk_s (u : Nat → Nat) (L p : Nat) : Nat := tk_rn (tk_sp u) (L - p) p
def tk_f (u : Nat → Nat) (L p : Nat) : Nat := tk_rn (tk_fi u) (L - tk_s u L p) (tk_s u L p)
def tk_l (u : Nat → Nat) (L p : Nat) : Nat := tk_rn (tk_le u) (L - tk_s u L p) (tk_s u L p)
/-- 0 NAME, 1 NUMBER, 2 STOP, 3 the end, 4 no token -/
def tk_k (u : Nat → Nat) (L p : Nat) : Nat := if L ≤ tk_s u L p then 3 else if u (tk_s u L p) = 59 then 2 else if tk_le u (tk_s u L p) = true then 0 else if tk_fi u (tk_s u L p) = true ∧ tk_f u L p ≤ tk_s u L p + 2 then 1 else 4
/-- where it ends; a NUMBER's number -/
def tk_e (u : Nat → Nat) (L p : Nat) : Nat := match tk_k u L p with
  | 0 => tk_l u L p
  | 1 => tk_f u L p
  | 2 => tk_s u L p + 1
  | _ => tk_s u L p
/-- what the first figures behind s tell -/
def tk_w (u : Nat → Nat) (s : Nat) : Nat → Nat
  | 0 => 0
  | 1 => u s - 48
  | _ => 10 * (u s - 48) + (u (s + 1) - 48)
def tk_v (u : Nat → Nat) (L p : Nat) : Nat := tk_w u (tk_s u L p) (tk_f u L p - tk_s u L p)
theorem tk_s_ge (u : Nat → Nat) (L p : Nat) : p ≤ tk_s u L p := tk_rn_ge _ _ _
theorem tk_s_le (u : Nat → Nat) {L p : Nat} (h : p ≤ L) : tk_s u L p ≤ L := by
  have := tk_rn_le (tk_sp u) (L - p) p
  unfold tk_s
  omega
theorem tk_cases (u : Nat → Nat) (L p : Nat) : (L ≤ tk_s u L p ∧ tk_k u L p = 3) ∨ (tk_s u L p < L ∧ u (tk_s u L p) = 59 ∧ tk_k u L p = 2) ∨ (tk_s u L p < L ∧ u (tk_s u L p) ≠ 59 ∧ tk_le u (tk_s u L p) = true ∧ tk_k u L p = 0) ∨ (tk_s u L p < L ∧ u (tk_s u L p) ≠ 59 ∧ tk_le u (tk_s u L p) = false ∧ tk_fi u (tk_s u L p) = true ∧ tk_f u L p ≤ tk_s u L p + 2 ∧ tk_k u L p = 1) ∨ (tk_s u L p < L ∧ u (tk_s u L p) ≠ 59 ∧ tk_le u (tk_s u L p) = false ∧ (tk_fi u (tk_s u L p) = false ∨ tk_s u L p + 2 < tk_f u L p) ∧ tk_k u L p = 4) := by
  unfold tk_k
  by_cases h1 : L ≤ tk_s u L p
  · rw [if_pos h1]; exact Or.inl ⟨h1, rfl⟩
  · rw [if_neg h1]
    have h1 : tk_s u L p < L := by omega
    by_cases h2 : u (tk_s u L p) = 59
    · rw [if_pos h2]; exact Or.inr (Or.inl ⟨h1, h2, rfl⟩)
    · rw [if_neg h2]
      by_cases h3 : tk_le u (tk_s u L p) = true
      · rw [if_pos h3]; exact Or.inr (Or.inr (Or.inl ⟨h1, h2, h3, rfl⟩))
      · rw [if_neg h3]
        have h3 : tk_le u (tk_s u L p) = false := by simpa using h3
        by_cases h4 : tk_fi u (tk_s u L p) = true
        · by_cases h5 : tk_f u L p ≤ tk_s u L p + 2
          · rw [if_pos ⟨h4, h5⟩]; exact Or.inr (Or.inr (Or.inr (Or.inl ⟨h1, h2, h3, h4, h5, rfl⟩)))
          · rw [if_neg (fun q => h5 q.2)]; exact Or.inr (Or.inr (Or.inr (Or.inr ⟨h1, h2, h3, Or.inr (by omega), rfl⟩)))
        · rw [if_neg (fun q => h4 q.1)]; exact Or.inr (Or.inr (Or.inr (Or.inr ⟨h1, h2, h3, Or.inl (by simpa using h4), rfl⟩)))
theorem tk_le_iff (u : Nat → Nat) (q : Nat) : tk_le u q = true ↔ 97 ≤ u q ∧ u q ≤ 122 := by
  unfold tk_le
  rw [Bool.and_eq_true, Nat.ble_eq, Nat.ble_eq]
theorem tk_fi_iff (u : Nat → Nat) (q : Nat) : tk_fi u q = true ↔ 48 ≤ u q ∧ u q ≤ 57 := by
  unfold tk_fi
  rw [Bool.and_eq_true, Nat.ble_eq, Nat.ble_eq]
theorem tk_sp_iff (u : Nat → Nat) (q : Nat) : tk_sp u q = true ↔ u q = 32 := ⟨fun h => Nat.eq_of_beq_eq_true h, fun h => by unfold tk_sp; rw [h]; rfl⟩
theorem tk_nt {b : Bool} {P : Prop} (h : b = true ↔ P) : b = false ↔ ¬ P := by
  rw [← h]
  cases b <;> simp
theorem tk_s_sp (u : Nat → Nat) {L p : Nat} (hp : p ≤ L) (h : tk_s u L p < L) : ¬ u (tk_s u L p) = 32 := by
  have := tk_rn_out (tk_sp u) (L - p) p (by unfold tk_s at h; omega)
  exact (tk_nt (tk_sp_iff u _)).mp this
theorem tk_f_gt (u : Nat → Nat) {L p : Nat} (h : tk_s u L p < L) (h4 : tk_fi u (tk_s u L p) = true) : tk_s u L p < tk_f u L p := by
  unfold tk_f
  rw [tk_rn_s h h4]
  have := tk_rn_ge (tk_fi u) (L - (tk_s u L p + 1)) (tk_s u L p + 1)
  omega
theorem tk_l_gt (u : Nat → Nat) {L p : Nat} (h : tk_s u L p < L) (h4 : tk_le u (tk_s u L p) = true) : tk_s u L p < tk_l u L p := by
  unfold tk_l
  rw [tk_rn_s h h4]
  have := tk_rn_ge (tk_le u) (L - (tk_s u L p + 1)) (tk_s u L p + 1)
  omega
theorem tk_f_le (u : Nat → Nat) {L p : Nat} (h : p ≤ L) : tk_f u L p ≤ L := by
  have h1 := tk_s_le u h
  have := tk_rn_le (tk_fi u) (L - tk_s u L p) (tk_s u L p)
  unfold tk_f
  omega
theorem tk_l_le (u : Nat → Nat) {L p : Nat} (h : p ≤ L) : tk_l u L p ≤ L := by
  have h1 := tk_s_le u h
  have := tk_rn_le (tk_le u) (L - tk_s u L p) (tk_s u L p)
  unfold tk_l
  omega
/-- where a token ends, by its kind -/
theorem tk_e0 {u : Nat → Nat} {L p : Nat} (h : tk_k u L p = 0) : tk_e u L p = tk_l u L p := by unfold tk_e; rw [h]; rfl
theorem tk_e1 {u : Nat → Nat} {L p : Nat} (h : tk_k u L p = 1) : tk_e u L p = tk_f u L p := by unfold tk_e; rw [h]; rfl
theorem tk_e2 {u : Nat → Nat} {L p : Nat} (h : tk_k u L p = 2) : tk_e u L p = tk_s u L p + 1 := by unfold tk_e; rw [h]; rfl
theorem tk_e3 {u : Nat → Nat} {L p : Nat} (h : tk_k u L p = 3) : tk_e u L p = tk_s u L p := by unfold tk_e; rw [h]; rfl
theorem tk_e_le (u : Nat → Nat) {L p : Nat} (hp : p ≤ L) (hk : tk_k u L p < 4) : tk_e u L p ≤ L := by
  have h1 := tk_s_le u hp
  have h2 := tk_f_le u hp
  have h3 := tk_l_le u hp
  rcases tk_cases u L p with ⟨a, k⟩ | ⟨a, b, k⟩ | ⟨a, b, c, k⟩ | ⟨a, b, c, e, f, k⟩ | ⟨a, b, c, e, k⟩
  · rw [tk_e3 k]; omega
  · rw [tk_e2 k]; omega
  · rw [tk_e0 k]; omega
  · rw [tk_e1 k]; omega
  · omega
theorem tk_e_gt (u : Nat → Nat) {L p : Nat} (hk : tk_k u L p < 3) : p < tk_e u L p := by
  have h1 := tk_s_ge u L p
  rcases tk_cases u L p with ⟨a, k⟩ | ⟨a, b, k⟩ | ⟨a, b, c, k⟩ | ⟨a, b, c, e, f, k⟩ | ⟨a, b, c, e, k⟩
  · omega
  · rw [tk_e2 k]; omega
  · rw [tk_e0 k]; have := tk_l_gt u a c; omega
  · rw [tk_e1 k]; have := tk_f_gt u a e; omega
  · omega
theorem tk_k_le (u : Nat → Nat) (L p : Nat) : tk_k u L p ≤ 4 := by
  rcases tk_cases u L p with ⟨a, k⟩ | ⟨a, b, k⟩ | ⟨a, b, c, k⟩ | ⟨a, b, c, e, f, k⟩ | ⟨a, b, c, e, k⟩ <;> omega
