/-! NAMES: the reference's tests. -/
theorem nmEq_inj {u : Nat → Nat} {s e : Nat} {c1 c2 : List Nat} (h1 : nmEq u s e c1) (h2 : nmEq u s e c2) : c1 = c2 := by
  have hl : c1.length = c2.length := h1.1.symm.trans h2.1
  apply List.ext_getElem hl
  intro i hi1 hi2
  have a := h1.2 i hi1
  have b := h2.2 i hi2
  rw [List.getD_eq_getElem?_getD, List.getElem?_eq_getElem hi1] at a
  rw [List.getD_eq_getElem?_getD, List.getElem?_eq_getElem hi2] at b
  exact a.symm.trans b
theorem nm3 {u : Nat → Nat} {s e a b c : Nat} : nmEq u s e [a, b, c] ↔ e - s = 3 ∧ u s = a ∧ u (s + 1) = b ∧ u (s + 2) = c := by
  constructor
  · rintro ⟨h1, h2⟩
    exact ⟨h1, h2 0 (by simp), h2 1 (by simp), h2 2 (by simp)⟩
  · rintro ⟨h1, h2, h3, h4⟩
    refine ⟨h1, fun i hi => ?_⟩
    match i, hi with
    | 0, _ => exact h2
    | 1, _ => exact h3
    | 2, _ => exact h4
theorem nm4 {u : Nat → Nat} {s e a b c x : Nat} : nmEq u s e [a, b, c, x] ↔ e - s = 4 ∧ u s = a ∧ u (s + 1) = b ∧ u (s + 2) = c ∧ u (s + 3) = x := by
  constructor
  · rintro ⟨h1, h2⟩
    exact ⟨h1, h2 0 (by simp), h2 1 (by simp), h2 2 (by simp), h2 3 (by simp)⟩
  · rintro ⟨h1, h2, h3, h4, h5⟩
    refine ⟨h1, fun i hi => ?_⟩
    match i, hi with
    | 0, _ => exact h2
    | 1, _ => exact h3
    | 2, _ => exact h4
    | 3, _ => exact h5
theorem nm5 {u : Nat → Nat} {s e a b c x y : Nat} : nmEq u s e [a, b, c, x, y] ↔ e - s = 5 ∧ u s = a ∧ u (s + 1) = b ∧ u (s + 2) = c ∧ u (s + 3) = x ∧ u (s + 4) = y := by
  constructor
  · rintro ⟨h1, h2⟩
    exact ⟨h1, h2 0 (by simp), h2 1 (by simp), h2 2 (by simp), h2 3 (by simp), h2 4 (by simp)⟩
  · rintro ⟨h1, h2, h3, h4, h5, h6⟩
    refine ⟨h1, fun i hi => ?_⟩
    match i, hi with
    | 0, _ => exact h2
    | 1, _ => exact h3
    | 2, _ => exact h4
    | 3, _ => exact h5
    | 4, _ => exact h6
theorem nm7 {u : Nat → Nat} {s e a b c x y v t : Nat} : nmEq u s e [a, b, c, x, y, v, t] ↔ e - s = 7 ∧ u s = a ∧ u (s + 1) = b ∧ u (s + 2) = c ∧ u (s + 3) = x ∧ u (s + 4) = y ∧ u (s + 5) = v ∧ u (s + 6) = t := by
  constructor
  · rintro ⟨h1, h2⟩
    exact ⟨h1, h2 0 (by simp), h2 1 (by simp), h2 2 (by simp), h2 3 (by simp), h2 4 (by simp), h2 5 (by simp), h2 6 (by simp)⟩
  · rintro ⟨h1, h2, h3, h4, h5, h6, h7, h8⟩
    refine ⟨h1, fun i hi => ?_⟩
    match i, hi with
    | 0, _ => exact h2
    | 1, _ => exact h3
    | 2, _ => exact h4
    | 3, _ => exact h5
    | 4, _ => exact h6
    | 5, _ => exact h7
    | 6, _ => exact h8
section RN
variable {X : List Int32} {d n s e : Nat} {u : Nat → Nat} {T : List Int32} {w : ex_W} {z : Nat → Int32} {mo ma ym dm dt tl hn hm so va fa wa : Int32}
/-- a look behind the token's first -/
theorem rn_lk {k : Int32} {j : Nat} (hk : k = nI j) (hB : rB u n T) (h59 : ex_at w 59 = some (rC z mo ma ym dm dt tl hn hm (nI n) (nI e) (nI s) so va fa wa)) (h66 : ex_at w 66 = some (.inl (.int, T))) (h : s + j < n) : Go X d mt_159 (ex_ent mt_159 [.ref 59, .int (nI s + k)]) w (some (.int (nI (u (s + j)))), w) := by
  rw [hk, nI_add]
  exact rt_l hB h59 h66 h
theorem rn_is {x a b c : Nat} (hx : 3 ≤ x) (hx9 : x < 100) (ha : a < 256) (hb : b < 256) (hc : c < 256) (hB : rB u n T) (h59 : ex_at w 59 = some (rC z mo ma ym dm dt tl hn hm (nI n) (nI e) (nI s) so va fa wa)) (h66 : ex_at w 66 = some (.inl (.int, T))) (hse : s ≤ e) (hen : e ≤ n) : ((e - s = x ∧ u s = a ∧ u (s + 1) = b ∧ u (s + 2) = c) ∧ Go X (d + 1) mt_191 (ex_ent mt_191 [.ref 59, .int (nI x), .int (nI a), .int (nI b), .int (nI c)]) w (some (.int 1), w)) ∨ (¬ (e - s = x ∧ u s = a ∧ u (s + 1) = b ∧ u (s + 2) = c) ∧ Go X (d + 1) mt_191 (ex_ent mt_191 [.ref 59, .int (nI x), .int (nI a), .int (nI b), .int (nI c)]) w (some (.int 0), w)) := by
  have hn4 : n ≤ 400 := hB.2.1
  have es := tI_nsub hse (show e < 2 ^ 31 by omega)
  have ex : (nI x).toInt = (x : Int) := nI_toInt (by omega)
  have ea : (nI a).toInt = (a : Int) := nI_toInt (by omega)
  have eb : (nI b).toInt = (b : Int) := nI_toInt (by omega)
  have ec : (nI c).toInt = (c : Int) := nI_toInt (by omega)
  by_cases h0 : e - s = x
  · have l0 : Go X d mt_159 (ex_ent mt_159 [.ref 59, .int (nI s)]) w (some (.int (nI (u s))), w) := rt_l hB h59 h66 (by omega)
    have l1 : Go X d mt_159 (ex_ent mt_159 [.ref 59, .int (nI s + 1)]) w (some (.int (nI (u (s + 1)))), w) := rn_lk (j := 1) rfl hB h59 h66 (by omega)
    have l2 : Go X d mt_159 (ex_ent mt_159 [.ref 59, .int (nI s + 2)]) w (some (.int (nI (u (s + 2)))), w) := rn_lk (j := 2) rfl hB h59 h66 (by omega)
    have u0 : (nI (u s)).toInt = (u s : Int) := nI_toInt (by have := (hB.2.2 s (by omega)).1; omega)
    have u1 : (nI (u (s + 1))).toInt = (u (s + 1) : Int) := nI_toInt (by have := (hB.2.2 (s + 1) (by omega)).1; omega)
    have u2 : (nI (u (s + 2))).toInt = (u (s + 2) : Int) := nI_toInt (by have := (hB.2.2 (s + 2) (by omega)).1; omega)
    by_cases h1 : u s = a
    · by_cases h2 : u (s + 1) = b
      · by_cases h3 : u (s + 2) = c
        · exact Or.inl ⟨⟨h0, h1, h2, h3⟩, rs_4 h59 (by omega) l0 (by omega) l1 (by omega) l2 (by omega)⟩
        · exact Or.inr ⟨fun q => h3 q.2.2.2, rs_3 h59 (by omega) l0 (by omega) l1 (by omega) l2 (by omega)⟩
      · exact Or.inr ⟨fun q => h2 q.2.2.1, rs_2 h59 (by omega) l0 (by omega) l1 (by omega)⟩
    · exact Or.inr ⟨fun q => h1 q.2.1, rs_1 h59 (by omega) l0 (by omega)⟩
  · exact Or.inr ⟨fun q => h0 q.1, rs_0 h59 (by omega)⟩
theorem rn_e1 {a : Nat} (ha : a < 256) (hB : rB u n T) (h59 : ex_at w 59 = some (rC z mo ma ym dm dt tl hn hm (nI n) (nI e) (nI s) so va fa wa)) (h66 : ex_at w 66 = some (.inl (.int, T))) (h : s + 3 < n) : (u (s + 3) = a ∧ Go X (d + 1) mt_192 (ex_ent mt_192 [.ref 59, .int (nI a), .int 0, .int 0]) w (some (.int 1), w)) ∨ (¬ u (s + 3) = a ∧ Go X (d + 1) mt_192 (ex_ent mt_192 [.ref 59, .int (nI a), .int 0, .int 0]) w (some (.int 0), w)) := by
  have ea : (nI a).toInt = (a : Int) := nI_toInt (by omega)
  have l3 : Go X d mt_159 (ex_ent mt_159 [.ref 59, .int (nI s + 3)]) w (some (.int (nI (u (s + 3)))), w) := rn_lk (j := 3) rfl hB h59 h66 h
  have u3 : (nI (u (s + 3))).toInt = (u (s + 3) : Int) := nI_toInt (by have := (hB.2.2 (s + 3) h).1; omega)
  by_cases h1 : u (s + 3) = a
  · exact Or.inl ⟨h1, re_2 h59 l3 (by omega)⟩
  · exact Or.inr ⟨h1, re_1 h59 l3 (by omega)⟩
theorem rn_e2 {a b : Nat} (ha : a < 256) (hb : b < 256) (hb0 : 0 < b) (hB : rB u n T) (h59 : ex_at w 59 = some (rC z mo ma ym dm dt tl hn hm (nI n) (nI e) (nI s) so va fa wa)) (h66 : ex_at w 66 = some (.inl (.int, T))) (h : s + 4 < n) : ((u (s + 3) = a ∧ u (s + 4) = b) ∧ Go X (d + 1) mt_192 (ex_ent mt_192 [.ref 59, .int (nI a), .int (nI b), .int 0]) w (some (.int 1), w)) ∨ (¬ (u (s + 3) = a ∧ u (s + 4) = b) ∧ Go X (d + 1) mt_192 (ex_ent mt_192 [.ref 59, .int (nI a), .int (nI b), .int 0]) w (some (.int 0), w)) := by
  have ea : (nI a).toInt = (a : Int) := nI_toInt (by omega)
  have eb : (nI b).toInt = (b : Int) := nI_toInt (by omega)
  have l3 : Go X d mt_159 (ex_ent mt_159 [.ref 59, .int (nI s + 3)]) w (some (.int (nI (u (s + 3)))), w) := rn_lk (j := 3) rfl hB h59 h66 (by omega)
  have l4 : Go X d mt_159 (ex_ent mt_159 [.ref 59, .int (nI s + 4)]) w (some (.int (nI (u (s + 4)))), w) := rn_lk (j := 4) rfl hB h59 h66 h
  have u3 : (nI (u (s + 3))).toInt = (u (s + 3) : Int) := nI_toInt (by have := (hB.2.2 (s + 3) (by omega)).1; omega)
  have u4 : (nI (u (s + 4))).toInt = (u (s + 4) : Int) := nI_toInt (by have := (hB.2.2 (s + 4) h).1; omega)
  by_cases h1 : u (s + 3) = a
  · by_cases h2 : u (s + 4) = b
    · exact Or.inl ⟨⟨h1, h2⟩, re_4 h59 l3 (by omega) (by omega) l4 (by omega)⟩
    · exact Or.inr ⟨fun q => h2 q.2, re_3 h59 l3 (by omega) (by omega) l4 (by omega)⟩
  · exact Or.inr ⟨fun q => h1 q.1, re_1 h59 l3 (by omega)⟩
theorem rn_e3 {a b c : Nat} (ha : a < 256) (hb : b < 256) (hb0 : 0 < b) (hc : c < 256) (hc0 : 0 < c) (hB : rB u n T) (h59 : ex_at w 59 = some (rC z mo ma ym dm dt tl hn hm (nI n) (nI e) (nI s) so va fa wa)) (h66 : ex_at w 66 = some (.inl (.int, T))) (h : s + 5 < n) : ((u (s + 3) = a ∧ u (s + 4) = b ∧ u (s + 5) = c) ∧ Go X (d + 1) mt_192 (ex_ent mt_192 [.ref 59, .int (nI a), .int (nI b), .int (nI c)]) w (some (.int 1), w)) ∨ (¬ (u (s + 3) = a ∧ u (s + 4) = b ∧ u (s + 5) = c) ∧ Go X (d + 1) mt_192 (ex_ent mt_192 [.ref 59, .int (nI a), .int (nI b), .int (nI c)]) w (some (.int 0), w)) := by
  have ea : (nI a).toInt = (a : Int) := nI_toInt (by omega)
  have eb : (nI b).toInt = (b : Int) := nI_toInt (by omega)
  have ec : (nI c).toInt = (c : Int) := nI_toInt (by omega)
  have l3 : Go X d mt_159 (ex_ent mt_159 [.ref 59, .int (nI s + 3)]) w (some (.int (nI (u (s + 3)))), w) := rn_lk (j := 3) rfl hB h59 h66 (by omega)
  have l4 : Go X d mt_159 (ex_ent mt_159 [.ref 59, .int (nI s + 4)]) w (some (.int (nI (u (s + 4)))), w) := rn_lk (j := 4) rfl hB h59 h66 (by omega)
  have l5 : Go X d mt_159 (ex_ent mt_159 [.ref 59, .int (nI s + 5)]) w (some (.int (nI (u (s + 5)))), w) := rn_lk (j := 5) rfl hB h59 h66 h
  have u3 : (nI (u (s + 3))).toInt = (u (s + 3) : Int) := nI_toInt (by have := (hB.2.2 (s + 3) (by omega)).1; omega)
  have u4 : (nI (u (s + 4))).toInt = (u (s + 4) : Int) := nI_toInt (by have := (hB.2.2 (s + 4) (by omega)).1; omega)
  have u5 : (nI (u (s + 5))).toInt = (u (s + 5) : Int) := nI_toInt (by have := (hB.2.2 (s + 5) h).1; omega)
  by_cases h1 : u (s + 3) = a
  · by_cases h2 : u (s + 4) = b
    · by_cases h3 : u (s + 5) = c
      · exact Or.inl ⟨⟨h1, h2, h3⟩, re_7 h59 l3 (by omega) (by omega) l4 (by omega) (by omega) l5 (by omega)⟩
      · exact Or.inr ⟨fun q => h3 q.2.2, re_6 h59 l3 (by omega) (by omega) l4 (by omega) (by omega) l5 (by omega)⟩
    · exact Or.inr ⟨fun q => h2 q.2.1, re_5 h59 l3 (by omega) (by omega) l4 (by omega)⟩
  · exact Or.inr ⟨fun q => h1 q.1, re_1 h59 l3 (by omega)⟩
/-- a name of four letters, of three, of five -/
theorem rq4 {a b c x : Nat} (ha : a < 256) (hb : b < 256) (hc : c < 256) (hx : x < 256) (hB : rB u n T) (h59 : ex_at w 59 = some (rC z mo ma ym dm dt tl hn hm (nI n) (nI e) (nI s) so va fa wa)) (h66 : ex_at w 66 = some (.inl (.int, T))) (hse : s ≤ e) (hen : e ≤ n) : (nmEq u s e [a, b, c, x] ∧ Go X (d + 1) mt_191 (ex_ent mt_191 [.ref 59, .int (nI 4), .int (nI a), .int (nI b), .int (nI c)]) w (some (.int 1), w) ∧ Go X (d + 1) mt_192 (ex_ent mt_192 [.ref 59, .int (nI x), .int 0, .int 0]) w (some (.int 1), w)) ∨ (¬ nmEq u s e [a, b, c, x] ∧ (Go X (d + 1) mt_191 (ex_ent mt_191 [.ref 59, .int (nI 4), .int (nI a), .int (nI b), .int (nI c)]) w (some (.int 0), w) ∨ (Go X (d + 1) mt_191 (ex_ent mt_191 [.ref 59, .int (nI 4), .int (nI a), .int (nI b), .int (nI c)]) w (some (.int 1), w) ∧ Go X (d + 1) mt_192 (ex_ent mt_192 [.ref 59, .int (nI x), .int 0, .int 0]) w (some (.int 0), w)))) := by
  rw [nm4]
  rcases rn_is (X := X) (d := d) (x := 4) (by omega) (by omega) ha hb hc hB h59 h66 hse hen with ⟨h1, g⟩ | ⟨h1, g⟩
  · rcases rn_e1 (X := X) (d := d) hx hB h59 h66 (by omega) with ⟨h2, g2⟩ | ⟨h2, g2⟩
    · exact Or.inl ⟨⟨h1.1, h1.2.1, h1.2.2.1, h1.2.2.2, h2⟩, g, g2⟩
    · exact Or.inr ⟨fun q => h2 q.2.2.2.2, Or.inr ⟨g, g2⟩⟩
  · exact Or.inr ⟨fun q => h1 ⟨q.1, q.2.1, q.2.2.1, q.2.2.2.1⟩, Or.inl g⟩
theorem rq3 {a b c : Nat} (ha : a < 256) (hb : b < 256) (hc : c < 256) (hB : rB u n T) (h59 : ex_at w 59 = some (rC z mo ma ym dm dt tl hn hm (nI n) (nI e) (nI s) so va fa wa)) (h66 : ex_at w 66 = some (.inl (.int, T))) (hse : s ≤ e) (hen : e ≤ n) : (nmEq u s e [a, b, c] ∧ Go X (d + 1) mt_191 (ex_ent mt_191 [.ref 59, .int (nI 3), .int (nI a), .int (nI b), .int (nI c)]) w (some (.int 1), w)) ∨ (¬ nmEq u s e [a, b, c] ∧ Go X (d + 1) mt_191 (ex_ent mt_191 [.ref 59, .int (nI 3), .int (nI a), .int (nI b), .int (nI c)]) w (some (.int 0), w)) := by
  rw [nm3]
  exact rn_is (X := X) (d := d) (x := 3) (by omega) (by omega) ha hb hc hB h59 h66 hse hen
theorem rq5 {a b c x y : Nat} (ha : a < 256) (hb : b < 256) (hc : c < 256) (hx : x < 256) (hy : y < 256) (hy0 : 0 < y) (hB : rB u n T) (h59 : ex_at w 59 = some (rC z mo ma ym dm dt tl hn hm (nI n) (nI e) (nI s) so va fa wa)) (h66 : ex_at w 66 = some (.inl (.int, T))) (hse : s ≤ e) (hen : e ≤ n) : (nmEq u s e [a, b, c, x, y] ∧ Go X (d + 1) mt_191 (ex_ent mt_191 [.ref 59, .int (nI 5), .int (nI a), .int (nI b), .int (nI c)]) w (some (.int 1), w) ∧ Go X (d + 1) mt_192 (ex_ent mt_192 [.ref 59, .int (nI x), .int (nI y), .int 0]) w (some (.int 1), w)) ∨ (¬ nmEq u s e [a, b, c, x, y] ∧ (Go X (d + 1) mt_191 (ex_ent mt_191 [.ref 59, .int (nI 5), .int (nI a), .int (nI b), .int (nI c)]) w (some (.int 0), w) ∨ (Go X (d + 1) mt_191 (ex_ent mt_191 [.ref 59, .int (nI 5), .int (nI a), .int (nI b), .int (nI c)]) w (some (.int 1), w) ∧ Go X (d + 1) mt_192 (ex_ent mt_192 [.ref 59, .int (nI x), .int (nI y), .int 0]) w (some (.int 0), w)))) := by
  rw [nm5]
  rcases rn_is (X := X) (d := d) (x := 5) (by omega) (by omega) ha hb hc hB h59 h66 hse hen with ⟨h1, g⟩ | ⟨h1, g⟩
  · rcases rn_e2 (X := X) (d := d) hx hy hy0 hB h59 h66 (by omega) with ⟨h2, g2⟩ | ⟨h2, g2⟩
    · exact Or.inl ⟨⟨h1.1, h1.2.1, h1.2.2.1, h1.2.2.2, h2⟩, g, g2⟩
    · exact Or.inr ⟨fun q => h2 q.2.2.2.2, Or.inr ⟨g, g2⟩⟩
  · exact Or.inr ⟨fun q => h1 ⟨q.1, q.2.1, q.2.2.1, q.2.2.2.1⟩, Or.inl g⟩
/-- which line a name begins -/
def lnR (u : Nat → Nat) (s e : Nat) (k : Int32) : Prop := (nmEq u s e n_page ∧ k = 5) ∨ (nmEq u s e n_rung ∧ k = 6) ∨ (nmEq u s e n_ask ∧ k = 7) ∨ (nmEq u s e n_wait ∧ k = 8) ∨ (nmEq u s e n_most ∧ k = 0) ∨ (nmEq u s e n_matters ∧ k = 1) ∨ (nmEq u s e n_gap ∧ k = 2) ∨ (nmEq u s e n_near ∧ k = 3) ∨ (nmEq u s e n_book ∧ k = 4) ∨ (¬ nmEq u s e n_page ∧ ¬ nmEq u s e n_rung ∧ ¬ nmEq u s e n_ask ∧ ¬ nmEq u s e n_wait ∧ ¬ nmEq u s e n_most ∧ ¬ nmEq u s e n_matters ∧ ¬ nmEq u s e n_gap ∧ ¬ nmEq u s e n_near ∧ ¬ nmEq u s e n_book ∧ k = (Int8.ofInt (-4)).toInt32)
theorem rN_line (hB : rB u n T) (h59 : ex_at w 59 = some (rC z mo ma ym dm dt tl hn hm (nI n) (nI e) (nI s) so va fa wa)) (h66 : ex_at w 66 = some (.inl (.int, T))) (hse : s ≤ e) (hen : e ≤ n) : ∃ k, lnR u s e k ∧ Go X (d + 3) mt_160 (ex_ent mt_160 [.ref 59]) w (some (.int k), w) := by
  have C := fun {a b c x : Nat} (ha : a < 256) (hb : b < 256) (hc : c < 256) (hx : x < 256) => rq4 (X := X) (d := d) ha hb hc hx hB h59 h66 hse hen
  have C3 := fun {a b c : Nat} (ha : a < 256) (hb : b < 256) (hc : c < 256) => rq3 (X := X) (d := d) ha hb hc hB h59 h66 hse hen
  have C' := fun {a b c x : Nat} (ha : a < 256) (hb : b < 256) (hc : c < 256) (hx : x < 256) => rq4 (X := X) (d := d + 1) ha hb hc hx hB h59 h66 hse hen
  have C3' := fun {a b c : Nat} (ha : a < 256) (hb : b < 256) (hc : c < 256) => rq3 (X := X) (d := d + 1) ha hb hc hB h59 h66 hse hen
  have rule : ¬ nmEq u s e n_page → ¬ nmEq u s e n_rung → ¬ nmEq u s e n_ask → ¬ nmEq u s e n_wait → ∃ k, lnR u s e k ∧ Go X (d + 2) mt_193 (ex_ent mt_193 [.ref 59]) w (some (.int k), w) := by
    intro p1 p2 p3 p4
    show ∃ k, lnR u s e k ∧ Go X (d + 2) mt_193 (0, [some (.ref 59)], []) w (some (.int k), w)
    have t1 : nmEq u s e n_most ∨ ¬ nmEq u s e n_most := Classical.em _
    rcases C (a := 109) (b := 111) (c := 115) (x := 116) (by decide) (by decide) (by decide) (by decide) with ⟨h, g1, g2⟩ | ⟨h1, g⟩
    · exact ⟨0, Or.inr (Or.inr (Or.inr (Or.inr (Or.inl ⟨h, rfl⟩)))), rwo_2 h59 g1 g2⟩
    have k1 : ∀ q, Go X (d + 2) mt_193 (27, [some (.ref 59)], []) w q → Go X (d + 2) mt_193 (0, [some (.ref 59)], []) w q := by
      intro q kk
      rcases g with g | ⟨g1, g2⟩
      · exact rwo_0 h59 g kk
      · exact rwo_1 h59 g1 g2 kk
    have m7 : (nmEq u s e n_matters ∧ Go X (d + 2) mt_193 (27, [some (.ref 59)], []) w (some (.int 1), w)) ∨ (¬ nmEq u s e n_matters ∧ ∀ q, Go X (d + 2) mt_193 (73, [some (.ref 59)], []) w q → Go X (d + 2) mt_193 (27, [some (.ref 59)], []) w q) := by
      unfold n_matters
      rw [nm7]
      rcases rn_is (X := X) (d := d) (x := 7) (a := 109) (b := 97) (c := 116) (by omega) (by omega) (by decide) (by decide) (by decide) hB h59 h66 hse hen with ⟨h2, g3⟩ | ⟨h2, g3⟩
      · rcases rn_e3 (X := X) (d := d) (a := 116) (b := 101) (c := 114) (by decide) (by decide) (by decide) (by decide) (by decide) hB h59 h66 (by omega) with ⟨h3, g4⟩ | ⟨h3, g4⟩
        · have l6 : Go X (d + 1) mt_159 (ex_ent mt_159 [.ref 59, .int (nI s + 6)]) w (some (.int (nI (u (s + 6)))), w) := rn_lk (j := 6) rfl hB h59 h66 (by omega)
          have u6 : (nI (u (s + 6))).toInt = (u (s + 6) : Int) := nI_toInt (by have := (hB.2.2 (s + 6) (by omega)).1; omega)
          by_cases h4 : u (s + 6) = 115
          · exact Or.inl ⟨⟨h2.1, h2.2.1, h2.2.2.1, h2.2.2.2, h3.1, h3.2.1, h3.2.2, h4⟩, rwm_3 h59 g3 g4 l6 (by omega)⟩
          · exact Or.inr ⟨fun q => h4 q.2.2.2.2.2.2.2, fun q kk => rwm_2 h59 g3 g4 l6 (by omega) kk⟩
        · exact Or.inr ⟨fun q => h3 ⟨q.2.2.2.2.1, q.2.2.2.2.2.1, q.2.2.2.2.2.2.1⟩, fun q kk => rwm_1 h59 g3 g4 kk⟩
      · exact Or.inr ⟨fun q => h2 ⟨q.1, q.2.1, q.2.2.1, q.2.2.2.1⟩, fun q kk => rwm_0 h59 g3 kk⟩
    rcases m7 with ⟨h2, g2⟩ | ⟨h2, k2⟩
    · exact ⟨1, Or.inr (Or.inr (Or.inr (Or.inr (Or.inr (Or.inl ⟨h2, rfl⟩))))), k1 _ g2⟩
    rcases C3 (a := 103) (b := 97) (c := 112) (by decide) (by decide) (by decide) with ⟨h3, g3⟩ | ⟨h3, g3⟩
    · exact ⟨2, Or.inr (Or.inr (Or.inr (Or.inr (Or.inr (Or.inr (Or.inl ⟨h3, rfl⟩)))))), k1 _ (k2 _ (rwg_2 h59 g3))⟩
    rcases C (a := 110) (b := 101) (c := 97) (x := 114) (by decide) (by decide) (by decide) (by decide) with ⟨h4, g4, g5⟩ | ⟨h4, g4⟩
    · exact ⟨3, Or.inr (Or.inr (Or.inr (Or.inr (Or.inr (Or.inr (Or.inr (Or.inl ⟨h4, rfl⟩))))))), k1 _ (k2 _ (rwg_0 h59 g3 (rwn_2 h59 g4 g5)))⟩
    have k4 : ∀ q, Go X (d + 2) mt_193 (116, [some (.ref 59)], []) w q → Go X (d + 2) mt_193 (0, [some (.ref 59)], []) w q := by
      intro q kk
      refine k1 _ (k2 _ (rwg_0 h59 g3 ?_))
      rcases g4 with g | ⟨g1, g2⟩
      · exact rwn_0 h59 g kk
      · exact rwn_1 h59 g1 g2 kk
    rcases C (a := 98) (b := 111) (c := 111) (x := 107) (by decide) (by decide) (by decide) (by decide) with ⟨h5, g5, g6⟩ | ⟨h5, g5⟩
    · exact ⟨4, Or.inr (Or.inr (Or.inr (Or.inr (Or.inr (Or.inr (Or.inr (Or.inr (Or.inl ⟨h5, rfl⟩)))))))), k4 _ (rwb_2 h59 g5 g6)⟩
    refine ⟨_, Or.inr (Or.inr (Or.inr (Or.inr (Or.inr (Or.inr (Or.inr (Or.inr (Or.inr ⟨p1, p2, p3, p4, h1, h2, h3, h4, h5, rfl⟩)))))))), k4 _ ?_⟩
    rcases g5 with g | ⟨g1, g2⟩
    · exact rwb_0 h59 g
    · exact rwb_1 h59 g1 g2
  show ∃ k, lnR u s e k ∧ Go X (d + 3) mt_160 (0, [some (.ref 59)], []) w (some (.int k), w)
  rcases C' (a := 112) (b := 97) (c := 103) (x := 101) (by decide) (by decide) (by decide) (by decide) with ⟨h, g1, g2⟩ | ⟨h1, g⟩
  · exact ⟨5, Or.inl ⟨h, rfl⟩, rwp_2 h59 g1 g2⟩
  have k1 : ∀ q, Go X (d + 3) mt_160 (27, [some (.ref 59)], []) w q → Go X (d + 3) mt_160 (0, [some (.ref 59)], []) w q := by
    intro q kk
    rcases g with g | ⟨g1, g2⟩
    · exact rwp_0 h59 g kk
    · exact rwp_1 h59 g1 g2 kk
  rcases C' (a := 114) (b := 117) (c := 110) (x := 103) (by decide) (by decide) (by decide) (by decide) with ⟨h, g1, g2⟩ | ⟨h2, g⟩
  · exact ⟨6, Or.inr (Or.inl ⟨h, rfl⟩), k1 _ (rwr_2 h59 g1 g2)⟩
  have k2 : ∀ q, Go X (d + 3) mt_160 (55, [some (.ref 59)], []) w q → Go X (d + 3) mt_160 (0, [some (.ref 59)], []) w q := by
    intro q kk
    refine k1 _ ?_
    rcases g with g | ⟨g1, g2⟩
    · exact rwr_0 h59 g kk
    · exact rwr_1 h59 g1 g2 kk
  rcases C3' (a := 97) (b := 115) (c := 107) (by decide) (by decide) (by decide) with ⟨h3, g3⟩ | ⟨h3, g3⟩
  · exact ⟨7, Or.inr (Or.inr (Or.inl ⟨h3, rfl⟩)), k2 _ (rwa_2 h59 g3)⟩
  rcases C' (a := 119) (b := 97) (c := 105) (x := 116) (by decide) (by decide) (by decide) (by decide) with ⟨h4, g1, g2⟩ | ⟨h4, g⟩
  · exact ⟨8, Or.inr (Or.inr (Or.inr (Or.inl ⟨h4, rfl⟩))), k2 _ (rwa_0 h59 g3 (rww_2 h59 g1 g2))⟩
  obtain ⟨k, hk, gk⟩ := rule h1 h2 h3 h4
  refine ⟨k, hk, k2 _ (rwa_0 h59 g3 ?_)⟩
  rcases g with g | ⟨g1, g2⟩
  · exact rww_0 h59 g (rwl h59 gk)
  · exact rww_1 h59 g1 g2 (rwl h59 gk)
/-- which book -/
def bkR (u : Nat → Nat) (s e : Nat) (k : Int32) : Prop := (nmEq u s e n_fixed ∧ k = 0) ∨ (nmEq u s e n_rank ∧ k = 1) ∨ (nmEq u s e n_told ∧ k = 2) ∨ (¬ nmEq u s e n_fixed ∧ ¬ nmEq u s e n_rank ∧ ¬ nmEq u s e n_told ∧ k = (Int8.ofInt (-4)).toInt32)
theorem rN_book (hB : rB u n T) (h59 : ex_at w 59 = some (rC z mo ma ym dm dt tl hn hm (nI n) (nI e) (nI s) so va fa wa)) (h66 : ex_at w 66 = some (.inl (.int, T))) (hse : s ≤ e) (hen : e ≤ n) : ∃ k, bkR u s e k ∧ Go X (d + 2) mt_196 (ex_ent mt_196 [.ref 59]) w (some (.int k), w) := by
  show ∃ k, bkR u s e k ∧ Go X (d + 2) mt_196 (0, [some (.ref 59)], []) w (some (.int k), w)
  rcases rq5 (X := X) (d := d) (a := 102) (b := 105) (c := 120) (x := 101) (y := 100) (by decide) (by decide) (by decide) (by decide) (by decide) (by decide) hB h59 h66 hse hen with ⟨h, g1, g2⟩ | ⟨h1, g⟩
  · exact ⟨0, Or.inl ⟨h, rfl⟩, rbf_2 h59 g1 g2⟩
  have k1 : ∀ q, Go X (d + 2) mt_196 (28, [some (.ref 59)], []) w q → Go X (d + 2) mt_196 (0, [some (.ref 59)], []) w q := by
    intro q kk
    rcases g with g | ⟨g1, g2⟩
    · exact rbf_0 h59 g kk
    · exact rbf_1 h59 g1 g2 kk
  rcases rq4 (X := X) (d := d) (a := 114) (b := 97) (c := 110) (x := 107) (by decide) (by decide) (by decide) (by decide) hB h59 h66 hse hen with ⟨h, g1, g2⟩ | ⟨h2, g⟩
  · exact ⟨1, Or.inr (Or.inl ⟨h, rfl⟩), k1 _ (rbr_2 h59 g1 g2)⟩
  have k2 : ∀ q, Go X (d + 2) mt_196 (57, [some (.ref 59)], []) w q → Go X (d + 2) mt_196 (0, [some (.ref 59)], []) w q := by
    intro q kk
    refine k1 _ ?_
    rcases g with g | ⟨g1, g2⟩
    · exact rbr_0 h59 g kk
    · exact rbr_1 h59 g1 g2 kk
  rcases rq4 (X := X) (d := d) (a := 116) (b := 111) (c := 108) (x := 100) (by decide) (by decide) (by decide) (by decide) hB h59 h66 hse hen with ⟨h, g1, g2⟩ | ⟨h3, g⟩
  · exact ⟨2, Or.inr (Or.inr (Or.inl ⟨h, rfl⟩)), k2 _ (rbt_2 h59 g1 g2)⟩
  refine ⟨_, Or.inr (Or.inr (Or.inr ⟨h1, h2, h3, rfl⟩)), k2 _ ?_⟩
  rcases g with g | ⟨g1, g2⟩
  · exact rbt_0 h59 g
  · exact rbt_1 h59 g1 g2
end RN
