/-! A LINE OF BOTH. -/
def lnRes (X : List Int32) (D D2 : Nat) (M : ex_M) (u : Nat → Nat) (B T : List Int32) (z : Nat → Int32) (mo ma ym : Int32) (dr n p : Nat) (w w2 : ex_W) : Prop := (∃ s w' w2', Go X D M (ex_ent M [.ref 15]) w (some (.int 0), w') ∧ cBd dr n s w w' ∧ Go X D2 mt_97 (ex_ent mt_97 [.ref 59]) w2 (none, w2') ∧ rBd z mo ma ym n s w2 w2') ∨ (∃ p' sv tf ta dm dt hn hm DR DW dn an wn w' w2', p < p' ∧ p' ≤ n ∧ sv < 32 ∧ Go X D M (ex_ent M [.ref 15]) w (some (.int 1), w') ∧ cGd dr n B (nI sv) p' tf ta w w' ∧ Go X D2 mt_97 (ex_ent mt_97 [.ref 59]) w2 (none, w2') ∧ rGd u z mo ma ym dm dt (nI sv) hn hm n p' T DR DW w2 w2' ∧ Rl tf ta dm dt hn hm DR DW dn an wn)
theorem bit_0 : ∀ sv, sv < 32 → ((Int32.toInt (nI sv &&& 1) = 0 ↔ Int32.toInt ((nI sv >>> (0 &&& 31)) &&& 1) = 0) ∧ nI sv ||| 1 = nI (sv ||| 1) ∧ nI sv ||| ((1 : Int32) <<< (0 &&& 31)) = nI (sv ||| 1) ∧ sv ||| 1 < 32) := by decide +kernel
theorem bit_1 : ∀ sv, sv < 32 → ((Int32.toInt (nI sv &&& 2) = 0 ↔ Int32.toInt ((nI sv >>> (1 &&& 31)) &&& 1) = 0) ∧ nI sv ||| 2 = nI (sv ||| 2) ∧ nI sv ||| ((1 : Int32) <<< (1 &&& 31)) = nI (sv ||| 2) ∧ sv ||| 2 < 32) := by decide +kernel
theorem bit_2 : ∀ sv, sv < 32 → ((Int32.toInt (nI sv &&& 4) = 0 ↔ Int32.toInt ((nI sv >>> (2 &&& 31)) &&& 1) = 0) ∧ nI sv ||| 4 = nI (sv ||| 4) ∧ nI sv ||| ((1 : Int32) <<< (2 &&& 31)) = nI (sv ||| 4) ∧ sv ||| 4 < 32) := by decide +kernel
theorem bit_3 : ∀ sv, sv < 32 → ((Int32.toInt (nI sv &&& 8) = 0 ↔ Int32.toInt ((nI sv >>> (3 &&& 31)) &&& 1) = 0) ∧ nI sv ||| 8 = nI (sv ||| 8) ∧ nI sv ||| ((1 : Int32) <<< (3 &&& 31)) = nI (sv ||| 8) ∧ sv ||| 8 < 32) := by decide +kernel
theorem bit_4 : ∀ sv, sv < 32 → ((Int32.toInt (nI sv &&& 16) = 0 ↔ Int32.toInt ((nI sv >>> (4 &&& 31)) &&& 1) = 0) ∧ nI sv ||| 16 = nI (sv ||| 16) ∧ nI sv ||| ((1 : Int32) <<< (4 &&& 31)) = nI (sv ||| 16) ∧ sv ||| 16 < 32) := by decide +kernel
theorem lnR_page {u : Nat → Nat} {s e : Nat} {k : Int32} (h : lnR u s e k) (hn : nmEq u s e n_page) : k = 5 := by
  rcases h with ⟨h, rfl⟩ | ⟨h, rfl⟩ | ⟨h, rfl⟩ | ⟨h, rfl⟩ | ⟨h, rfl⟩ | ⟨h, rfl⟩ | ⟨h, rfl⟩ | ⟨h, rfl⟩ | ⟨h, rfl⟩ | ⟨a0, a1, a2, a3, a4, a5, a6, a7, a8, rfl⟩ <;> first
    | rfl
    | exact absurd (nmEq_inj h hn) (by decide)
    | exact absurd hn a0
theorem lnR_rung {u : Nat → Nat} {s e : Nat} {k : Int32} (h : lnR u s e k) (hn : nmEq u s e n_rung) : k = 6 := by
  rcases h with ⟨h, rfl⟩ | ⟨h, rfl⟩ | ⟨h, rfl⟩ | ⟨h, rfl⟩ | ⟨h, rfl⟩ | ⟨h, rfl⟩ | ⟨h, rfl⟩ | ⟨h, rfl⟩ | ⟨h, rfl⟩ | ⟨a0, a1, a2, a3, a4, a5, a6, a7, a8, rfl⟩ <;> first
    | rfl
    | exact absurd (nmEq_inj h hn) (by decide)
    | exact absurd hn a1
theorem lnR_ask {u : Nat → Nat} {s e : Nat} {k : Int32} (h : lnR u s e k) (hn : nmEq u s e n_ask) : k = 7 := by
  rcases h with ⟨h, rfl⟩ | ⟨h, rfl⟩ | ⟨h, rfl⟩ | ⟨h, rfl⟩ | ⟨h, rfl⟩ | ⟨h, rfl⟩ | ⟨h, rfl⟩ | ⟨h, rfl⟩ | ⟨h, rfl⟩ | ⟨a0, a1, a2, a3, a4, a5, a6, a7, a8, rfl⟩ <;> first
    | rfl
    | exact absurd (nmEq_inj h hn) (by decide)
    | exact absurd hn a2
theorem lnR_wait {u : Nat → Nat} {s e : Nat} {k : Int32} (h : lnR u s e k) (hn : nmEq u s e n_wait) : k = 8 := by
  rcases h with ⟨h, rfl⟩ | ⟨h, rfl⟩ | ⟨h, rfl⟩ | ⟨h, rfl⟩ | ⟨h, rfl⟩ | ⟨h, rfl⟩ | ⟨h, rfl⟩ | ⟨h, rfl⟩ | ⟨h, rfl⟩ | ⟨a0, a1, a2, a3, a4, a5, a6, a7, a8, rfl⟩ <;> first
    | rfl
    | exact absurd (nmEq_inj h hn) (by decide)
    | exact absurd hn a3
theorem lnR_most {u : Nat → Nat} {s e : Nat} {k : Int32} (h : lnR u s e k) (hn : nmEq u s e n_most) : k = 0 := by
  rcases h with ⟨h, rfl⟩ | ⟨h, rfl⟩ | ⟨h, rfl⟩ | ⟨h, rfl⟩ | ⟨h, rfl⟩ | ⟨h, rfl⟩ | ⟨h, rfl⟩ | ⟨h, rfl⟩ | ⟨h, rfl⟩ | ⟨a0, a1, a2, a3, a4, a5, a6, a7, a8, rfl⟩ <;> first
    | rfl
    | exact absurd (nmEq_inj h hn) (by decide)
    | exact absurd hn a4
theorem lnR_matters {u : Nat → Nat} {s e : Nat} {k : Int32} (h : lnR u s e k) (hn : nmEq u s e n_matters) : k = 1 := by
  rcases h with ⟨h, rfl⟩ | ⟨h, rfl⟩ | ⟨h, rfl⟩ | ⟨h, rfl⟩ | ⟨h, rfl⟩ | ⟨h, rfl⟩ | ⟨h, rfl⟩ | ⟨h, rfl⟩ | ⟨h, rfl⟩ | ⟨a0, a1, a2, a3, a4, a5, a6, a7, a8, rfl⟩ <;> first
    | rfl
    | exact absurd (nmEq_inj h hn) (by decide)
    | exact absurd hn a5
theorem lnR_gap {u : Nat → Nat} {s e : Nat} {k : Int32} (h : lnR u s e k) (hn : nmEq u s e n_gap) : k = 2 := by
  rcases h with ⟨h, rfl⟩ | ⟨h, rfl⟩ | ⟨h, rfl⟩ | ⟨h, rfl⟩ | ⟨h, rfl⟩ | ⟨h, rfl⟩ | ⟨h, rfl⟩ | ⟨h, rfl⟩ | ⟨h, rfl⟩ | ⟨a0, a1, a2, a3, a4, a5, a6, a7, a8, rfl⟩ <;> first
    | rfl
    | exact absurd (nmEq_inj h hn) (by decide)
    | exact absurd hn a6
theorem lnR_near {u : Nat → Nat} {s e : Nat} {k : Int32} (h : lnR u s e k) (hn : nmEq u s e n_near) : k = 3 := by
  rcases h with ⟨h, rfl⟩ | ⟨h, rfl⟩ | ⟨h, rfl⟩ | ⟨h, rfl⟩ | ⟨h, rfl⟩ | ⟨h, rfl⟩ | ⟨h, rfl⟩ | ⟨h, rfl⟩ | ⟨h, rfl⟩ | ⟨a0, a1, a2, a3, a4, a5, a6, a7, a8, rfl⟩ <;> first
    | rfl
    | exact absurd (nmEq_inj h hn) (by decide)
    | exact absurd hn a7
theorem lnR_book {u : Nat → Nat} {s e : Nat} {k : Int32} (h : lnR u s e k) (hn : nmEq u s e n_book) : k = 4 := by
  rcases h with ⟨h, rfl⟩ | ⟨h, rfl⟩ | ⟨h, rfl⟩ | ⟨h, rfl⟩ | ⟨h, rfl⟩ | ⟨h, rfl⟩ | ⟨h, rfl⟩ | ⟨h, rfl⟩ | ⟨h, rfl⟩ | ⟨a0, a1, a2, a3, a4, a5, a6, a7, a8, rfl⟩ <;> first
    | rfl
    | exact absurd (nmEq_inj h hn) (by decide)
    | exact absurd hn a8
theorem lnR_none {u : Nat → Nat} {s e : Nat} {k : Int32} (h : lnR u s e k) (b0 : ¬ nmEq u s e n_page) (b1 : ¬ nmEq u s e n_rung) (b2 : ¬ nmEq u s e n_ask) (b3 : ¬ nmEq u s e n_wait) (b4 : ¬ nmEq u s e n_most) (b5 : ¬ nmEq u s e n_matters) (b6 : ¬ nmEq u s e n_gap) (b7 : ¬ nmEq u s e n_near) (b8 : ¬ nmEq u s e n_book) : k = (Int8.ofInt (-4)).toInt32 := by
  rcases h with ⟨h, rfl⟩ | ⟨h, rfl⟩ | ⟨h, rfl⟩ | ⟨h, rfl⟩ | ⟨h, rfl⟩ | ⟨h, rfl⟩ | ⟨h, rfl⟩ | ⟨h, rfl⟩ | ⟨h, rfl⟩ | ⟨a0, a1, a2, a3, a4, a5, a6, a7, a8, rfl⟩ <;> first
    | rfl
    | exact absurd h b0
    | exact absurd h b1
    | exact absurd h b2
    | exact absurd h b3
    | exact absurd h b4
    | exact absurd h b5
    | exact absurd h b6
    | exact absurd h b7
    | exact absurd h b8
section LN
variable {X : List Int32} {d n dr p sv : Nat} {u : Nat → Nat} {B T : List Int32} {z : Nat → Int32} {mo ma ym dm dt hn hm fp K N kv : Int32} {w w2 W : ex_W} {c : ex_E} {tf : Nat → Int32} {ta : Nat → List Int32} {DR DW : List Int32} {dn an wn : Nat}
/-- head, body and tail of the reference's line -/
theorem rl_catb {s : Nat} (head : ∀ q, Go X (d + 6) mt_97 (118, [some (.ref 59), some (.int kv)], []) W q → Go X (d + 6) mt_97 (ex_ent mt_97 [.ref 59]) w2 q) (hv : ∀ w1 q, Go X (d + 5) mt_161 (ex_ent mt_161 [.ref 59, .int kv]) W (none, w1) → Go X (d + 6) mt_97 (123, [some (.ref 59), some (.int kv)], []) w1 q → Go X (d + 6) mt_97 (118, [some (.ref 59), some (.int kv)], []) W q) (hF : rF w2 W) (hB : rB u n T) (h66 : ex_at W 66 = some (.inl (.int, T))) (hb : ∃ w', Go X (d + 5) mt_161 (ex_ent mt_161 [.ref 59, .int kv]) W (none, w') ∧ rNo u z mo ma ym n T s W w') : ∃ w', Go X (d + 6) mt_97 (ex_ent mt_97 [.ref 59]) w2 (none, w') ∧ rBd z mo ma ym n s w2 w' := by
  obtain ⟨w', g, h⟩ := hb
  obtain ⟨w3, g3, h3⟩ := h.tail (X := X) (d := d + 4) (o1 := some (.int kv)) hB h66
  exact ⟨w3, head _ (hv _ _ g g3), h3.tr hF⟩
theorem rl_catg {tl : Int32} {p2 : Nat} (head : ∀ q, Go X (d + 6) mt_97 (118, [some (.ref 59), some (.int kv)], []) W q → Go X (d + 6) mt_97 (ex_ent mt_97 [.ref 59]) w2 q) (hv : ∀ w1 q, Go X (d + 5) mt_161 (ex_ent mt_161 [.ref 59, .int kv]) W (none, w1) → Go X (d + 6) mt_97 (123, [some (.ref 59), some (.int kv)], []) w1 q → Go X (d + 6) mt_97 (118, [some (.ref 59), some (.int kv)], []) W q) (hF : rF w2 W) (hB : rB u n T) (hp : p2 ≤ n) (k2 : tk_k u n p2 = 2) (hb : ∃ w', Go X (d + 5) mt_161 (ex_ent mt_161 [.ref 59, .int kv]) W (none, w') ∧ rGd u z mo ma ym dm dt tl hn hm n p2 T DR DW W w') : ∃ w', Go X (d + 6) mt_97 (ex_ent mt_97 [.ref 59]) w2 (none, w') ∧ rGd u z mo ma ym dm dt tl hn hm n (tk_e u n p2) T DR DW w2 w' := by
  obtain ⟨w', g, ⟨c, h59, hc⟩, hA, hF2⟩ := hb
  obtain ⟨w3, g3, h3⟩ := (rl_tail (X := X) (d := d + 4) (o1 := some (.int kv)) hB hp h59 hc hA hF2).1 k2
  exact ⟨w3, head _ (hv _ _ g g3), h3.tr hF⟩
theorem rNo.of {s : Nat} (hb : ∃ w', Go X (d + 5) mt_161 (ex_ent mt_161 [.ref 59, .int kv]) W (none, w') ∧ rBd z mo ma ym n s W w') : ∃ w', Go X (d + 5) mt_161 (ex_ent mt_161 [.ref 59, .int kv]) W (none, w') ∧ rNo u z mo ma ym n T s W w' := by
  obtain ⟨w', g, h⟩ := hb
  exact ⟨w', g, Or.inl h⟩
theorem rNo.og {tl : Int32} {p2 : Nat} (hp : p2 ≤ n) (k2 : ¬ tk_k u n p2 = 2) (hb : ∃ w', Go X (d + 5) mt_161 (ex_ent mt_161 [.ref 59, .int kv]) W (none, w') ∧ rGd u z mo ma ym dm dt tl hn hm n p2 T DR DW W w') : ∃ w', Go X (d + 5) mt_161 (ex_ent mt_161 [.ref 59, .int kv]) W (none, w') ∧ rNo u z mo ma ym n T (tk_s u n p2) W w' := by
  obtain ⟨w', g, h⟩ := hb
  exact ⟨w', g, Or.inr ⟨p2, _, _, _, _, _, _, _, hp, k2, rfl, h⟩⟩
theorem ln_most (hd : dr + 6 < 15) (hB : cB u n B) (hR : rB u n T) (hp : p ≤ n) (hk : tk_k u n p = 0) (h15 : ex_at w 15 = some (cT dr n 0 fp (nI sv) (tk_e u n p) K (nI (tk_s u n p)) N)) (hA : cA w dr B tf ta) (h59 : ex_at w2 59 = some c) (hc : rOk u z mo ma ym dm dt (nI sv) hn hm n p c) (hA2 : rA w2 T DR DW) (hRl : Rl tf ta dm dt hn hm DR DW dn an wn) (hsv : sv < 32) (hl : Go X (d + 5) mt_160 (ex_ent mt_160 [.ref 59]) w2 (some (.int 0), w2)) : lnRes X (d + 5) (d + 6) mt_182 u B T z mo ma ym dr n p w w2 := by
  have hp1 := tk_e_le u hp (by omega)
  have hlt := tk_e_gt u (L := n) (p := p) (by omega)
  have l6 := hRl.1.2.2.2.2.2.2.1
  obtain ⟨hbit, hor, hor2, hlt32⟩ := bit_0 sv hsv
  have H := cl_most (X := X) (d := d) hB hd hp1 h15 hA
  by_cases hb : Int32.toInt (nI sv &&& 1) = 0
  · obtain ⟨R4, R5⟩ := rh_0 (X := X) (d := d) hR hp hk h59 hc hA2 hl (hbit.mp hb)
    by_cases k4 : tk_k u n (tk_e u n p) = 4
    · rcases H with ⟨hb', -⟩ | ⟨-, ho, w', g, hbd⟩ | ⟨-, ho, -⟩ | ⟨-, ho, -⟩
      · exact absurd hb hb'
      · obtain ⟨w3, g3, h3⟩ := R4 k4
        exact Or.inl ⟨_, w', w3, g, hbd, g3, h3⟩
      · have := ho.1
        omega
      · have := ho.1
        omega
    · obtain ⟨c', hok, go⟩ := R5 (by have := tk_k_le u n (tk_e u n p); omega)
      rw [hor2] at hok
      have i59 := vg_at_put (x := c') h59
      obtain ⟨fs, hfs⟩ := rAt.ob (Or.inl ⟨(by have := tk_k_le u n (tk_e u n p); omega : tk_k u n (tk_e u n p) < 4), hok⟩)
      have hv : ∀ w1 q, Go X (d + 5) mt_161 (ex_ent mt_161 [.ref 59, .int 0]) (ex_put w2 59 c') (none, w1) → Go X (d + 6) mt_97 (123, [some (.ref 59), some (.int 0)], []) w1 q → Go X (d + 6) mt_97 (118, [some (.ref 59), some (.int 0)], []) (ex_put w2 59 c') q := fun w1 q a b => rrl_v0 (by rw [i59, hfs]) a b
      have F1 : rF w2 (ex_put w2 59 c') := rF.rf.p59
      obtain ⟨b1, b2⟩ := rb_0 (X := X) (d := d) hR hp1 (by have := tk_k_le u n (tk_e u n p); omega) i59 hok hA2.p59
      rcases H with ⟨hb', -⟩ | ⟨-, ho, w', g, hbd⟩ | ⟨-, ho, k2, w', g, hbd⟩ | ⟨-, ho, k2, w', g, hgd⟩
      · exact absurd hb hb'
      · obtain ⟨w3, g3, h3⟩ := rl_catb go hv F1 hR (hA2.p59).1 (rNo.of (u := u) (T := T) (b2 ho))
        exact Or.inl ⟨_, w', w3, g, hbd, g3, h3⟩
      · have hp2 := tk_e_le u hp1 (by have := ho.1; omega)
        obtain ⟨w3, g3, h3⟩ := rl_catb go hv F1 hR (hA2.p59).1 (rNo.og hp2 k2 (b1 ho))
        exact Or.inl ⟨_, w', w3, g, hbd, g3, h3⟩
      · have hp2 := tk_e_le u hp1 (by have := ho.1; omega)
        have hlt1 := tk_e_gt u (L := n) (p := (tk_e u n p)) (by have := ho.1; omega)
        have hlt2 := tk_e_gt u (L := n) (p := (tk_e u n (tk_e u n p))) (by omega)
        obtain ⟨w3, g3, h3⟩ := rl_catg go hv F1 hR hp2 k2 (b1 ho)
        rw [hor] at hgd
        exact Or.inr ⟨_, _, _, _, _, _, _, _, _, _, _, _, _, w', w3, by omega, tk_e_le u hp2 (by omega), hlt32, g, hgd, g3, h3, hRl.most (v := tk_v u n (tk_e u n p)) ho.2.1 ho.2.2⟩
  · rcases H with ⟨-, w', g, hbd⟩ | ⟨hb', -⟩ | ⟨hb', -⟩ | ⟨hb', -⟩
    · obtain ⟨w3, g3, h3⟩ := rh_0_a (X := X) (d := d) hR hp hk h59 hc hA2 hl (fun q => hb (hbit.mpr q))
      exact Or.inl ⟨_, w', w3, g, hbd, g3, h3⟩
    · exact absurd hb' hb
    · exact absurd hb' hb
    · exact absurd hb' hb
theorem ln_gap (hd : dr + 6 < 15) (hB : cB u n B) (hR : rB u n T) (hp : p ≤ n) (hk : tk_k u n p = 0) (h15 : ex_at w 15 = some (cT dr n 0 fp (nI sv) (tk_e u n p) K (nI (tk_s u n p)) N)) (hA : cA w dr B tf ta) (h59 : ex_at w2 59 = some c) (hc : rOk u z mo ma ym dm dt (nI sv) hn hm n p c) (hA2 : rA w2 T DR DW) (hRl : Rl tf ta dm dt hn hm DR DW dn an wn) (hsv : sv < 32) (hl : Go X (d + 5) mt_160 (ex_ent mt_160 [.ref 59]) w2 (some (.int 2), w2)) : lnRes X (d + 5) (d + 6) mt_184 u B T z mo ma ym dr n p w w2 := by
  have hp1 := tk_e_le u hp (by omega)
  have hlt := tk_e_gt u (L := n) (p := p) (by omega)
  have l6 := hRl.1.2.2.2.2.2.2.1
  obtain ⟨hbit, hor, hor2, hlt32⟩ := bit_2 sv hsv
  have H := cl_gap (X := X) (d := d) hB hd hp1 h15 hA
  by_cases hb : Int32.toInt (nI sv &&& 4) = 0
  · obtain ⟨R4, R5⟩ := rh_2 (X := X) (d := d) hR hp hk h59 hc hA2 hl (hbit.mp hb)
    by_cases k4 : tk_k u n (tk_e u n p) = 4
    · rcases H with ⟨hb', -⟩ | ⟨-, ho, w', g, hbd⟩ | ⟨-, ho, -⟩ | ⟨-, ho, -⟩
      · exact absurd hb hb'
      · obtain ⟨w3, g3, h3⟩ := R4 k4
        exact Or.inl ⟨_, w', w3, g, hbd, g3, h3⟩
      · have := ho.1
        omega
      · have := ho.1
        omega
    · obtain ⟨c', hok, go⟩ := R5 (by have := tk_k_le u n (tk_e u n p); omega)
      rw [hor2] at hok
      have i59 := vg_at_put (x := c') h59
      obtain ⟨fs, hfs⟩ := rAt.ob (Or.inl ⟨(by have := tk_k_le u n (tk_e u n p); omega : tk_k u n (tk_e u n p) < 4), hok⟩)
      have hv : ∀ w1 q, Go X (d + 5) mt_161 (ex_ent mt_161 [.ref 59, .int 2]) (ex_put w2 59 c') (none, w1) → Go X (d + 6) mt_97 (123, [some (.ref 59), some (.int 2)], []) w1 q → Go X (d + 6) mt_97 (118, [some (.ref 59), some (.int 2)], []) (ex_put w2 59 c') q := fun w1 q a b => rrl_v2 (by rw [i59, hfs]) a b
      have F1 : rF w2 (ex_put w2 59 c') := rF.rf.p59
      obtain ⟨b1, b2⟩ := rb_2 (X := X) (d := d) hR hp1 (by have := tk_k_le u n (tk_e u n p); omega) i59 hok hA2.p59 l6
      rcases H with ⟨hb', -⟩ | ⟨-, ho, w', g, hbd⟩ | ⟨-, ho, k2, w', g, hbd⟩ | ⟨-, ho, k2, w', g, hgd⟩
      · exact absurd hb hb'
      · obtain ⟨w3, g3, h3⟩ := rl_catb go hv F1 hR (hA2.p59).1 (rNo.of (u := u) (T := T) (b2 ho))
        exact Or.inl ⟨_, w', w3, g, hbd, g3, h3⟩
      · have hp2 := tk_e_le u hp1 (by have := ho.1; omega)
        obtain ⟨w3, g3, h3⟩ := rl_catb go hv F1 hR (hA2.p59).1 (rNo.og hp2 k2 (b1 ho))
        exact Or.inl ⟨_, w', w3, g, hbd, g3, h3⟩
      · have hp2 := tk_e_le u hp1 (by have := ho.1; omega)
        have hlt1 := tk_e_gt u (L := n) (p := (tk_e u n p)) (by have := ho.1; omega)
        have hlt2 := tk_e_gt u (L := n) (p := (tk_e u n (tk_e u n p))) (by omega)
        obtain ⟨w3, g3, h3⟩ := rl_catg go hv F1 hR hp2 k2 (b1 ho)
        rw [hor] at hgd
        exact Or.inr ⟨_, _, _, _, _, _, _, _, _, _, _, _, _, w', w3, by omega, tk_e_le u hp2 (by omega), hlt32, g, hgd, g3, h3, hRl.gap⟩
  · rcases H with ⟨-, w', g, hbd⟩ | ⟨hb', -⟩ | ⟨hb', -⟩ | ⟨hb', -⟩
    · obtain ⟨w3, g3, h3⟩ := rh_2_a (X := X) (d := d) hR hp hk h59 hc hA2 hl (fun q => hb (hbit.mpr q))
      exact Or.inl ⟨_, w', w3, g, hbd, g3, h3⟩
    · exact absurd hb' hb
    · exact absurd hb' hb
    · exact absurd hb' hb
theorem ln_near (hd : dr + 6 < 15) (hB : cB u n B) (hR : rB u n T) (hp : p ≤ n) (hk : tk_k u n p = 0) (h15 : ex_at w 15 = some (cT dr n 0 fp (nI sv) (tk_e u n p) K (nI (tk_s u n p)) N)) (hA : cA w dr B tf ta) (h59 : ex_at w2 59 = some c) (hc : rOk u z mo ma ym dm dt (nI sv) hn hm n p c) (hA2 : rA w2 T DR DW) (hRl : Rl tf ta dm dt hn hm DR DW dn an wn) (hsv : sv < 32) (hl : Go X (d + 5) mt_160 (ex_ent mt_160 [.ref 59]) w2 (some (.int 3), w2)) : lnRes X (d + 5) (d + 6) mt_185 u B T z mo ma ym dr n p w w2 := by
  have hp1 := tk_e_le u hp (by omega)
  have hlt := tk_e_gt u (L := n) (p := p) (by omega)
  have l6 := hRl.1.2.2.2.2.2.2.1
  obtain ⟨hbit, hor, hor2, hlt32⟩ := bit_3 sv hsv
  have H := cl_near (X := X) (d := d) hB hd hp1 h15 hA
  by_cases hb : Int32.toInt (nI sv &&& 8) = 0
  · obtain ⟨R4, R5⟩ := rh_3 (X := X) (d := d) hR hp hk h59 hc hA2 hl (hbit.mp hb)
    by_cases k4 : tk_k u n (tk_e u n p) = 4
    · rcases H with ⟨hb', -⟩ | ⟨-, ho, w', g, hbd⟩ | ⟨-, ho, -⟩
      · exact absurd hb hb'
      · obtain ⟨w3, g3, h3⟩ := R4 k4
        exact Or.inl ⟨_, w', w3, g, hbd, g3, h3⟩
      · omega
    · obtain ⟨c', hok, go⟩ := R5 (by have := tk_k_le u n (tk_e u n p); omega)
      rw [hor2] at hok
      have i59 := vg_at_put (x := c') h59
      obtain ⟨fs, hfs⟩ := rAt.ob (Or.inl ⟨(by have := tk_k_le u n (tk_e u n p); omega : tk_k u n (tk_e u n p) < 4), hok⟩)
      have hv : ∀ w1 q, Go X (d + 5) mt_161 (ex_ent mt_161 [.ref 59, .int 3]) (ex_put w2 59 c') (none, w1) → Go X (d + 6) mt_97 (123, [some (.ref 59), some (.int 3)], []) w1 q → Go X (d + 6) mt_97 (118, [some (.ref 59), some (.int 3)], []) (ex_put w2 59 c') q := fun w1 q a b => rrl_v3 (by rw [i59, hfs]) a b
      have F1 : rF w2 (ex_put w2 59 c') := rF.rf.p59
      have b1 := rb_3 (X := X) (d := d) hR hp1 (by have := tk_k_le u n (tk_e u n p); omega) i59 hok hA2.p59 l6
      rcases H with ⟨hb', -⟩ | ⟨-, k2, w', g, hbd⟩ | ⟨-, k2, w', g, hgd⟩
      · exact absurd hb hb'
      · obtain ⟨w3, g3, h3⟩ := rl_catb go hv F1 hR (hA2.p59).1 (rNo.og hp1 k2 b1)
        exact Or.inl ⟨_, w', w3, g, hbd, g3, h3⟩
      · have hlt1 := tk_e_gt u (L := n) (p := (tk_e u n p)) (by omega)
        obtain ⟨w3, g3, h3⟩ := rl_catg go hv F1 hR hp1 k2 b1
        rw [hor] at hgd
        exact Or.inr ⟨_, _, _, _, _, _, _, _, _, _, _, _, _, w', w3, by omega, tk_e_le u hp1 (by omega), hlt32, g, hgd, g3, h3, hRl.near⟩
  · rcases H with ⟨-, w', g, hbd⟩ | ⟨hb', -⟩ | ⟨hb', -⟩
    · obtain ⟨w3, g3, h3⟩ := rh_3_a (X := X) (d := d) hR hp hk h59 hc hA2 hl (fun q => hb (hbit.mpr q))
      exact Or.inl ⟨_, w', w3, g, hbd, g3, h3⟩
    · exact absurd hb' hb
    · exact absurd hb' hb
theorem ln_book (hd : dr + 6 < 15) (hB : cB u n B) (hR : rB u n T) (hp : p ≤ n) (hk : tk_k u n p = 0) (h15 : ex_at w 15 = some (cT dr n 0 fp (nI sv) (tk_e u n p) K (nI (tk_s u n p)) N)) (hA : cA w dr B tf ta) (h59 : ex_at w2 59 = some c) (hc : rOk u z mo ma ym dm dt (nI sv) hn hm n p c) (hA2 : rA w2 T DR DW) (hRl : Rl tf ta dm dt hn hm DR DW dn an wn) (hsv : sv < 32) (hl : Go X (d + 5) mt_160 (ex_ent mt_160 [.ref 59]) w2 (some (.int 4), w2)) : lnRes X (d + 5) (d + 6) mt_186 u B T z mo ma ym dr n p w w2 := by
  have hp1 := tk_e_le u hp (by omega)
  have hlt := tk_e_gt u (L := n) (p := p) (by omega)
  have l6 := hRl.1.2.2.2.2.2.2.1
  obtain ⟨hbit, hor, hor2, hlt32⟩ := bit_4 sv hsv
  have H := cl_book (X := X) (d := d) hB hd hp1 h15 hA
  by_cases hb : Int32.toInt (nI sv &&& 16) = 0
  · obtain ⟨R4, R5⟩ := rh_4 (X := X) (d := d) hR hp hk h59 hc hA2 hl (hbit.mp hb)
    by_cases k4 : tk_k u n (tk_e u n p) = 4
    · rcases H with ⟨hb', -⟩ | ⟨-, ho, w', g, hbd⟩ | ⟨v, -, ho, -⟩ | ⟨v, -, ho, -⟩
      · exact absurd hb hb'
      · obtain ⟨w3, g3, h3⟩ := R4 k4
        exact Or.inl ⟨_, w', w3, g, hbd, g3, h3⟩
      · omega
      · omega
    · obtain ⟨c', hok, go⟩ := R5 (by have := tk_k_le u n (tk_e u n p); omega)
      rw [hor2] at hok
      have i59 := vg_at_put (x := c') h59
      obtain ⟨fs, hfs⟩ := rAt.ob (Or.inl ⟨(by have := tk_k_le u n (tk_e u n p); omega : tk_k u n (tk_e u n p) < 4), hok⟩)
      have hv : ∀ w1 q, Go X (d + 5) mt_161 (ex_ent mt_161 [.ref 59, .int 4]) (ex_put w2 59 c') (none, w1) → Go X (d + 6) mt_97 (123, [some (.ref 59), some (.int 4)], []) w1 q → Go X (d + 6) mt_97 (118, [some (.ref 59), some (.int 4)], []) (ex_put w2 59 c') q := fun w1 q a b => rrl_v4 (by rw [i59, hfs]) a b
      have F1 : rF w2 (ex_put w2 59 c') := rF.rf.p59
      obtain ⟨b1, b2⟩ := rb_4 (X := X) (d := d) hR hp1 (by have := tk_k_le u n (tk_e u n p); omega) i59 hok hA2.p59 l6
      rcases H with ⟨hb', -⟩ | ⟨-, ho, w', g, hbd⟩ | ⟨v, -, k0, hv1, hv4, k2, w', g, hbd⟩ | ⟨v, -, k0, hv1, hv4, k2, w', g, hgd⟩
      · exact absurd hb hb'
      · obtain ⟨w3, g3, h3⟩ := rl_catb go hv F1 hR (hA2.p59).1 (rNo.of (u := u) (T := T) (b2 ho))
        exact Or.inl ⟨_, w', w3, g, hbd, g3, h3⟩
      · have hp2 := tk_e_le u hp1 (by omega)
        obtain ⟨w3, g3, h3⟩ := rl_catb go hv F1 hR (hA2.p59).1 (rNo.og hp2 k2 (b1 v k0 hv1 hv4))
        exact Or.inl ⟨_, w', w3, g, hbd, g3, h3⟩
      · have hp2 := tk_e_le u hp1 (by omega)
        have hlt1 := tk_e_gt u (L := n) (p := (tk_e u n p)) (by omega)
        have hlt2 := tk_e_gt u (L := n) (p := (tk_e u n (tk_e u n p))) (by omega)
        obtain ⟨w3, g3, h3⟩ := rl_catg go hv F1 hR hp2 k2 (b1 v k0 hv1 hv4)
        rw [hor] at hgd
        exact Or.inr ⟨_, _, _, _, _, _, _, _, _, _, _, _, _, w', w3, by omega, tk_e_le u hp2 (by omega), hlt32, g, hgd, g3, h3, hRl.book⟩
  · rcases H with ⟨-, w', g, hbd⟩ | ⟨hb', -⟩ | ⟨v, hb', -⟩ | ⟨v, hb', -⟩
    · obtain ⟨w3, g3, h3⟩ := rh_4_a (X := X) (d := d) hR hp hk h59 hc hA2 hl (fun q => hb (hbit.mpr q))
      exact Or.inl ⟨_, w', w3, g, hbd, g3, h3⟩
    · exact absurd hb' hb
    · exact absurd hb' hb
    · exact absurd hb' hb
theorem ln_page (hd : dr + 6 < 15) (hB : cB u n B) (hR : rB u n T) (hp : p ≤ n) (hk : tk_k u n p = 0) (h15 : ex_at w 15 = some (cT dr n 0 fp (nI sv) (tk_e u n p) K (nI (tk_s u n p)) N)) (hA : cA w dr B tf ta) (h59 : ex_at w2 59 = some c) (hc : rOk u z mo ma ym dm dt (nI sv) hn hm n p c) (hA2 : rA w2 T DR DW) (hRl : Rl tf ta dm dt hn hm DR DW dn an wn) (hsv : sv < 32) (hl : Go X (d + 5) mt_160 (ex_ent mt_160 [.ref 59]) w2 (some (.int 5), w2)) : lnRes X (d + 5) (d + 6) mt_187 u B T z mo ma ym dr n p w w2 := by
  have hp1 := tk_e_le u hp (by omega)
  have hlt := tk_e_gt u (L := n) (p := p) (by omega)
  have l6 := hRl.1.2.2.2.2.2.2.1
  have l1 := hRl.1.2.1
  have hP := hRl.2.2.2.1
  have H := cl_page (X := X) (d := d) hB hd hp1 h15 hA l1
  obtain ⟨R4, R5⟩ := rh_5 (X := X) (d := d) hR hp hk h59 hc hA2 hl
  by_cases k4 : tk_k u n (tk_e u n p) = 4
  · rcases H with ⟨ho, w', g, hbd⟩ | ⟨ho, -⟩ | ⟨ho, -⟩ | ⟨ho, -⟩ | ⟨ho, -⟩
    · obtain ⟨w3, g3, h3⟩ := R4 k4
      exact Or.inl ⟨_, w', w3, g, hbd, g3, h3⟩
    · have := ho.1
      omega
    · have := ho.1
      omega
    · have := ho.1
      omega
    · have := ho.1
      omega
  · obtain ⟨c', hok, go⟩ := R5 (by have := tk_k_le u n (tk_e u n p); omega)
    have i59 := vg_at_put (x := c') h59
    obtain ⟨fs, hfs⟩ := rAt.ob (Or.inl ⟨(by have := tk_k_le u n (tk_e u n p); omega : tk_k u n (tk_e u n p) < 4), hok⟩)
    have hv : ∀ w1 q, Go X (d + 5) mt_161 (ex_ent mt_161 [.ref 59, .int 5]) (ex_put w2 59 c') (none, w1) → Go X (d + 6) mt_97 (123, [some (.ref 59), some (.int 5)], []) w1 q → Go X (d + 6) mt_97 (118, [some (.ref 59), some (.int 5)], []) (ex_put w2 59 c') q := fun w1 q a b => rrl_v5 (by rw [i59, hfs]) a b
    have F1 : rF w2 (ex_put w2 59 c') := rF.rf.p59
    obtain ⟨b1, b2, b3, b4, b5⟩ := rb_5 (X := X) (d := d) hR hp1 (by have := tk_k_le u n (tk_e u n p); omega) i59 hok hA2.p59 l6
    have pgq : okF u n (tk_e u n p) 1 16 → DR.getD (61 + tk_v u n (tk_e u n p)) 0 = (ta 1).getD (tk_v u n (tk_e u n p)) 0 := fun ho => (hP _ ho.2.1 ho.2.2).1
    rcases H with ⟨ho, w', g, hbd⟩ | ⟨ho, hq, w', g, hbd⟩ | ⟨ho, hq, ho2, w', g, hbd⟩ | ⟨ho, hq, ho2, k2, w', g, hbd⟩ | ⟨ho, hq, ho2, k2, w', g, hgd⟩
    · obtain ⟨w3, g3, h3⟩ := rl_catb go hv F1 hR (hA2.p59).1 (rNo.of (u := u) (T := T) (b1 ho))
      exact Or.inl ⟨_, w', w3, g, hbd, g3, h3⟩
    · obtain ⟨w3, g3, h3⟩ := rl_catb go hv F1 hR (hA2.p59).1 (rNo.of (u := u) (T := T) (b2 ho (by rw [pgq ho]; exact hq)))
      exact Or.inl ⟨_, w', w3, g, hbd, g3, h3⟩
    · obtain ⟨w3, g3, h3⟩ := rl_catb go hv F1 hR (hA2.p59).1 (rNo.of (u := u) (T := T) (b3 ho (by rw [pgq ho]; exact hq) ho2))
      exact Or.inl ⟨_, w', w3, g, hbd, g3, h3⟩
    · have hp2 := tk_e_le u hp1 (by have := ho.1; omega)
      have hp3 := tk_e_le u hp2 (by have := ho2.1; omega)
      by_cases k5 : tk_k u n (tk_e u n (tk_e u n (tk_e u n p))) = 4
      · obtain ⟨w3, g3, h3⟩ := rl_catb go hv F1 hR (hA2.p59).1 (rNo.of (u := u) (T := T) (b4 ho (by rw [pgq ho]; exact hq) ho2 k5))
        exact Or.inl ⟨_, w', w3, g, hbd, g3, h3⟩
      · obtain ⟨w3, g3, h3⟩ := rl_catb go hv F1 hR (hA2.p59).1 (rNo.og hp3 k2 (b5 ho (by rw [pgq ho]; exact hq) ho2 (by have := tk_k_le u n (tk_e u n (tk_e u n (tk_e u n p))); omega)))
        exact Or.inl ⟨_, w', w3, g, hbd, g3, h3⟩
    · have hp2 := tk_e_le u hp1 (by have := ho.1; omega)
      have hp3 := tk_e_le u hp2 (by have := ho2.1; omega)
      have hlt1 := tk_e_gt u (L := n) (p := (tk_e u n p)) (by have := ho.1; omega)
      have hlt2 := tk_e_gt u (L := n) (p := (tk_e u n (tk_e u n p))) (by have := ho2.1; omega)
      have hlt3 := tk_e_gt u (L := n) (p := (tk_e u n (tk_e u n (tk_e u n p)))) (by omega)
      obtain ⟨w3, g3, h3⟩ := rl_catg go hv F1 hR hp3 k2 (b5 ho (by rw [pgq ho]; exact hq) ho2 (by omega))
      exact Or.inr ⟨_, _, _, _, _, _, _, _, _, _, _, _, _, w', w3, by omega, tk_e_le u hp3 (by omega), hsv, g, hgd, g3, h3, hRl.page ho.2.1 ho.2.2 ho2.2.2 hq⟩
theorem ln_wait (hd : dr + 6 < 15) (hB : cB u n B) (hR : rB u n T) (hp : p ≤ n) (hk : tk_k u n p = 0) (h15 : ex_at w 15 = some (cT dr n 0 fp (nI sv) (tk_e u n p) K (nI (tk_s u n p)) N)) (hA : cA w dr B tf ta) (h59 : ex_at w2 59 = some c) (hc : rOk u z mo ma ym dm dt (nI sv) hn hm n p c) (hA2 : rA w2 T DR DW) (hRl : Rl tf ta dm dt hn hm DR DW dn an wn) (hsv : sv < 32) (hl : Go X (d + 5) mt_160 (ex_ent mt_160 [.ref 59]) w2 (some (.int 8), w2)) : lnRes X (d + 5) (d + 6) mt_190 u B T z mo ma ym dr n p w w2 := by
  have hp1 := tk_e_le u hp (by omega)
  have hlt := tk_e_gt u (L := n) (p := p) (by omega)
  have l6 := hRl.1.2.2.2.2.2.2.1
  have hS := hRl.2.1
  have s10 : tf 7 = nI wn := hS.2.2.2.2.2.2.2.2.2.1
  have s11 : DR.getD 87 0 = nI wn := hS.2.2.2.2.2.2.2.2.2.2.1
  have s14 : wn ≤ 4 := hS.2.2.2.2.2.2.2.2.2.2.2.2.2.1
  have ew : (nI wn).toInt = (wn : Int) := nI_toInt (by omega)
  have H := cl_wait (X := X) (d := d) hB hd hp1 h15 hA s10 s14 hRl.1.2.2.2.2.1 hRl.1.2.2.2.2.2.1
  by_cases w4 : wn = 4
  · rcases H with ⟨-, w', g, hbd⟩ | ⟨hw, -⟩ | ⟨hw, -⟩ | ⟨hw, -⟩ | ⟨hw, -⟩
    · obtain ⟨w3, g3, h3⟩ := rh_8_a (X := X) (d := d) hR hp hk h59 hc hA2 hl l6 (by rw [s11]; omega)
      exact Or.inl ⟨_, w', w3, g, hbd, g3, h3⟩
    · omega
    · omega
    · omega
    · omega
  have w4 : wn < 4 := by omega
  obtain ⟨R4, R5⟩ := rh_8 (X := X) (d := d) hR hp hk h59 hc hA2 hl l6 (by rw [s11]; omega)
  by_cases k4 : tk_k u n (tk_e u n p) = 4
  · rcases H with ⟨hw, -⟩ | ⟨-, ho, w', g, hbd⟩ | ⟨-, ho, -⟩ | ⟨-, ho, -⟩ | ⟨-, ho, -⟩
    · omega
    · obtain ⟨w3, g3, h3⟩ := R4 k4
      exact Or.inl ⟨_, w', w3, g, hbd, g3, h3⟩
    · have := ho.1
      omega
    · have := ho.1
      omega
    · have := ho.1
      omega
  · obtain ⟨c', hok, go⟩ := R5 (by have := tk_k_le u n (tk_e u n p); omega)
    have i59 := vg_at_put (x := c') h59
    obtain ⟨fs, hfs⟩ := rAt.ob (Or.inl ⟨(by have := tk_k_le u n (tk_e u n p); omega : tk_k u n (tk_e u n p) < 4), hok⟩)
    have hv : ∀ w1 q, Go X (d + 5) mt_161 (ex_ent mt_161 [.ref 59, .int 8]) (ex_put w2 59 c') (none, w1) → Go X (d + 6) mt_97 (123, [some (.ref 59), some (.int 8)], []) w1 q → Go X (d + 6) mt_97 (118, [some (.ref 59), some (.int 8)], []) (ex_put w2 59 c') q := fun w1 q a b => rrl_v8 (by rw [i59, hfs]) a b
    have F1 : rF w2 (ex_put w2 59 c') := rF.rf.p59
    obtain ⟨b1, b2, b3⟩ := rb_8 (X := X) (d := d) hR hp1 (by have := tk_k_le u n (tk_e u n p); omega) i59 hok hA2.p59 l6 s11 w4
    rcases H with ⟨hw, -⟩ | ⟨-, ho, w', g, hbd⟩ | ⟨-, ho, ho2, w', g, hbd⟩ | ⟨-, ho, ho2, k2, w', g, hbd⟩ | ⟨-, ho, ho2, k2, w', g, hgd⟩
    · omega
    · obtain ⟨w3, g3, h3⟩ := rl_catb go hv F1 hR (hA2.p59).1 (rNo.of (u := u) (T := T) (b1 ho))
      exact Or.inl ⟨_, w', w3, g, hbd, g3, h3⟩
    · obtain ⟨w3, g3, h3⟩ := rl_catb go hv F1 hR (hA2.p59).1 (rNo.of (u := u) (T := T) (b2 ho ho2))
      exact Or.inl ⟨_, w', w3, g, hbd, g3, h3⟩
    · have hp2 := tk_e_le u hp1 (by have := ho.1; omega)
      have hp3 := tk_e_le u hp2 (by have := ho2.1; omega)
      obtain ⟨w3, g3, h3⟩ := rl_catb go hv F1 hR (hA2.p59).1 (rNo.og hp3 k2 (b3 ho ho2))
      exact Or.inl ⟨_, w', w3, g, hbd, g3, h3⟩
    · have hp2 := tk_e_le u hp1 (by have := ho.1; omega)
      have hp3 := tk_e_le u hp2 (by have := ho2.1; omega)
      have hlt1 := tk_e_gt u (L := n) (p := (tk_e u n p)) (by have := ho.1; omega)
      have hlt2 := tk_e_gt u (L := n) (p := (tk_e u n (tk_e u n p))) (by have := ho2.1; omega)
      have hlt3 := tk_e_gt u (L := n) (p := (tk_e u n (tk_e u n (tk_e u n p)))) (by omega)
      obtain ⟨w3, g3, h3⟩ := rl_catg go hv F1 hR hp3 k2 (b3 ho ho2)
      exact Or.inr ⟨_, _, _, _, _, _, _, _, _, _, _, _, _, w', w3, by omega, tk_e_le u hp3 (by omega), hsv, g, hgd, g3, h3, hRl.wait ho.2.2 w4⟩
theorem ln_rung (hd : dr + 6 < 15) (hB : cB u n B) (hR : rB u n T) (hp : p ≤ n) (hk : tk_k u n p = 0) (h15 : ex_at w 15 = some (cT dr n 0 fp (nI sv) (tk_e u n p) K (nI (tk_s u n p)) N)) (hA : cA w dr B tf ta) (h59 : ex_at w2 59 = some c) (hc : rOk u z mo ma ym dm dt (nI sv) hn hm n p c) (hA2 : rA w2 T DR DW) (hRl : Rl tf ta dm dt hn hm DR DW dn an wn) (hsv : sv < 32) (hl : Go X (d + 5) mt_160 (ex_ent mt_160 [.ref 59]) w2 (some (.int 6), w2)) : lnRes X (d + 5) (d + 6) mt_188 u B T z mo ma ym dr n p w w2 := by
  have hp1 := tk_e_le u hp (by omega)
  have hlt := tk_e_gt u (L := n) (p := p) (by omega)
  have l6 := hRl.1.2.2.2.2.2.2.1
  obtain ⟨R4, R5⟩ := rh_6 (X := X) (d := d) hR hp hk h59 hc hA2 hl
  rcases cf_fig (X := X) (d := d + 2) (lw := 0) (hg := 16) (l := 0) (h := 16) (by decide) (by decide) hB hp1 h15 hA.1 with ⟨ho, g⟩ | ⟨ho, cb, hcb, g⟩
  · obtain ⟨c', hok, go⟩ := R5 (by have := ho.1; omega)
    have hlt1 := tk_e_gt u (L := n) (p := (tk_e u n p)) (by have := ho.1; omega)
    have i59 := vg_at_put (x := c') h59
    obtain ⟨fs, hfs⟩ := rAt.ob (Or.inl ⟨(by have := ho.1; omega : tk_k u n (tk_e u n p) < 4), hok⟩)
    have hv : ∀ w1 q, Go X (d + 5) mt_161 (ex_ent mt_161 [.ref 59, .int 6]) (ex_put w2 59 c') (none, w1) → Go X (d + 6) mt_97 (123, [some (.ref 59), some (.int 6)], []) w1 q → Go X (d + 6) mt_97 (118, [some (.ref 59), some (.int 6)], []) (ex_put w2 59 c') q := fun w1 q a b => rrl_v6 (by rw [i59, hfs]) a b
    have F1 : rF w2 (ex_put w2 59 c') := rF.rf.p59
    rcases lp_rung (X := X) (d := d) hd hB hR (n + 1) (tk_e u n p) 0 _ _ tf ta hn hm DR DW dn an wn none c' (by omega) hp1 ho (by omega) (vg_at_put h15) (hA.p15 hd) cF.rf.p15 i59 hok hA2.p59 rF.rf hRl with ⟨s, w', w3, q1, q2, q3, q4⟩ | ⟨p', w', w3, tf', ta', hn', hm', DR', DW', dn', an', wn', q0, q1, q2, q3, q4, q5, q6, q7⟩
    · obtain ⟨w5, g5, h5⟩ := rl_catb go hv F1 hR (hA2.p59).1 ⟨w3, rlo_6 (by rw [i59, hfs]) (rrg_0 (by rw [i59, hfs]) q3), q4⟩
      exact Or.inl ⟨s, w', w5, trg_0_1 h15 g q1, q2, g5, h5⟩
    · obtain ⟨w5, g5, h5⟩ := rl_catg go hv F1 hR q1 q2 ⟨w3, rlo_6 (by rw [i59, hfs]) (rrg_0 (by rw [i59, hfs]) q5), q6⟩
      have hlt2 := tk_e_gt u (L := n) (p := p') (by omega)
      exact Or.inr ⟨_, sv, _, _, _, _, _, _, _, _, _, _, _, w', w5, by omega, tk_e_le u q1 (by omega), hsv, trg_0_1 h15 g q3, q4, g5, h5, q7⟩
  · have hcb' := hcb
    obtain ⟨fa, se', P', K', S', N', hfa, rfl⟩ := hcb'
    have gc := trg_0_0 h15 g (trg_b (vg_at_put h15) (by decide) (trg_e2_0 (vg_at_put h15) hfa))
    have CB : cBd dr n (tk_s u n (tk_e u n p)) w _ := ⟨⟨_, vg_at_put h15, hcb⟩, cF.rf.p15⟩
    by_cases k4 : tk_k u n (tk_e u n p) = 4
    · obtain ⟨w3, g3, h3⟩ := R4 k4
      exact Or.inl ⟨_, _, w3, gc, CB, g3, h3⟩
    · obtain ⟨c', hok, go⟩ := R5 (by have := tk_k_le u n (tk_e u n p); omega)
      have i59 := vg_at_put (x := c') h59
      obtain ⟨fs, hfs⟩ := rAt.ob (Or.inl ⟨(by have := tk_k_le u n (tk_e u n p); omega : tk_k u n (tk_e u n p) < 4), hok⟩)
      have hv : ∀ w1 q, Go X (d + 5) mt_161 (ex_ent mt_161 [.ref 59, .int 6]) (ex_put w2 59 c') (none, w1) → Go X (d + 6) mt_97 (123, [some (.ref 59), some (.int 6)], []) w1 q → Go X (d + 6) mt_97 (118, [some (.ref 59), some (.int 6)], []) (ex_put w2 59 c') q := fun w1 q a b => rrl_v6 (by rw [i59, hfs]) a b
      have F1 : rF w2 (ex_put w2 59 c') := rF.rf.p59
      obtain ⟨w3, g3, h3⟩ := rr_rung (X := X) (d := d) (o2 := none) (by have := tk_k_le u n (tk_e u n p); omega) ho i59 hok hA2.p59 l6
      obtain ⟨w5, g5, h5⟩ := rl_catb (u := u) (T := T) go hv F1 hR (hA2.p59).1 ⟨w3, rlo_6 (by rw [i59, hfs]) (rrg_0 (by rw [i59, hfs]) g3), Or.inl h3⟩
      exact Or.inl ⟨_, _, w5, gc, CB, g5, h5⟩
theorem ln_ask (hd : dr + 6 < 15) (hB : cB u n B) (hR : rB u n T) (hp : p ≤ n) (hk : tk_k u n p = 0) (h15 : ex_at w 15 = some (cT dr n 0 fp (nI sv) (tk_e u n p) K (nI (tk_s u n p)) N)) (hA : cA w dr B tf ta) (h59 : ex_at w2 59 = some c) (hc : rOk u z mo ma ym dm dt (nI sv) hn hm n p c) (hA2 : rA w2 T DR DW) (hRl : Rl tf ta dm dt hn hm DR DW dn an wn) (hsv : sv < 32) (hl : Go X (d + 5) mt_160 (ex_ent mt_160 [.ref 59]) w2 (some (.int 7), w2)) : lnRes X (d + 5) (d + 6) mt_189 u B T z mo ma ym dr n p w w2 := by
  have hp1 := tk_e_le u hp (by omega)
  have hlt := tk_e_gt u (L := n) (p := p) (by omega)
  have l6 := hRl.1.2.2.2.2.2.2.1
  obtain ⟨R4, R5⟩ := rh_7 (X := X) (d := d) hR hp hk h59 hc hA2 hl
  rcases cf_fig (X := X) (d := d + 2) (lw := 0) (hg := 3) (l := 0) (h := 3) (by decide) (by decide) hB hp1 h15 hA.1 with ⟨ho, g⟩ | ⟨ho, cb, hcb, g⟩
  · obtain ⟨c', hok, go⟩ := R5 (by have := ho.1; omega)
    have hlt1 := tk_e_gt u (L := n) (p := (tk_e u n p)) (by have := ho.1; omega)
    have i59 := vg_at_put (x := c') h59
    obtain ⟨fs, hfs⟩ := rAt.ob (Or.inl ⟨(by have := ho.1; omega : tk_k u n (tk_e u n p) < 4), hok⟩)
    have hv : ∀ w1 q, Go X (d + 5) mt_161 (ex_ent mt_161 [.ref 59, .int 7]) (ex_put w2 59 c') (none, w1) → Go X (d + 6) mt_97 (123, [some (.ref 59), some (.int 7)], []) w1 q → Go X (d + 6) mt_97 (118, [some (.ref 59), some (.int 7)], []) (ex_put w2 59 c') q := fun w1 q a b => rrl_v7 (by rw [i59, hfs]) a b
    have F1 : rF w2 (ex_put w2 59 c') := rF.rf.p59
    rcases lp_ask (X := X) (d := d) hd hB hR (n + 1) (tk_e u n p) 0 _ _ tf ta hn hm DR DW dn an wn none c' (by omega) hp1 ho (by omega) (vg_at_put h15) (hA.p15 hd) cF.rf.p15 i59 hok hA2.p59 rF.rf hRl with ⟨s, w', w3, q1, q2, q3, q4⟩ | ⟨p', w', w3, tf', ta', hn', hm', DR', DW', dn', an', wn', q0, q1, q2, q3, q4, q5, q6, q7⟩
    · obtain ⟨w5, g5, h5⟩ := rl_catb go hv F1 hR (hA2.p59).1 ⟨w3, rlo_7 (by rw [i59, hfs]) (rra_0 (by rw [i59, hfs]) q3), q4⟩
      exact Or.inl ⟨s, w', w5, tak_0_1 h15 g q1, q2, g5, h5⟩
    · obtain ⟨w5, g5, h5⟩ := rl_catg go hv F1 hR q1 q2 ⟨w3, rlo_7 (by rw [i59, hfs]) (rra_0 (by rw [i59, hfs]) q5), q6⟩
      have hlt2 := tk_e_gt u (L := n) (p := p') (by omega)
      exact Or.inr ⟨_, sv, _, _, _, _, _, _, _, _, _, _, _, w', w5, by omega, tk_e_le u q1 (by omega), hsv, tak_0_1 h15 g q3, q4, g5, h5, q7⟩
  · have hcb' := hcb
    obtain ⟨fa, se', P', K', S', N', hfa, rfl⟩ := hcb'
    have gc := tak_0_0 h15 g (tak_b (vg_at_put h15) (by decide) (tak_e2_0 (vg_at_put h15) hfa))
    have CB : cBd dr n (tk_s u n (tk_e u n p)) w _ := ⟨⟨_, vg_at_put h15, hcb⟩, cF.rf.p15⟩
    by_cases k4 : tk_k u n (tk_e u n p) = 4
    · obtain ⟨w3, g3, h3⟩ := R4 k4
      exact Or.inl ⟨_, _, w3, gc, CB, g3, h3⟩
    · obtain ⟨c', hok, go⟩ := R5 (by have := tk_k_le u n (tk_e u n p); omega)
      have i59 := vg_at_put (x := c') h59
      obtain ⟨fs, hfs⟩ := rAt.ob (Or.inl ⟨(by have := tk_k_le u n (tk_e u n p); omega : tk_k u n (tk_e u n p) < 4), hok⟩)
      have hv : ∀ w1 q, Go X (d + 5) mt_161 (ex_ent mt_161 [.ref 59, .int 7]) (ex_put w2 59 c') (none, w1) → Go X (d + 6) mt_97 (123, [some (.ref 59), some (.int 7)], []) w1 q → Go X (d + 6) mt_97 (118, [some (.ref 59), some (.int 7)], []) (ex_put w2 59 c') q := fun w1 q a b => rrl_v7 (by rw [i59, hfs]) a b
      have F1 : rF w2 (ex_put w2 59 c') := rF.rf.p59
      obtain ⟨w3, g3, h3⟩ := rr_ask (X := X) (d := d) (o2 := none) (by have := tk_k_le u n (tk_e u n p); omega) ho i59 hok hA2.p59 l6
      obtain ⟨w5, g5, h5⟩ := rl_catb (u := u) (T := T) go hv F1 hR (hA2.p59).1 ⟨w3, rlo_7 (by rw [i59, hfs]) (rra_0 (by rw [i59, hfs]) g3), Or.inl h3⟩
      exact Or.inl ⟨_, _, w5, gc, CB, g5, h5⟩
theorem ln_matters (hd : dr + 6 < 15) (hB : cB u n B) (hR : rB u n T) (hp : p ≤ n) (hk : tk_k u n p = 0) (h15 : ex_at w 15 = some (cT dr n 0 fp (nI sv) (tk_e u n p) K (nI (tk_s u n p)) N)) (hA : cA w dr B tf ta) (h59 : ex_at w2 59 = some c) (hc : rOk u z mo ma ym dm dt (nI sv) hn hm n p c) (hA2 : rA w2 T DR DW) (hRl : Rl tf ta dm dt hn hm DR DW dn an wn) (hsv : sv < 32) (hl : Go X (d + 5) mt_160 (ex_ent mt_160 [.ref 59]) w2 (some (.int 1), w2)) : lnRes X (d + 5) (d + 6) mt_183 u B T z mo ma ym dr n p w w2 := by
  have hp1 := tk_e_le u hp (by omega)
  have hlt := tk_e_gt u (L := n) (p := p) (by omega)
  have l6 := hRl.1.2.2.2.2.2.2.1
  obtain ⟨hbit, hor, hor2, hlt32⟩ := bit_1 sv hsv
  by_cases hb : Int32.toInt (nI sv &&& 2) = 0
  · obtain ⟨R4, R5⟩ := rh_1 (X := X) (d := d) hR hp hk h59 hc hA2 hl (hbit.mp hb)
    have g1 := to_2 (X := X) (d := d + 4) (m := 2) h15 hb
    have i15 := vg_at_put (x := (cT dr n 0 fp (nI sv ||| 2) (tk_e u n p) K (nI (tk_s u n p)) N)) h15
    have iA : cA _ dr B tf ta := hA.p15 hd (c := (cT dr n 0 fp (nI sv ||| 2) (tk_e u n p) K (nI (tk_s u n p)) N))
    rcases cf_fig (X := X) (d := d + 2) (lw := 1) (hg := 4) (l := 1) (h := 4) (by decide) (by decide) hB hp1 i15 iA.1 with ⟨ho, g2⟩ | ⟨ho, cb, hcb, g2⟩
    · have hp2 := tk_e_le u hp1 (by have := ho.1; omega)
      have hlt1 := tk_e_gt u (L := n) (p := (tk_e u n p)) (by have := ho.1; omega)
      obtain ⟨c', hok, go⟩ := R5 (by have := ho.1; omega)
      rw [hor2] at hok
      have i59 := vg_at_put (x := c') h59
      obtain ⟨fs, hfs⟩ := rAt.ob (Or.inl ⟨(by have := ho.1; omega : tk_k u n (tk_e u n p) < 4), hok⟩)
      have hv : ∀ w1 q, Go X (d + 5) mt_161 (ex_ent mt_161 [.ref 59, .int 1]) (ex_put w2 59 c') (none, w1) → Go X (d + 6) mt_97 (123, [some (.ref 59), some (.int 1)], []) w1 q → Go X (d + 6) mt_97 (118, [some (.ref 59), some (.int 1)], []) (ex_put w2 59 c') q := fun w1 q a b => rrl_v1 (by rw [i59, hfs]) a b
      have F1 : rF w2 (ex_put w2 59 c') := rF.rf.p59
      have j15 := vg_at_put (x := (cT dr n 0 fp (nI sv ||| 2) (tk_e u n (tk_e u n p)) (nI 1) (nI (tk_s u n (tk_e u n p))) (nI (tk_v u n (tk_e u n p))))) i15
      have jA : cA _ dr B tf ta := iA.p15 hd (c := (cT dr n 0 fp (nI sv ||| 2) (tk_e u n (tk_e u n p)) (nI 1) (nI (tk_s u n (tk_e u n p))) (nI (tk_v u n (tk_e u n p)))))
      have jF : cF dr w _ := ((cF.rf.p15 (c := (cT dr n 0 fp (nI sv ||| 2) (tk_e u n p) K (nI (tk_s u n p)) N))).p15 (c := (cT dr n 0 fp (nI sv ||| 2) (tk_e u n (tk_e u n p)) (nI 1) (nI (tk_s u n (tk_e u n p))) (nI (tk_v u n (tk_e u n p)))))).pt (k := dr) (c := dT dr (up tf 1 (nI (tk_v u n (tk_e u n p))))) (Nat.le_refl _) (by omega)
      have k15 := vg_at_o (x := dT dr (up tf 1 (nI (tk_v u n (tk_e u n p))))) (sh_beq (show dr ≠ 15 by omega)) j15
      rw [hor] at j15 k15 jF jA i15 iA g1 g2
      rcases rf_num (X := X) (d := d + 1) (lw := 1) (hg := 4) (l := 1) (h := 4) (by decide) (by decide) hR hp1 i59 (Or.inl ⟨(by have := ho.1; omega), hok⟩) (hA2.p59).1 with ⟨-, c2, r2, gn⟩ | ⟨ho', -⟩
      · obtain ⟨dm1, dt1, tl1, hn1, hm1, po1, fr1, so1, va1, fa1, wa1, rfl, -, -, hx⟩ := r2.ex
        have m0 : ∀ q, Go X (d + 4) mt_195 (12, [some (.ref 59), some (.int (nI 0)), none], []) (ex_put (ex_put (ex_put w2 59 c') 59 (rC z mo ma ym dm1 dt1 tl1 hn1 hm1 (nI n) po1 fr1 so1 va1 fa1 wa1)) 59 (rC z mo ma ym dm1 (nI (tk_v u n (tk_e u n p))) tl1 hn1 hm1 (nI n) po1 fr1 so1 va1 fa1 wa1)) q → Go X (d + 4) mt_195 (ex_ent mt_195 [.ref 59]) (ex_put w2 59 c') q := fun q kk => rmt_0 (by rw [i59, hfs]) gn (vg_at_put i59) kk
        rcases lp_mat (X := X) (d := d) hd hB hR (mv := tk_v u n (tk_e u n p)) ho.2.2 (dt := (nI (tk_v u n (tk_e u n p)))) rfl (tf := up tf 1 (nI (tk_v u n (tk_e u n p)))) rfl (n + 1) (tk_e u n (tk_e u n p)) 0 _ _ ta DW none _ _ _ _ (by omega) hp2 (by omega) k15 (jA.pt hd _) jF (vg_at_put (vg_at_put i59)) (hx _) (((hA2.p59).p59).p59) ((rF.rf.p59).p59) (hRl.mats ho.2.1 ho.2.2) with ⟨s, w', w3, q1, q2, q3, q4⟩ | ⟨p', w', w3, ta', DW', q0, q1, q2, q3, q4, q5, q6, q7⟩
        · obtain ⟨w5, g5, h5⟩ := rl_catb go hv F1 hR (hA2.p59).1 ⟨w3, rlo_1 (by rw [i59, hfs]) (m0 _ q3), q4⟩
          exact Or.inl ⟨s, w', w5, tmt_3 h15 g1 i15 g2 j15 jA.2.1 (sh_beq (by omega)) q1, q2, g5, h5⟩
        · obtain ⟨w5, g5, h5⟩ := rl_catg go hv F1 hR q1 q2 ⟨w3, rlo_1 (by rw [i59, hfs]) (m0 _ q5), q6⟩
          have hlt2 := tk_e_gt u (L := n) (p := p') (by omega)
          exact Or.inr ⟨_, sv ||| 2, _, _, _, _, _, _, _, _, _, _, _, w', w5, by omega, tk_e_le u q1 (by omega), hlt32, tmt_3 h15 g1 i15 g2 j15 jA.2.1 (sh_beq (by omega)) q3, q4, g5, h5, q7⟩
      · exact absurd ho ho'
    · have gc := tmt_2 h15 g1 i15 g2
      have CB : cBd dr n (tk_s u n (tk_e u n p)) w _ := ⟨⟨_, vg_at_put i15, hcb⟩, (cF.rf.p15 (c := (cT dr n 0 fp (nI sv ||| 2) (tk_e u n p) K (nI (tk_s u n p)) N))).p15 (c := cb)⟩
      by_cases k4 : tk_k u n (tk_e u n p) = 4
      · obtain ⟨w3, g3, h3⟩ := R4 k4
        exact Or.inl ⟨_, _, w3, gc, CB, g3, h3⟩
      · obtain ⟨c', hok, go⟩ := R5 (by have := tk_k_le u n (tk_e u n p); omega)
        rw [hor2] at hok
        have i59 := vg_at_put (x := c') h59
        obtain ⟨fs, hfs⟩ := rAt.ob (Or.inl ⟨(by have := tk_k_le u n (tk_e u n p); omega : tk_k u n (tk_e u n p) < 4), hok⟩)
        have hv : ∀ w1 q, Go X (d + 5) mt_161 (ex_ent mt_161 [.ref 59, .int 1]) (ex_put w2 59 c') (none, w1) → Go X (d + 6) mt_97 (123, [some (.ref 59), some (.int 1)], []) w1 q → Go X (d + 6) mt_97 (118, [some (.ref 59), some (.int 1)], []) (ex_put w2 59 c') q := fun w1 q a b => rrl_v1 (by rw [i59, hfs]) a b
        have F1 : rF w2 (ex_put w2 59 c') := rF.rf.p59
        rcases rf_num (X := X) (d := d + 1) (lw := 1) (hg := 4) (l := 1) (h := 4) (by decide) (by decide) hR hp1 i59 (Or.inl ⟨(by have := tk_k_le u n (tk_e u n p); omega), hok⟩) (hA2.p59).1 with ⟨ho', -⟩ | ⟨-, c2, hb2, gn⟩
        · exact absurd ho' ho
        · obtain ⟨dm', dt', tl', hn', hm', po, fr, so, va, fa', hfa', rfl⟩ := hb2.ex
          have bad2 : rBad z mo ma ym n (tk_s u n (tk_e u n p)) (rC z mo ma ym dm' 0 tl' hn' hm' (nI n) po fr so va fa' (nI (tk_s u n (tk_e u n p)))) := ⟨_, _, _, _, _, _, _, _, _, _, hfa', rfl⟩
          obtain ⟨w5, g5, h5⟩ := rl_catb (u := u) (T := T) go hv F1 hR (hA2.p59).1 ⟨_, rlo_1 (by rw [i59, hfs]) (rmt_0 (by rw [i59, hfs]) gn (vg_at_put i59) (rmt_a (vg_at_put (vg_at_put i59)) (by omega))), Or.inl ⟨⟨_, vg_at_put (vg_at_put i59), bad2⟩, (rF.rf.p59).p59⟩⟩
          exact Or.inl ⟨_, _, w5, gc, CB, g5, h5⟩
  · obtain ⟨w3, g3, h3⟩ := rh_1_a (X := X) (d := d) hR hp hk h59 hc hA2 hl (fun q => hb (hbit.mpr q))
    exact Or.inl ⟨_, _, w3, tmt_1 h15 (to_1 h15 hb), ⟨⟨_, vg_at_put h15, 4, _, _, _, _, _, by decide, rfl⟩, cF.rf.p15⟩, g3, h3⟩
theorem ln_both (hd : dr + 6 < 15) (hB : cB u n B) (hR : rB u n T) (hp : p ≤ n) (hk : tk_k u n p < 3) (h15 : ex_at w 15 = some (cT dr n 0 fp (nI sv) (tk_e u n p) (nI (tk_k u n p)) (nI (tk_s u n p)) N)) (hA : cA w dr B tf ta) (h59 : ex_at w2 59 = some c) (hc : rOk u z mo ma ym dm dt (nI sv) hn hm n p c) (hA2 : rA w2 T DR DW) (hRl : Rl tf ta dm dt hn hm DR DW dn an wn) (hsv : sv < 32) : lnRes X (d + 6) (d + 6) mt_156 u B T z mo ma ym dr n p w w2 := by
  have hp1 := tk_e_le u hp (by omega)
  by_cases k0 : tk_k u n p = 0
  · have hle : tk_s u n p ≤ tk_e u n p := by
      rw [tk_e0 k0]
      exact tk_rn_ge _ _ _
    rw [k0] at h15
    have hok := hc
    obtain ⟨va, wa, hva, hc'⟩ := hok
    have h59' := h59
    rw [hc'] at h59'
    obtain ⟨kv, hkR, gk⟩ := rN_line (X := X) (d := d + 2) hR h59' hA2.1 hle hp1
    rcases cn_name (X := X) (d := d + 1) so_most hB h15 hA.1 hle hp1 with ⟨n0, q0⟩ | ⟨n0, q0⟩
    · have e := lnR_most hkR n0
      subst e
      rcases ln_most (X := X) (d := d) hd hB hR hp k0 h15 hA h59 hc hA2 hRl hsv gk with ⟨s, w', w3, y1, y2, y3, y4⟩ | ⟨p', sv', tf', ta', dm', dt', hn', hm', DR', DW', dn', an', wn', w', w3, y1, y2, y3, y4, y5⟩
      · exact Or.inl ⟨s, w', w3, tln_0_0 h15 q0 y1, y2, y3, y4⟩
      · exact Or.inr ⟨p', sv', tf', ta', dm', dt', hn', hm', DR', DW', dn', an', wn', w', w3, y1, y2, y3, tln_0_1 h15 q0 y4, y5⟩
    rcases cn_name (X := X) (d := d + 1) so_matters hB h15 hA.1 hle hp1 with ⟨n1, q1⟩ | ⟨n1, q1⟩
    · have e := lnR_matters hkR n1
      subst e
      rcases ln_matters (X := X) (d := d) hd hB hR hp k0 h15 hA h59 hc hA2 hRl hsv gk with ⟨s, w', w3, y1, y2, y3, y4⟩ | ⟨p', sv', tf', ta', dm', dt', hn', hm', DR', DW', dn', an', wn', w', w3, y1, y2, y3, y4, y5⟩
      · exact Or.inl ⟨s, w', w3, tln_1_0 h15 q0 q1 y1, y2, y3, y4⟩
      · exact Or.inr ⟨p', sv', tf', ta', dm', dt', hn', hm', DR', DW', dn', an', wn', w', w3, y1, y2, y3, tln_1_1 h15 q0 q1 y4, y5⟩
    rcases cn_name (X := X) (d := d + 1) so_gap hB h15 hA.1 hle hp1 with ⟨n2, q2⟩ | ⟨n2, q2⟩
    · have e := lnR_gap hkR n2
      subst e
      rcases ln_gap (X := X) (d := d) hd hB hR hp k0 h15 hA h59 hc hA2 hRl hsv gk with ⟨s, w', w3, y1, y2, y3, y4⟩ | ⟨p', sv', tf', ta', dm', dt', hn', hm', DR', DW', dn', an', wn', w', w3, y1, y2, y3, y4, y5⟩
      · exact Or.inl ⟨s, w', w3, tln_2_0 h15 q0 q1 q2 y1, y2, y3, y4⟩
      · exact Or.inr ⟨p', sv', tf', ta', dm', dt', hn', hm', DR', DW', dn', an', wn', w', w3, y1, y2, y3, tln_2_1 h15 q0 q1 q2 y4, y5⟩
    rcases cn_name (X := X) (d := d + 1) so_near hB h15 hA.1 hle hp1 with ⟨n3, q3⟩ | ⟨n3, q3⟩
    · have e := lnR_near hkR n3
      subst e
      rcases ln_near (X := X) (d := d) hd hB hR hp k0 h15 hA h59 hc hA2 hRl hsv gk with ⟨s, w', w3, y1, y2, y3, y4⟩ | ⟨p', sv', tf', ta', dm', dt', hn', hm', DR', DW', dn', an', wn', w', w3, y1, y2, y3, y4, y5⟩
      · exact Or.inl ⟨s, w', w3, tln_3_0 h15 q0 q1 q2 q3 y1, y2, y3, y4⟩
      · exact Or.inr ⟨p', sv', tf', ta', dm', dt', hn', hm', DR', DW', dn', an', wn', w', w3, y1, y2, y3, tln_3_1 h15 q0 q1 q2 q3 y4, y5⟩
    rcases cn_name (X := X) (d := d + 1) so_book hB h15 hA.1 hle hp1 with ⟨n4, q4⟩ | ⟨n4, q4⟩
    · have e := lnR_book hkR n4
      subst e
      rcases ln_book (X := X) (d := d) hd hB hR hp k0 h15 hA h59 hc hA2 hRl hsv gk with ⟨s, w', w3, y1, y2, y3, y4⟩ | ⟨p', sv', tf', ta', dm', dt', hn', hm', DR', DW', dn', an', wn', w', w3, y1, y2, y3, y4, y5⟩
      · exact Or.inl ⟨s, w', w3, tln_4_0 h15 q0 q1 q2 q3 q4 y1, y2, y3, y4⟩
      · exact Or.inr ⟨p', sv', tf', ta', dm', dt', hn', hm', DR', DW', dn', an', wn', w', w3, y1, y2, y3, tln_4_1 h15 q0 q1 q2 q3 q4 y4, y5⟩
    rcases cn_name (X := X) (d := d + 1) so_page hB h15 hA.1 hle hp1 with ⟨n5, q5⟩ | ⟨n5, q5⟩
    · have e := lnR_page hkR n5
      subst e
      rcases ln_page (X := X) (d := d) hd hB hR hp k0 h15 hA h59 hc hA2 hRl hsv gk with ⟨s, w', w3, y1, y2, y3, y4⟩ | ⟨p', sv', tf', ta', dm', dt', hn', hm', DR', DW', dn', an', wn', w', w3, y1, y2, y3, y4, y5⟩
      · exact Or.inl ⟨s, w', w3, tln_5_0 h15 q0 q1 q2 q3 q4 q5 y1, y2, y3, y4⟩
      · exact Or.inr ⟨p', sv', tf', ta', dm', dt', hn', hm', DR', DW', dn', an', wn', w', w3, y1, y2, y3, tln_5_1 h15 q0 q1 q2 q3 q4 q5 y4, y5⟩
    rcases cn_name (X := X) (d := d + 1) so_rung hB h15 hA.1 hle hp1 with ⟨n6, q6⟩ | ⟨n6, q6⟩
    · have e := lnR_rung hkR n6
      subst e
      rcases ln_rung (X := X) (d := d) hd hB hR hp k0 h15 hA h59 hc hA2 hRl hsv gk with ⟨s, w', w3, y1, y2, y3, y4⟩ | ⟨p', sv', tf', ta', dm', dt', hn', hm', DR', DW', dn', an', wn', w', w3, y1, y2, y3, y4, y5⟩
      · exact Or.inl ⟨s, w', w3, tln_6_0 h15 q0 q1 q2 q3 q4 q5 q6 y1, y2, y3, y4⟩
      · exact Or.inr ⟨p', sv', tf', ta', dm', dt', hn', hm', DR', DW', dn', an', wn', w', w3, y1, y2, y3, tln_6_1 h15 q0 q1 q2 q3 q4 q5 q6 y4, y5⟩
    rcases cn_name (X := X) (d := d + 1) so_ask hB h15 hA.1 hle hp1 with ⟨n7, q7⟩ | ⟨n7, q7⟩
    · have e := lnR_ask hkR n7
      subst e
      rcases ln_ask (X := X) (d := d) hd hB hR hp k0 h15 hA h59 hc hA2 hRl hsv gk with ⟨s, w', w3, y1, y2, y3, y4⟩ | ⟨p', sv', tf', ta', dm', dt', hn', hm', DR', DW', dn', an', wn', w', w3, y1, y2, y3, y4, y5⟩
      · exact Or.inl ⟨s, w', w3, tln_7_0 h15 q0 q1 q2 q3 q4 q5 q6 q7 y1, y2, y3, y4⟩
      · exact Or.inr ⟨p', sv', tf', ta', dm', dt', hn', hm', DR', DW', dn', an', wn', w', w3, y1, y2, y3, tln_7_1 h15 q0 q1 q2 q3 q4 q5 q6 q7 y4, y5⟩
    rcases cn_name (X := X) (d := d + 1) so_wait hB h15 hA.1 hle hp1 with ⟨n8, q8⟩ | ⟨n8, q8⟩
    · have e := lnR_wait hkR n8
      subst e
      rcases ln_wait (X := X) (d := d) hd hB hR hp k0 h15 hA h59 hc hA2 hRl hsv gk with ⟨s, w', w3, y1, y2, y3, y4⟩ | ⟨p', sv', tf', ta', dm', dt', hn', hm', DR', DW', dn', an', wn', w', w3, y1, y2, y3, y4, y5⟩
      · exact Or.inl ⟨s, w', w3, tln_8_0 h15 q0 q1 q2 q3 q4 q5 q6 q7 q8 y1, y2, y3, y4⟩
      · exact Or.inr ⟨p', sv', tf', ta', dm', dt', hn', hm', DR', DW', dn', an', wn', w', w3, y1, y2, y3, tln_8_1 h15 q0 q1 q2 q3 q4 q5 q6 q7 q8 y4, y5⟩
    have e := lnR_none hkR n5 n6 n7 n8 n0 n1 n2 n3 n4
    subst e
    obtain ⟨w3, g3, h3⟩ := rl_none (X := X) (d := d) hk h59 hc hA2 (Or.inr gk)
    exact Or.inl ⟨_, _, w3, tln_9 h15 q0 q1 q2 q3 q4 q5 q6 q7 q8, ⟨⟨_, vg_at_put h15, 2, _, _, _, _, _, by decide, rfl⟩, cF.rf.p15⟩, g3, h3⟩
  · have ek : (nI (tk_k u n p)).toInt = (tk_k u n p : Int) := nI_toInt (by omega)
    obtain ⟨w3, g3, h3⟩ := rl_none (X := X) (d := d) hk h59 hc hA2 (Or.inl k0)
    exact Or.inl ⟨_, _, w3, tln_n h15 (by omega), ⟨⟨_, vg_at_put h15, 2, _, _, _, _, _, by decide, rfl⟩, cF.rf.p15⟩, g3, h3⟩
end LN
