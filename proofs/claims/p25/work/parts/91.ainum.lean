/-! AN ABSTRACT INTERPRETER over the abstract machine: numbers as intervals, each perhaps by a symbol. First the numbers. -/
noncomputable def ai_le (a b : Int) : Bool := Int.rec (motive := fun _ => Bool) (fun _ => true) (fun _ => false) (b - a)
theorem ai_le_iff {a b : Int} : ai_le a b = true ↔ a ≤ b := by
  unfold ai_le
  cases h : b - a with
  | ofNat n => simp only [true_iff]; have : (0 : Int) ≤ Int.ofNat n := Int.natCast_nonneg n; omega
  | negSucc n => simp only [Bool.false_eq_true, false_iff]; have : Int.negSucc n < 0 := Int.negSucc_lt_zero n; omega
theorem ai_le_f {a b : Int} : ai_le a b = false ↔ b < a := by
  cases h : ai_le a b with
  | true => rw [ai_le_iff] at h; simp only [Bool.true_eq_false, false_iff]; omega
  | false =>
    simp only [true_iff]
    have : ¬ ai_le a b = true := by rw [h]; decide
    rw [ai_le_iff] at this
    omega
noncomputable def ai_mx (a b : Int) : Int := Bool.rec (motive := fun _ => Int) a b (ai_le a b)
noncomputable def ai_mn (a b : Int) : Int := Bool.rec (motive := fun _ => Int) b a (ai_le a b)
theorem ai_mx_le {a b c : Int} : ai_mx a b ≤ c ↔ a ≤ c ∧ b ≤ c := by
  unfold ai_mx
  cases h : ai_le a b with
  | true => rw [ai_le_iff] at h; show b ≤ c ↔ _; omega
  | false => rw [ai_le_f] at h; show a ≤ c ↔ _; omega
theorem ai_le_mn {a b c : Int} : c ≤ ai_mn a b ↔ c ≤ a ∧ c ≤ b := by
  unfold ai_mn
  cases h : ai_le a b with
  | true => rw [ai_le_iff] at h; show c ≤ a ↔ _; omega
  | false => rw [ai_le_f] at h; show c ≤ b ↔ _; omega
theorem ai_le_mx {a b : Int} : a ≤ ai_mx a b ∧ b ≤ ai_mx a b := by
  unfold ai_mx
  cases h : ai_le a b with
  | true => rw [ai_le_iff] at h; show a ≤ b ∧ b ≤ b; omega
  | false => rw [ai_le_f] at h; show a ≤ a ∧ b ≤ a; omega
theorem ai_mn_le {a b : Int} : ai_mn a b ≤ a ∧ ai_mn a b ≤ b := by
  unfold ai_mn
  cases h : ai_le a b with
  | true => rw [ai_le_iff] at h; show a ≤ a ∧ a ≤ b; omega
  | false => rw [ai_le_f] at h; show b ≤ a ∧ b ≤ b; omega
/-- least, most, and between what it lies behind a symbol -/
abbrev ai_N : Type := Int × Int × List (Nat × Int × Int)
abbrev ai_E : Type := List (Int × Int)
def ai_gr (ρ : List Int) (r : List (Nat × Int × Int)) (z : Int) : Prop := ∀ q : Nat × Int × Int, q ∈ r → ∃ y, ρ[q.1]? = some y ∧ q.2.1 ≤ z - y ∧ z - y ≤ q.2.2
def ai_gn (ρ : List Int) (n : ai_N) (z : Int) : Prop := n.1 ≤ z ∧ z ≤ n.2.1 ∧ ai_gr ρ n.2.2 z
def ai_ge (ρ : List Int) (e : ai_E) : Prop := ρ.length = e.length ∧ ∀ (k : Nat) (q : Int × Int), e[k]? = some q → ∃ y, ρ[k]? = some y ∧ q.1 ≤ y ∧ y ≤ q.2
theorem ai_gr.no {ρ : List Int} {z : Int} : ai_gr ρ [] z := fun _ h => by cases h
theorem ai_gr.up {ρ ρ' : List Int} {r : List (Nat × Int × Int)} {z : Int} (h : ai_gr ρ r z) (g : ρ <+: ρ') : ai_gr ρ' r z := by
  intro q hq
  obtain ⟨y, h1, h2⟩ := h q hq
  obtain ⟨t, rfl⟩ := g
  exact ⟨y, by rw [List.getElem?_append_left (List.getElem?_eq_some_iff.mp h1).1]; exact h1, h2⟩
theorem ai_gn.up {ρ ρ' : List Int} {n : ai_N} {z : Int} (h : ai_gn ρ n z) (g : ρ <+: ρ') : ai_gn ρ' n z := ⟨h.1, h.2.1, h.2.2.up g⟩
/-- a number by what its symbols are known to be -/
noncomputable def ai_ef1 (e : ai_E) (r : List (Nat × Int × Int)) : Int → Int → Int × Int := List.rec (motive := fun _ => Int → Int → Int × Int) (fun l h => (l, h)) (fun q _ ih l h => match ex_at e q.1 with
  | some y => ih (ai_mx l (y.1 + q.2.1)) (ai_mn h (y.2 + q.2.2))
  | none => ih l h) r
theorem ai_ef1_c (e : ai_E) (q : Nat × Int × Int) (r : List (Nat × Int × Int)) (l h : Int) : ai_ef1 e (q :: r) l h = match ex_at e q.1 with
  | some y => ai_ef1 e r (ai_mx l (y.1 + q.2.1)) (ai_mn h (y.2 + q.2.2))
  | none => ai_ef1 e r l h := rfl
theorem ai_ef1_g {ρ : List Int} {e : ai_E} {z : Int} (he : ai_ge ρ e) : ∀ {r : List (Nat × Int × Int)} {l h : Int}, ai_gr ρ r z → l ≤ z → z ≤ h → (ai_ef1 e r l h).1 ≤ z ∧ z ≤ (ai_ef1 e r l h).2
  | [], _, _, _, h1, h2 => ⟨h1, h2⟩
  | q :: r, l, h, hr, h1, h2 => by
    have hr' : ai_gr ρ r z := fun q' hq' => hr q' (List.mem_cons_of_mem _ hq')
    rw [ai_ef1_c]
    split
    · next y hy =>
      rw [ex_at_eq] at hy
      obtain ⟨v, a1, a2, a3⟩ := he.2 _ _ hy
      obtain ⟨v', b1, b2, b3⟩ := hr q List.mem_cons_self
      obtain rfl : v = v' := Option.some.inj (a1.symm.trans b1)
      exact ai_ef1_g he hr' (ai_mx_le.mpr ⟨h1, by omega⟩) (ai_le_mn.mpr ⟨h2, by omega⟩)
    · exact ai_ef1_g he hr' h1 h2
noncomputable def ai_eff (e : ai_E) (n : ai_N) : ai_N := ((ai_ef1 e n.2.2 n.1 n.2.1).1, (ai_ef1 e n.2.2 n.1 n.2.1).2, n.2.2)
theorem ai_eff_g {ρ : List Int} {e : ai_E} {n : ai_N} {z : Int} (he : ai_ge ρ e) (h : ai_gn ρ n z) : ai_gn ρ (ai_eff e n) z := by
  have := ai_ef1_g he h.2.2 h.1 h.2.1
  exact ⟨this.1, this.2, h.2.2⟩
/-- a symbol for a number that has none of its own -/
noncomputable def ai_exa (r : List (Nat × Int × Int)) : Bool := List.rec (motive := fun _ => Bool) false (fun q _ ih => match ai_le q.2.2 q.2.1 with
  | true => true
  | false => ih) r
noncomputable def ai_sym (e : ai_E) (n : ai_N) : ai_E × ai_N := match ai_le n.2.1 n.1 || ai_exa n.2.2 with
  | true => (e, n)
  | false => (e ++ [(n.1, n.2.1)], (n.1, n.2.1, (e.length, 0, 0) :: n.2.2))
theorem ai_ge.app {ρ : List Int} {e : ai_E} {l h z : Int} (he : ai_ge ρ e) (h1 : l ≤ z) (h2 : z ≤ h) : ai_ge (ρ ++ [z]) (e ++ [(l, h)]) := by
  refine ⟨by simp [he.1], fun k q hk => ?_⟩
  rw [List.getElem?_append] at hk ⊢
  rw [he.1]
  split at hk
  · next hl =>
    rw [if_pos hl]
    exact he.2 k q hk
  · next hl =>
    rw [if_neg hl]
    cases hd : k - e.length with
    | zero =>
      rw [hd] at hk
      cases hk
      exact ⟨z, rfl, h1, h2⟩
    | succ j => rw [hd] at hk; cases hk
theorem ai_sym_g {ρ : List Int} {e : ai_E} {n : ai_N} {z : Int} (he : ai_ge ρ e) (h : ai_gn ρ n z) : ∃ ρ', ρ <+: ρ' ∧ ai_ge ρ' (ai_sym e n).1 ∧ ai_gn ρ' (ai_sym e n).2 z := by
  unfold ai_sym
  split
  · exact ⟨ρ, List.prefix_refl ρ, he, h⟩
  · refine ⟨ρ ++ [z], List.prefix_append ρ [z], he.app h.1 h.2.1, h.1, h.2.1, fun q hq => ?_⟩
    rcases List.mem_cons.mp hq with rfl | hq
    · refine ⟨z, ?_, by simp, by simp⟩
      rw [← he.1]
      simp
    · exact (h.2.2.up (List.prefix_append ρ [z])) q hq
/-- what is learnt of a number: between l and h. none: it can't be -/
noncomputable def ai_ln1 (r : List (Nat × Int × Int)) (l h : Int) : ai_E → ai_E := List.rec (motive := fun _ => ai_E → ai_E) (fun e => e) (fun q _ ih e => match ex_at e q.1 with
  | none => ih e
  | some y => ih (ex_put e q.1 (ai_mx y.1 (l - q.2.2), ai_mn y.2 (h - q.2.1)))) r
theorem ai_ln1_c (q : Nat × Int × Int) (r : List (Nat × Int × Int)) (l h : Int) (e : ai_E) : ai_ln1 (q :: r) l h e = match ex_at e q.1 with
  | none => ai_ln1 r l h e
  | some y => ai_ln1 r l h (ex_put e q.1 (ai_mx y.1 (l - q.2.2), ai_mn y.2 (h - q.2.1))) := rfl
theorem ai_ln1_g {ρ : List Int} {z l h : Int} (h1 : l ≤ z) (h2 : z ≤ h) : ∀ {r : List (Nat × Int × Int)} {e : ai_E}, ai_ge ρ e → ai_gr ρ r z → ai_ge ρ (ai_ln1 r l h e)
  | [], _, he, _ => he
  | q :: r, e, he, hr => by
    have hr' : ai_gr ρ r z := fun q' hq' => hr q' (List.mem_cons_of_mem _ hq')
    rw [ai_ln1_c]
    split
    · exact ai_ln1_g h1 h2 he hr'
    · next y hk =>
      refine ai_ln1_g h1 h2 ?_ hr'
      rw [ex_at_eq] at hk
      obtain ⟨v, q1, q2, q3⟩ := he.2 _ _ hk
      obtain ⟨v', p1, p2, p3⟩ := hr q List.mem_cons_self
      obtain rfl : v = v' := Option.some.inj (q1.symm.trans p1)
      refine ⟨by rw [ex_put_eq, List.length_set]; exact he.1, fun j t hj => ?_⟩
      rw [ex_put_eq, List.getElem?_set] at hj
      by_cases hkj : q.1 = j
      · subst hkj
        rw [if_pos rfl] at hj
        rw [if_pos (List.getElem?_eq_some_iff.mp hk).1] at hj
        cases hj
        exact ⟨v, q1, ai_mx_le.mpr ⟨q2, by omega⟩, ai_le_mn.mpr ⟨q3, by omega⟩⟩
      · rw [if_neg hkj] at hj
        exact he.2 j t hj
noncomputable def ai_lrn (e : ai_E) (n : ai_N) (l h : Int) : Option ai_E := match ai_le (ai_mx n.1 l) (ai_mn n.2.1 h) with
  | false => none
  | true => some (ai_ln1 n.2.2 l h e)
theorem ai_lrn_g {ρ : List Int} {e : ai_E} {n : ai_N} {z l h : Int} (he : ai_ge ρ e) (g : ai_gn ρ n z) (h1 : l ≤ z) (h2 : z ≤ h) : ∃ e', ai_lrn e n l h = some e' ∧ ai_ge ρ e' := by
  unfold ai_lrn
  have h3 : ai_le (ai_mx n.1 l) (ai_mn n.2.1 h) = true := by
    rw [ai_le_iff]
    have h4 : ai_mx n.1 l ≤ z := ai_mx_le.mpr ⟨g.1, h1⟩
    have h5 : z ≤ ai_mn n.2.1 h := ai_le_mn.mpr ⟨g.2.1, h2⟩
    omega
  rw [h3]
  exact ⟨_, rfl, ai_ln1_g h1 h2 he g.2.2⟩
/-! numbers of the machine -/
noncomputable def ai_lo (b : Bool) : Int := Bool.rec (motive := fun _ => Int) (-2147483648) (-9223372036854775808) b
noncomputable def ai_hi (b : Bool) : Int := Bool.rec (motive := fun _ => Int) 2147483647 9223372036854775807 b
noncomputable def ai_top (b : Bool) : ai_N := (ai_lo b, ai_hi b, [])
def ai_ok (b : Bool) (z : Int) : Prop := ai_lo b ≤ z ∧ z ≤ ai_hi b
theorem ai_okI (x : Int32) : ai_ok false x.toInt := by
  have h1 := Int32.minValue_le_toInt x
  have h2 := Int32.toInt_le x
  exact ⟨h1, h2⟩
theorem ai_okL (x : Int64) : ai_ok true x.toInt := by
  have h1 := Int64.minValue_le_toInt x
  have h2 := Int64.toInt_le x
  exact ⟨h1, h2⟩
theorem ai_top_g {ρ : List Int} {b : Bool} {z : Int} (h : ai_ok b z) : ai_gn ρ (ai_top b) z := ⟨h.1, h.2, ai_gr.no⟩
/-- within the machine's numbers, or anything -/
noncomputable def ai_fix (b : Bool) (l h : Int) (r : List (Nat × Int × Int)) : ai_N := match ai_le (ai_lo b) l && ai_le h (ai_hi b) with
  | true => (l, h, r)
  | false => ai_top b
/-- the number of the machine that stands for z, and z itself where it fits -/
def ai_wrap (b : Bool) (z v : Int) : Prop := ai_ok b v ∧ (ai_ok b z → v = z)
theorem ai_fix_g {ρ : List Int} {b : Bool} {l h z v : Int} {r : List (Nat × Int × Int)} (hw : ai_wrap b z v) (h1 : l ≤ z) (h2 : z ≤ h) (h3 : ai_gr ρ r z) : ai_gn ρ (ai_fix b l h r) v := by
  unfold ai_fix
  split
  · next hc =>
    rw [Bool.and_eq_true, ai_le_iff, ai_le_iff] at hc
    have e : v = z := hw.2 ⟨by omega, by omega⟩
    subst e
    exact ⟨h1, h2, h3⟩
  · exact ai_top_g hw.1
noncomputable def ai_rs (r : List (Nat × Int × Int)) (l h : Int) : List (Nat × Int × Int) := List.rec (motive := fun _ => List (Nat × Int × Int)) [] (fun q _ ih => (q.1, q.2.1 + l, q.2.2 + h) :: ih) r
theorem ai_rs_g {ρ : List Int} {l h z d : Int} (h1 : l ≤ d) (h2 : d ≤ h) : ∀ {r : List (Nat × Int × Int)}, ai_gr ρ r z → ai_gr ρ (ai_rs r l h) (z + d)
  | [], _ => ai_gr.no
  | q :: r, g => by
    intro q' hq
    have hq : q' ∈ (q.1, q.2.1 + l, q.2.2 + h) :: ai_rs r l h := hq
    rcases List.mem_cons.mp hq with rfl | hq
    · obtain ⟨y, p1, p2, p3⟩ := g q List.mem_cons_self
      exact ⟨y, p1, by show q.2.1 + l ≤ _; omega, by show _ ≤ q.2.2 + h; omega⟩
    · exact ai_rs_g h1 h2 (fun q'' hq'' => g q'' (List.mem_cons_of_mem _ hq'')) q' hq
noncomputable def ai_add (b : Bool) (x y : ai_N) : ai_N := ai_fix b (x.1 + y.1) (x.2.1 + y.2.1) (match x.2.2 with
  | [] => ai_rs y.2.2 x.1 x.2.1
  | _ => ai_rs x.2.2 y.1 y.2.1)
theorem ai_add_g {ρ : List Int} {b : Bool} {x y : ai_N} {u v w : Int} (hx : ai_gn ρ x u) (hy : ai_gn ρ y v) (hw : ai_wrap b (u + v) w) : ai_gn ρ (ai_add b x y) w := by
  unfold ai_add
  obtain ⟨x1, x2, x3⟩ := hx
  obtain ⟨y1, y2, y3⟩ := hy
  refine ai_fix_g hw (by omega) (by omega) ?_
  split
  · rw [Int.add_comm u v]
    exact ai_rs_g x1 x2 y3
  · exact ai_rs_g y1 y2 x3
noncomputable def ai_sub (b : Bool) (x y : ai_N) : ai_N := ai_fix b (x.1 - y.2.1) (x.2.1 - y.1) (ai_rs x.2.2 (-y.2.1) (-y.1))
theorem ai_sub_g {ρ : List Int} {b : Bool} {x y : ai_N} {u v w : Int} (hx : ai_gn ρ x u) (hy : ai_gn ρ y v) (hw : ai_wrap b (u - v) w) : ai_gn ρ (ai_sub b x y) w := by
  unfold ai_sub
  obtain ⟨x1, x2, x3⟩ := hx
  obtain ⟨y1, y2, y3⟩ := hy
  refine ai_fix_g hw (by omega) (by omega) ?_
  rw [Int.sub_eq_add_neg]
  exact ai_rs_g (by omega) (by omega) x3
noncomputable def ai_mul (b : Bool) (x y : ai_N) : ai_N := match ai_le 0 x.1 && ai_le 0 y.1 with
  | true => ai_fix b (x.1 * y.1) (x.2.1 * y.2.1) []
  | false => ai_top b
theorem ai_mul_g {ρ : List Int} {b : Bool} {x y : ai_N} {u v w : Int} (hx : ai_gn ρ x u) (hy : ai_gn ρ y v) (hw : ai_wrap b (u * v) w) : ai_gn ρ (ai_mul b x y) w := by
  unfold ai_mul
  obtain ⟨x1, x2, x3⟩ := hx
  obtain ⟨y1, y2, y3⟩ := hy
  split
  · next hc =>
    rw [Bool.and_eq_true, ai_le_iff, ai_le_iff] at hc
    exact ai_fix_g hw (Int.mul_le_mul x1 y1 hc.2 (by omega)) (Int.mul_le_mul x2 y2 (by omega) (by omega)) ai_gr.no
  · exact ai_top_g hw.1
theorem ai_wrapI {z : Int} {x : Int32} (h : x.toInt = z.bmod (2 ^ 32)) : ai_wrap false z x.toInt := by
  refine ⟨ai_okI x, fun hz => ?_⟩
  obtain ⟨h1, h2⟩ := hz
  have h1 : -2147483648 ≤ z := h1
  have h2 : z ≤ 2147483647 := h2
  rw [h, Int.bmod_def]
  omega
theorem ai_wrapL {z : Int} {x : Int64} (h : x.toInt = z.bmod (2 ^ 64)) : ai_wrap true z x.toInt := by
  refine ⟨ai_okL x, fun hz => ?_⟩
  obtain ⟨h1, h2⟩ := hz
  have h1 : -9223372036854775808 ≤ z := h1
  have h2 : z ≤ 9223372036854775807 := h2
  rw [h, Int.bmod_def]
  omega
/-- both known: the machine's own operation -/
noncomputable def ai_op (f : Int32 → Int32 → Int32) (g : ai_N → ai_N → ai_N) (x y : ai_N) : ai_N := match ai_le x.2.1 x.1 && ai_le y.2.1 y.1 with
  | true => ((f (Int32.ofInt x.1) (Int32.ofInt y.1)).toInt, (f (Int32.ofInt x.1) (Int32.ofInt y.1)).toInt, [])
  | false => g x y
theorem ai_one {ρ : List Int} {x : ai_N} {u : Int32} (hx : ai_gn ρ x u.toInt) (h : x.2.1 ≤ x.1) : Int32.ofInt x.1 = u := by
  obtain ⟨x1, x2, -⟩ := hx
  rw [show x.1 = u.toInt by omega]
  exact Int32.ofInt_toInt u
theorem ai_op_g {f : Int32 → Int32 → Int32} {g : ai_N → ai_N → ai_N} {ρ : List Int} {x y : ai_N} {u v : Int32} (hg : ai_gn ρ (g x y) (f u v).toInt) (hx : ai_gn ρ x u.toInt) (hy : ai_gn ρ y v.toInt) : ai_gn ρ (ai_op f g x y) (f u v).toInt := by
  unfold ai_op
  split
  · next hc =>
    rw [Bool.and_eq_true, ai_le_iff, ai_le_iff] at hc
    rw [ai_one hx hc.1, ai_one hy hc.2]
    exact ⟨Int.le_refl _, Int.le_refl _, ai_gr.no⟩
  · exact hg
noncomputable def ai_and (x y : ai_N) : ai_N := match ai_le 0 y.1 with
  | true => (0, y.2.1, [])
  | false => match ai_le 0 x.1 with
    | true => (0, x.2.1, [])
    | false => ai_top false
theorem ai_and_r (u v : Int32) (h : 0 ≤ v.toInt) : 0 ≤ (u &&& v).toInt ∧ (u &&& v).toInt ≤ v.toInt := by
  have hv : v.toBitVec.msb = false := by
    rw [BitVec.msb_eq_toInt]
    exact decide_eq_false (by show ¬ v.toInt < 0; omega)
  have h1 : (u &&& v).toInt = (u.toBitVec &&& v.toBitVec).toInt := rfl
  have hm : (u.toBitVec &&& v.toBitVec).msb = false := by rw [BitVec.msb_and, hv, Bool.and_false]
  rw [h1, BitVec.toInt_eq_toNat_of_msb hm]
  have h2 : v.toInt = (v.toBitVec.toNat : Int) := BitVec.toInt_eq_toNat_of_msb hv
  rw [h2, BitVec.toNat_and]
  have := Nat.and_le_right (n := u.toBitVec.toNat) (m := v.toBitVec.toNat)
  omega
theorem ai_and_g {ρ : List Int} {x y : ai_N} {u v : Int32} (hx : ai_gn ρ x u.toInt) (hy : ai_gn ρ y v.toInt) : ai_gn ρ (ai_and x y) (u &&& v).toInt := by
  unfold ai_and
  split
  · next hc =>
    rw [ai_le_iff] at hc
    have h1 := hy.1
    have h2 := hy.2.1
    have h3 := ai_and_r u v (by omega)
    exact ⟨h3.1, by show _ ≤ y.2.1; omega, ai_gr.no⟩
  · split
    · next hc =>
      rw [ai_le_iff] at hc
      have h1 := hx.1
      have h2 := hx.2.1
      have h3 := ai_and_r v u (by omega)
      rw [Int32.and_comm]
      exact ⟨h3.1, by show _ ≤ x.2.1; omega, ai_gr.no⟩
    · exact ai_top_g (ai_okI _)
noncomputable def ai_land (x y : ai_N) : ai_N := match ai_le 0 y.1 with
  | true => (0, y.2.1, [])
  | false => ai_top true
theorem ai_land_g {ρ : List Int} {x y : ai_N} {u v : Int64} (hx : ai_gn ρ x u.toInt) (hy : ai_gn ρ y v.toInt) : ai_gn ρ (ai_land x y) (u &&& v).toInt := by
  unfold ai_land
  split
  · next hc =>
    rw [ai_le_iff] at hc
    have g1 := hy.1
    have g2 := hy.2.1
    have hv : v.toBitVec.msb = false := by
      rw [BitVec.msb_eq_toInt]
      exact decide_eq_false (by show ¬ v.toInt < 0; omega)
    have h1 : (u &&& v).toInt = (u.toBitVec &&& v.toBitVec).toInt := rfl
    have hm : (u.toBitVec &&& v.toBitVec).msb = false := by rw [BitVec.msb_and, hv, Bool.and_false]
    have h2 : v.toInt = (v.toBitVec.toNat : Int) := BitVec.toInt_eq_toNat_of_msb hv
    have h3 : (u &&& v).toInt = ((u.toBitVec.toNat &&& v.toBitVec.toNat : Nat) : Int) := by
      rw [h1, BitVec.toInt_eq_toNat_of_msb hm, BitVec.toNat_and]
    have := Nat.and_le_right (n := u.toBitVec.toNat) (m := v.toBitVec.toNat)
    rw [h3]
    exact ⟨by show (0 : Int) ≤ _; omega, by show _ ≤ y.2.1; omega, ai_gr.no⟩
  · exact ai_top_g (ai_okL _)
/-- 1 shifted -/
noncomputable def ai_shl (x y : ai_N) : ai_N := match ai_le 1 x.1 && (ai_le x.2.1 1 && (ai_le 0 y.1 && ai_le y.2.1 30)) with
  | true => (1, (2 : Int) ^ y.2.1.toNat, [])
  | false => ai_top false
theorem ai_shl_31 : ∀ k : Fin 31, ((1 : Int32) <<< (Int32.ofNat k.val &&& 31)).toInt = (2 : Int) ^ k.val := by decide +kernel
theorem ai_pow2 {a b : Nat} (h : a ≤ b) : (2 : Int) ^ a ≤ (2 : Int) ^ b := by
  have := Nat.pow_le_pow_right (n := 2) (by omega) h
  have e : ∀ k : Nat, (2 : Int) ^ k = ((2 ^ k : Nat) : Int) := fun k => by simp
  rw [e, e]
  omega
theorem ai_shl_g {ρ : List Int} {x y : ai_N} {u v : Int32} (hx : ai_gn ρ x u.toInt) (hy : ai_gn ρ y v.toInt) : ai_gn ρ (ai_shl x y) (u <<< (v &&& 31)).toInt := by
  unfold ai_shl
  split
  · next hc =>
    rw [Bool.and_eq_true, Bool.and_eq_true, Bool.and_eq_true, ai_le_iff, ai_le_iff, ai_le_iff, ai_le_iff] at hc
    obtain ⟨c1, c2, c3, c4⟩ := hc
    obtain ⟨x1, x2, -⟩ := hx
    obtain ⟨y1, y2, -⟩ := hy
    have eu : u = 1 := by
      have : u.toInt = (1 : Int32).toInt := by show u.toInt = 1; omega
      exact Int32.toInt_inj.mp this
    obtain ⟨k, hk⟩ : ∃ k : Nat, v.toInt = (k : Int) := ⟨v.toInt.toNat, by omega⟩
    have hk31 : k < 31 := by omega
    have ev : v = Int32.ofNat k := by
      have : v.toInt = (Int32.ofNat k).toInt := by rw [hk]; exact (nI_toInt (n := k) (by omega)).symm
      exact Int32.toInt_inj.mp this
    rw [eu, ev, ai_shl_31 ⟨k, hk31⟩]
    refine ⟨?_, ?_, ai_gr.no⟩
    · have := ai_pow2 (Nat.zero_le k)
      show (1 : Int) ≤ _
      simpa using this
    · exact ai_pow2 (by show k ≤ _; omega)
  · exact ai_top_g (ai_okI _)
/-- quotients and rests by what is above 0 -/
noncomputable def ai_div (b : Bool) (x y : ai_N) : ai_N := match ai_le 0 x.1 && ai_le 1 y.1 with
  | true => (0, x.2.1, [])
  | false => ai_top b
noncomputable def ai_rem (b : Bool) (x y : ai_N) : ai_N := match ai_le 1 y.1 with
  | true => match ai_le 0 x.1 with
    | true => (0, y.2.1 - 1, [])
    | false => (1 - y.2.1, y.2.1 - 1, [])
  | false => ai_top b
theorem ai_tdiv_n {a b : Int} (h1 : 0 ≤ a) (h2 : 1 ≤ b) : 0 ≤ a.tdiv b ∧ a.tdiv b ≤ a := by
  rw [Int.tdiv_eq_ediv_of_nonneg h1]
  exact ⟨Int.ediv_nonneg h1 (by omega), Int.ediv_le_self b h1⟩
theorem ai_divI (u v : Int32) : (u / v).toInt = (u.toInt.tdiv v.toInt).bmod (2 ^ 32) := Int32.toInt_div u v
theorem ai_divL (u v : Int64) : (u / v).toInt = (u.toInt.tdiv v.toInt).bmod (2 ^ 64) := Int64.toInt_div u v
theorem ai_div_g {ρ : List Int} {b : Bool} {x y : ai_N} {u v w : Int} (hx : ai_gn ρ x u) (hy : ai_gn ρ y v) (hu : ai_ok b u) (hw : ai_wrap b (u.tdiv v) w) : ai_gn ρ (ai_div b x y) w := by
  unfold ai_div
  split
  · next hc =>
    rw [Bool.and_eq_true, ai_le_iff, ai_le_iff] at hc
    obtain ⟨x1, x2, -⟩ := hx
    obtain ⟨y1, y2, -⟩ := hy
    have h := ai_tdiv_n (a := u) (b := v) (by omega) (by omega)
    have e := hw.2 ⟨by have := hu.1; have : ai_lo b ≤ 0 := by cases b <;> decide
                       omega, by have := hu.2; omega⟩
    rw [e]
    exact ⟨h.1, by show _ ≤ x.2.1; omega, ai_gr.no⟩
  · exact ai_top_g hw.1
theorem ai_bm (m : Nat) (a q v : Int) : (a - (q.bmod m * v).bmod m).bmod m = (a - q * v).bmod m := by
  rw [Int.sub_bmod_bmod]
  have h : (q.bmod m * v).bmod m = (q * v).bmod m := by rw [Int.bmod_mul_bmod]
  rw [← Int.sub_bmod_bmod, h, Int.sub_bmod_bmod]
theorem ai_remI (u v : Int32) : (u - u / v * v).toInt = (u.toInt.tmod v.toInt).bmod (2 ^ 32) := by
  rw [Int32.toInt_sub, Int32.toInt_mul, ai_divI, ai_bm]
  congr 1
  have := Int.tmod_def u.toInt v.toInt
  rw [this, Int.mul_comm]
theorem ai_remL (u v : Int64) : (u - u / v * v).toInt = (u.toInt.tmod v.toInt).bmod (2 ^ 64) := by
  rw [Int64.toInt_sub, Int64.toInt_mul, ai_divL, ai_bm]
  congr 1
  have := Int.tmod_def u.toInt v.toInt
  rw [this, Int.mul_comm]
theorem ai_rem_g {ρ : List Int} {b : Bool} {x y : ai_N} {u v w : Int} (hx : ai_gn ρ x u) (hy : ai_gn ρ y v) (hv : ai_ok b v) (hw : ai_wrap b (u.tmod v) w) : ai_gn ρ (ai_rem b x y) w := by
  unfold ai_rem
  obtain ⟨x1, x2, -⟩ := hx
  obtain ⟨y1, y2, -⟩ := hy
  have h0 : ai_lo b ≤ 0 ∧ ai_lo b + 1 = - ai_hi b := by cases b <;> decide
  split
  · next hc =>
    rw [ai_le_iff] at hc
    have hm1 : u.tmod v < v := Int.tmod_lt_of_pos u (by omega)
    have hm2 : -v < u.tmod v := by
      have h7 := Int.tmod_lt_of_pos (-u) (b := v) (by omega)
      rw [Int.neg_tmod] at h7
      omega
    have e := hw.2 ⟨by have := hv.2; omega, by have := hv.2; omega⟩
    rw [e]
    split
    · next hc2 =>
      rw [ai_le_iff] at hc2
      have := Int.tmod_nonneg v (a := u) (by omega)
      exact ⟨this, by show _ ≤ y.2.1 - 1; omega, ai_gr.no⟩
    · exact ⟨by show 1 - y.2.1 ≤ _; omega, by show _ ≤ y.2.1 - 1; omega, ai_gr.no⟩
  · exact ai_top_g hw.1
