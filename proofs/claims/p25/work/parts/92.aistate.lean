/-! STATES OF THE ABSTRACT INTERPRETER, and what they are of the abstract machine's. -/
abbrev ai_V : Type := (Bool × ai_N) ⊕ Option Value
abbrev ai_C : Type := (FieldType × List (Nat × ai_N)) ⊕ ((Nat × List (Option Nat)) ⊕ (Nat × List ai_V))
abbrev ai_W : Type := List (Bool × Option ai_C)
abbrev ai_S : Type := ai_E × List ai_V × List ai_V × ai_W
abbrev ai_O : Type := (Nat × ai_S) ⊕ ((Nat × List ai_V × Nat × ai_S) ⊕ (Option ai_V × ai_S))
def ai_nz (b : Bool) (v : Value) : Option Int := match b, v with
  | false, .int i => some i.toInt
  | true, .long i => some i.toInt
  | _, _ => none
theorem ai_nzI {v : Value} {z : Int} (h : ai_nz false v = some z) : ∃ i : Int32, v = .int i ∧ z = i.toInt := by
  unfold ai_nz at h
  split at h
  · cases h; exact ⟨_, rfl, rfl⟩
  · next hb => cases hb
  · cases h
theorem ai_nzL {v : Value} {z : Int} (h : ai_nz true v = some z) : ∃ i : Int64, v = .long i ∧ z = i.toInt := by
  unfold ai_nz at h
  split at h
  · next hb => cases hb
  · cases h; exact ⟨_, rfl, rfl⟩
  · cases h
def ai_gv (ρ : List Int) (a : ai_V) (x : Option Value) : Prop := match a with
  | .inl (b, n) => ∃ v z, x = some v ∧ ai_nz b v = some z ∧ ai_gn ρ n z
  | .inr (some v) => x = some v
  | .inr none => True
theorem ai_gv.int {ρ : List Int} {n : ai_N} {v : Value} (h : ai_gv ρ (.inl (false, n)) (some v)) : ∃ i : Int32, v = .int i ∧ ai_gn ρ n i.toInt := by
  obtain ⟨v', z, h1, h2, h3⟩ := h
  cases h1
  obtain ⟨i, rfl, rfl⟩ := ai_nzI h2
  exact ⟨i, rfl, h3⟩
theorem ai_gv.long {ρ : List Int} {n : ai_N} {v : Value} (h : ai_gv ρ (.inl (true, n)) (some v)) : ∃ i : Int64, v = .long i ∧ ai_gn ρ n i.toInt := by
  obtain ⟨v', z, h1, h2, h3⟩ := h
  cases h1
  obtain ⟨i, rfl, rfl⟩ := ai_nzL h2
  exact ⟨i, rfl, h3⟩
theorem ai_gv.ofI {ρ : List Int} {n : ai_N} {i : Int32} (h : ai_gn ρ n i.toInt) : ai_gv ρ (.inl (false, n)) (some (.int i)) := ⟨_, _, rfl, rfl, h⟩
theorem ai_gv.ofL {ρ : List Int} {n : ai_N} {i : Int64} (h : ai_gn ρ n i.toInt) : ai_gv ρ (.inl (true, n)) (some (.long i)) := ⟨_, _, rfl, rfl, h⟩
theorem ai_gv.up {ρ ρ' : List Int} {a : ai_V} {x : Option Value} (h : ai_gv ρ a x) (g : ρ <+: ρ') : ai_gv ρ' a x := by
  match a, h with
  | .inl (b, n), ⟨v, z, h1, h2, h3⟩ => exact ⟨v, z, h1, h2, h3.up g⟩
  | .inr (some v), h => exact h
  | .inr none, _ => trivial
def ai_gl (ρ : List Int) (as : List ai_V) (xs : List (Option Value)) : Prop := as.length = xs.length ∧ ∀ (i : Nat) (a : ai_V), as[i]? = some a → ∃ x, xs[i]? = some x ∧ ai_gv ρ a x
theorem ai_gl.up {ρ ρ' : List Int} {as : List ai_V} {xs : List (Option Value)} (h : ai_gl ρ as xs) (g : ρ <+: ρ') : ai_gl ρ' as xs :=
  ⟨h.1, fun i a ha => by obtain ⟨x, h1, h2⟩ := h.2 i a ha; exact ⟨x, h1, h2.up g⟩⟩
theorem ai_gl.put {ρ : List Int} {as : List ai_V} {xs : List (Option Value)} (h : ai_gl ρ as xs) {i : Nat} {a : ai_V} {x : Option Value} (hv : ai_gv ρ a x) : ai_gl ρ (ex_put as i a) (ex_put xs i x) := by
  rw [ex_put_eq, ex_put_eq]
  refine ⟨by simp [h.1], fun j b hb => ?_⟩
  rw [List.getElem?_set] at hb ⊢
  by_cases hj : i = j
  · subst hj
    rw [if_pos rfl] at hb ⊢
    by_cases hl : i < as.length
    · rw [if_pos hl] at hb
      cases hb
      exact ⟨x, by rw [if_pos (by rw [← h.1]; exact hl)], hv⟩
    · rw [if_neg hl] at hb; cases hb
  · rw [if_neg hj] at hb ⊢
    exact h.2 j b hb
theorem ai_gl.same {ρ : List Int} {as : List ai_V} {xs : List (Option Value)} (h : ai_gl ρ as xs) {i : Nat} {a : ai_V} {x : Option Value} (hx : xs[i]? = some x) (hv : ai_gv ρ a x) : ai_gl ρ (ex_put as i a) xs := by
  have h1 := h.put (i := i) hv
  rw [ex_put_eq _ xs] at h1
  have e : xs.set i x = xs := by
    apply List.ext_getElem?
    intro j
    rw [List.getElem?_set]
    by_cases hj : i = j
    · subst hj
      rw [if_pos rfl, if_pos (List.getElem?_eq_some_iff.mp hx).1, hx]
    · rw [if_neg hj]
  rw [e] at h1
  exact h1
theorem ai_gl.topAt {ρ : List Int} {as : List ai_V} {xs : List (Option Value)} (h : ai_gl ρ as xs) {i : Nat} (x : Option Value) : ai_gl ρ (ex_put as i (.inr none)) (ex_put xs i x) := h.put trivial
theorem ai_gl.top0 {ρ : List Int} {as : List ai_V} {xs : List (Option Value)} (h : ai_gl ρ as xs) {i : Nat} : ai_gl ρ (ex_put as i (.inr none)) xs := by
  by_cases hi : i < xs.length
  · exact h.same (x := xs[i]) (List.getElem?_eq_getElem hi) trivial
  · rw [ex_put_eq, List.set_eq_of_length_le (by rw [h.1]; omega)]
    exact h
def ai_gst (ρ : List Int) : List ai_V → List Value → Prop
  | [], [] => True
  | a :: as, v :: vs => ai_gv ρ a (some v) ∧ ai_gst ρ as vs
  | _, _ => False
theorem ai_gst.up {ρ ρ' : List Int} (g : ρ <+: ρ') : ∀ {as : List ai_V} {vs : List Value}, ai_gst ρ as vs → ai_gst ρ' as vs
  | [], [], _ => trivial
  | _ :: _, _ :: _, h => ⟨h.1.up g, ai_gst.up g h.2⟩
theorem ai_gst.nil {ρ : List Int} {vs : List Value} (h : ai_gst ρ [] vs) : vs = [] := by
  match vs, h with
  | [], _ => rfl
theorem ai_gst.cons {ρ : List Int} {a : ai_V} {as : List ai_V} {vs : List Value} (h : ai_gst ρ (a :: as) vs) : ∃ v r, vs = v :: r ∧ ai_gv ρ a (some v) ∧ ai_gst ρ as r := by
  match vs, h with
  | v :: r, h => exact ⟨v, r, rfl, h.1, h.2⟩
theorem ai_gst.len {ρ : List Int} : ∀ {as : List ai_V} {vs : List Value}, ai_gst ρ as vs → as.length = vs.length
  | [], [], _ => rfl
  | _ :: _, _ :: _, h => by simp [ai_gst.len h.2]
theorem ai_gst.take {ρ : List Int} : ∀ {as : List ai_V} {vs : List Value} (n : Nat), ai_gst ρ as vs → ai_gst ρ (as.take n) (vs.take n)
  | _, _, 0, _ => by simp [ai_gst]
  | [], [], n + 1, _ => by simp [ai_gst]
  | _ :: _, _ :: _, n + 1, h => ⟨h.1, ai_gst.take n h.2⟩
theorem ai_gst.drop {ρ : List Int} : ∀ {as : List ai_V} {vs : List Value} (n : Nat), ai_gst ρ as vs → ai_gst ρ (as.drop n) (vs.drop n)
  | _, _, 0, h => by simpa using h
  | [], [], n + 1, _ => by simp [ai_gst]
  | _ :: _, _ :: _, n + 1, h => ai_gst.drop n h.2
theorem ai_gst.app {ρ : List Int} : ∀ {as : List ai_V} {vs : List Value} {bs : List ai_V} {us : List Value}, ai_gst ρ as vs → ai_gst ρ bs us → ai_gst ρ (as ++ bs) (vs ++ us)
  | [], [], _, _, _, h => h
  | _ :: _, _ :: _, _, _, h, g => ⟨h.1, ai_gst.app h.2 g⟩
theorem ai_gst.rev {ρ : List Int} : ∀ {as : List ai_V} {vs : List Value}, ai_gst ρ as vs → ai_gst ρ as.reverse vs.reverse
  | [], [], _ => trivial
  | a :: as, v :: vs, h => by
    rw [List.reverse_cons, List.reverse_cons]
    exact (ai_gst.rev h.2).app ⟨h.1, trivial⟩
/-- rows of numbers, by segments -/
def ai_gs (ρ : List Int) : List (Nat × ai_N) → List Int32 → Prop
  | [], l => l = []
  | q :: t, l => q.1 ≤ l.length ∧ (∀ x ∈ l.take q.1, ai_gn ρ q.2 x.toInt) ∧ ai_gs ρ t (l.drop q.1)
theorem ai_gs.up {ρ ρ' : List Int} (g : ρ <+: ρ') : ∀ {s : List (Nat × ai_N)} {l : List Int32}, ai_gs ρ s l → ai_gs ρ' s l
  | [], _, h => h
  | _ :: _, _, h => ⟨h.1, fun x hx => (h.2.1 x hx).up g, ai_gs.up g h.2.2⟩
noncomputable def ai_sn (s : List (Nat × ai_N)) : Nat := List.rec (motive := fun _ => Nat) 0 (fun q _ ih => q.1 + ih) s
theorem ai_gs.len {ρ : List Int} : ∀ {s : List (Nat × ai_N)} {l : List Int32}, ai_gs ρ s l → l.length = ai_sn s
  | [], l, h => by rw [show l = [] from h]; rfl
  | q :: t, l, h => by
    have h1 := ai_gs.len h.2.2
    rw [List.length_drop] at h1
    have h2 := h.1
    show l.length = q.1 + ai_sn t
    omega
/-- what lies between two places -/
noncomputable def ai_sh (s : List (Nat × ai_N)) (l h : Int) : Int → Option (Int × Int) := List.rec (motive := fun _ => Int → Option (Int × Int)) (fun _ => none) (fun q _ ih o => match ai_le o h && ai_le l (o + q.1 - 1) with
  | false => ih (o + q.1)
  | true => match ih (o + q.1) with
    | none => some (q.2.1, q.2.2.1)
    | some r => some (ai_mn q.2.1 r.1, ai_mx q.2.2.1 r.2)) s
theorem ai_sh_c (q : Nat × ai_N) (t : List (Nat × ai_N)) (l h o : Int) : ai_sh (q :: t) l h o = match ai_le o h && ai_le l (o + q.1 - 1) with
  | false => ai_sh t l h (o + q.1)
  | true => match ai_sh t l h (o + q.1) with
    | none => some (q.2.1, q.2.2.1)
    | some r => some (ai_mn q.2.1 r.1, ai_mx q.2.2.1 r.2) := rfl
theorem ai_sh_g {ρ : List Int} {lo hi : Int} : ∀ {s : List (Nat × ai_N)} {l : List Int32} {o : Int} {k : Nat} {x : Int32}, ai_gs ρ s l → l[k]? = some x → lo ≤ o + k → o + k ≤ hi → ∃ r, ai_sh s lo hi o = some r ∧ r.1 ≤ x.toInt ∧ x.toInt ≤ r.2
  | [], l, o, k, x, h, hk, _, _ => by rw [show l = [] from h] at hk; cases hk
  | q :: t, l, o, k, x, h, hk, h1, h2 => by
    obtain ⟨g1, g2, g3⟩ := h
    rw [ai_sh_c]
    by_cases hq : k < q.1
    · have hx := g2 x (List.mem_of_getElem? (i := k) (by rw [List.getElem?_take_of_lt hq]; exact hk))
      have hc : (ai_le o hi && ai_le lo (o + q.1 - 1)) = true := by
        rw [Bool.and_eq_true, ai_le_iff, ai_le_iff]
        omega
      rw [hc]
      dsimp only
      split
      · exact ⟨_, rfl, hx.1, hx.2.1⟩
      · refine ⟨_, rfl, ?_, ?_⟩
        · exact Int.le_trans (ai_mn_le (a := q.2.1)).1 hx.1
        · exact Int.le_trans hx.2.1 (ai_le_mx (a := q.2.2.1)).1
    · have hk' : (l.drop q.1)[k - q.1]? = some x := by
        rw [List.getElem?_drop, show q.1 + (k - q.1) = k by omega]
        exact hk
      obtain ⟨r, r1, r2, r3⟩ := ai_sh_g (lo := lo) (hi := hi) (o := o + q.1) g3 hk' (by omega) (by omega)
      rw [r1]
      split
      · exact ⟨r, rfl, r2, r3⟩
      · refine ⟨_, rfl, ?_, ?_⟩
        · exact Int.le_trans (ai_mn_le (a := q.2.1)).2 r2
        · exact Int.le_trans r3 (ai_le_mx (a := q.2.2.1)).2
/-- a place alone in its segment: its number, and it written -/
noncomputable def ai_s1 (s : List (Nat × ai_N)) : Int → Option ai_N := List.rec (motive := fun _ => Int → Option ai_N) (fun _ => none) (fun q _ ih i => match ai_le q.1 i with
  | true => ih (i - q.1)
  | false => match Nat.beq q.1 1 with
    | true => some q.2
    | false => none) s
noncomputable def ai_p1 (n : ai_N) (s : List (Nat × ai_N)) : Int → List (Nat × ai_N) := List.rec (motive := fun _ => Int → List (Nat × ai_N)) (fun _ => []) (fun q t ih i => match ai_le q.1 i with
  | true => q :: ih (i - q.1)
  | false => (q.1, n) :: t) s
theorem ai_s1_c (q : Nat × ai_N) (t : List (Nat × ai_N)) (i : Int) : ai_s1 (q :: t) i = match ai_le q.1 i with
  | true => ai_s1 t (i - q.1)
  | false => match Nat.beq q.1 1 with
    | true => some q.2
    | false => none := rfl
theorem ai_p1_c (n : ai_N) (q : Nat × ai_N) (t : List (Nat × ai_N)) (i : Int) : ai_p1 n (q :: t) i = match ai_le q.1 i with
  | true => q :: ai_p1 n t (i - q.1)
  | false => (q.1, n) :: t := rfl
theorem ai_s1_g {ρ : List Int} : ∀ {s : List (Nat × ai_N)} {l : List Int32} {k : Nat} {x : Int32} {n : ai_N}, ai_gs ρ s l → l[k]? = some x → ai_s1 s k = some n → ai_gn ρ n x.toInt
  | [], l, k, x, n, h, hk, _ => by rw [show l = [] from h] at hk; cases hk
  | q :: t, l, k, x, n, h, hk, h1 => by
    obtain ⟨g1, g2, g3⟩ := h
    rw [ai_s1_c] at h1
    cases hc : ai_le q.1 k with
    | true =>
      rw [hc] at h1
      rw [ai_le_iff] at hc
      have hk' : (l.drop q.1)[k - q.1]? = some x := by
        rw [List.getElem?_drop, show q.1 + (k - q.1) = k by omega]
        exact hk
      refine ai_s1_g g3 hk' ?_
      rw [show (((k - q.1 : Nat)) : Int) = (k : Int) - q.1 by omega]
      exact h1
    | false =>
      rw [hc] at h1
      rw [ai_le_f] at hc
      dsimp only at h1
      split at h1
      · cases h1
        exact g2 x (List.mem_of_getElem? (i := k) (by rw [List.getElem?_take_of_lt (by omega)]; exact hk))
      · cases h1
theorem ai_p1_g {ρ : List Int} {m : ai_N} : ∀ {s : List (Nat × ai_N)} {l : List Int32} {k : Nat} {x : Int32} {n : ai_N}, ai_gs ρ s l → l[k]? = some x → ai_s1 s k = some n → ai_gn ρ m x.toInt → ai_gs ρ (ai_p1 m s k) l
  | [], l, k, x, n, h, hk, _, _ => by rw [show l = [] from h] at hk; cases hk
  | q :: t, l, k, x, n, h, hk, h1, hm => by
    obtain ⟨g1, g2, g3⟩ := h
    rw [ai_s1_c] at h1
    rw [ai_p1_c]
    cases hc : ai_le q.1 k with
    | true =>
      rw [hc] at h1
      rw [ai_le_iff] at hc
      have hk' : (l.drop q.1)[k - q.1]? = some x := by
        rw [List.getElem?_drop, show q.1 + (k - q.1) = k by omega]
        exact hk
      have e : (((k - q.1 : Nat)) : Int) = (k : Int) - q.1 := by omega
      have h4 := ai_p1_g (m := m) g3 hk' (by rw [e]; exact h1) hm
      rw [e] at h4
      exact ⟨g1, g2, h4⟩
    | false =>
      rw [hc] at h1
      rw [ai_le_f] at hc
      dsimp only at h1
      split at h1
      · next hb =>
        have hq : q.1 = 1 := Nat.eq_of_beq_eq_true hb
        refine ⟨g1, fun y hy => ?_, g3⟩
        have hk0 : k = 0 := by omega
        subst hk0
        have hy : y ∈ l.take q.1 := hy
        rw [hq] at hy
        cases l with
        | nil => cases hk
        | cons a l =>
          cases hk
          simp at hy
          subst hy
          exact hm
      · cases h1
/-- between two places something is written -/
noncomputable def ai_sw (n : ai_N) (s : List (Nat × ai_N)) (l h : Int) : Int → List (Nat × ai_N) := List.rec (motive := fun _ => Int → List (Nat × ai_N)) (fun _ => []) (fun q _ ih o => (match ai_le o h && ai_le l (o + q.1 - 1) with
  | false => q
  | true => match Nat.beq q.1 1 && ai_le h l with
    | true => (q.1, n)
    | false => (q.1, ai_mn q.2.1 n.1, ai_mx q.2.2.1 n.2.1, [])) :: ih (o + q.1)) s
theorem ai_sw_c (n : ai_N) (q : Nat × ai_N) (t : List (Nat × ai_N)) (l h o : Int) : ai_sw n (q :: t) l h o = (match ai_le o h && ai_le l (o + q.1 - 1) with
  | false => q
  | true => match Nat.beq q.1 1 && ai_le h l with
    | true => (q.1, n)
    | false => (q.1, ai_mn q.2.1 n.1, ai_mx q.2.2.1 n.2.1, [])) :: ai_sw n t l h (o + q.1) := rfl
theorem ai_wk {ρ : List Int} {a : ai_N} {z l h : Int} (g : ai_gn ρ a z) (h1 : l ≤ a.1) (h2 : a.2.1 ≤ h) : ai_gn ρ (l, h, []) z := ⟨Int.le_trans h1 g.1, Int.le_trans g.2.1 h2, ai_gr.no⟩
theorem ai_sw_u {ρ : List Int} {n : ai_N} {lo hi K : Int} (h1 : lo ≤ K) (h2 : K ≤ hi) : ∀ {s : List (Nat × ai_N)} {l : List Int32} {o : Int}, ai_gs ρ s l → K < o → ai_gs ρ (ai_sw n s lo hi o) l
  | [], _, _, h, _ => h
  | q :: t, l, o, h, h3 => by
    obtain ⟨g1, g2, g3⟩ := h
    rw [ai_sw_c]
    have h4 := ai_sw_u (n := n) h1 h2 (o := o + q.1) g3 (by omega)
    cases hc : ai_le o hi && ai_le lo (o + q.1 - 1) with
    | false => exact ⟨g1, g2, h4⟩
    | true =>
      rw [Bool.and_eq_true, ai_le_iff, ai_le_iff] at hc
      cases hb : Nat.beq q.1 1 && ai_le hi lo with
      | true =>
        rw [Bool.and_eq_true, ai_le_iff] at hb
        omega
      | false => exact ⟨g1, fun y hy => ai_wk (g2 y hy) (ai_mn_le (a := q.2.1)).1 (ai_le_mx (a := q.2.2.1)).1, h4⟩
theorem ai_sw_g {ρ : List Int} {n : ai_N} {x : Int32} (hn : ai_gn ρ n x.toInt) {lo hi : Int} : ∀ {s : List (Nat × ai_N)} {l : List Int32} {o : Int} {k : Nat}, ai_gs ρ s l → lo ≤ o + k → o + k ≤ hi → ai_gs ρ (ai_sw n s lo hi o) (l.set k x)
  | [], l, o, k, h, _, _ => by rw [show l = [] from h]; rfl
  | q :: t, l, o, k, h, h1, h2 => by
    obtain ⟨g1, g2, g3⟩ := h
    rw [ai_sw_c]
    by_cases hq : k < q.1
    · have e : (l.set k x).drop q.1 = l.drop q.1 := by rw [List.drop_set, if_pos hq]
      have h4 := ai_sw_u (n := n) h1 h2 (o := o + q.1) g3 (by omega)
      rw [← e] at h4
      have hc : (ai_le o hi && ai_le lo (o + q.1 - 1)) = true := by
        rw [Bool.and_eq_true, ai_le_iff, ai_le_iff]
        omega
      rw [hc]
      have g1' : q.1 ≤ (l.set k x).length := by rw [List.length_set]; exact g1
      cases hb : Nat.beq q.1 1 && ai_le hi lo with
      | true =>
        rw [Bool.and_eq_true] at hb
        have hq1 : q.1 = 1 := Nat.eq_of_beq_eq_true hb.1
        have hk0 : k = 0 := by omega
        refine ⟨g1', fun y hy => ?_, h4⟩
        subst hk0
        have hy : y ∈ (l.set 0 x).take q.1 := hy
        rw [hq1] at hy
        cases l with
        | nil => simp at hy
        | cons b l =>
          simp at hy
          subst hy
          exact hn
      | false =>
        refine ⟨g1', fun y hy => ?_, h4⟩
        have hy : y ∈ (l.set k x).take q.1 := hy
        rw [List.take_set] at hy
        rcases List.mem_or_eq_of_mem_set hy with hy | hy
        · exact ai_wk (g2 y hy) (ai_mn_le (a := q.2.1)).1 (ai_le_mx (a := q.2.2.1)).1
        · subst hy
          exact ai_wk hn (ai_mn_le (a := q.2.1)).2 (ai_le_mx (a := q.2.2.1)).2
    · have e : (l.set k x).take q.1 = l.take q.1 := by
        rw [List.take_set, List.set_eq_of_length_le (by rw [List.length_take]; omega)]
      have e2 : (l.set k x).drop q.1 = (l.drop q.1).set (k - q.1) x := by rw [List.drop_set, if_neg hq]
      have h4 := ai_sw_g hn (lo := lo) (hi := hi) (o := o + q.1) (k := k - q.1) g3 (by omega) (by omega)
      rw [← e2] at h4
      have g1' : q.1 ≤ (l.set k x).length := by rw [List.length_set]; exact g1
      have g2' : ∀ y ∈ (l.set k x).take q.1, ai_gn ρ q.2 y.toInt := by rw [e]; exact g2
      cases hc : ai_le o hi && ai_le lo (o + q.1 - 1) with
      | false => exact ⟨g1', g2', h4⟩
      | true =>
        rw [Bool.and_eq_true, ai_le_iff, ai_le_iff] at hc
        cases hb : Nat.beq q.1 1 && ai_le hi lo with
        | true =>
          rw [Bool.and_eq_true, ai_le_iff] at hb
          omega
        | false => exact ⟨g1', fun y hy => ai_wk (g2' y hy) (ai_mn_le (a := q.2.1)).1 (ai_le_mx (a := q.2.2.1)).1, h4⟩
/-- cells -/
def ai_gc (ρ : List Int) (c : ai_C) (x : ex_E) : Prop := match c, x with
  | .inl (ty, s), .inl (ty', l) => ty = ty' ∧ ai_gs ρ s l
  | .inr (.inl q), .inr (.inl q') => q = q'
  | .inr (.inr (c, vs)), .inr (.inr (c', fs)) => c = c' ∧ ai_gl ρ vs (fs.map some)
  | _, _ => False
theorem ai_gc.up {ρ ρ' : List Int} {c : ai_C} {x : ex_E} (h : ai_gc ρ c x) (g : ρ <+: ρ') : ai_gc ρ' c x := by
  match c, x, h with
  | .inl (ty, s), .inl (ty', l), h => exact ⟨h.1, h.2.up g⟩
  | .inr (.inl q), .inr (.inl q'), h => exact h
  | .inr (.inr (c, vs)), .inr (.inr (c', fs)), h => exact ⟨h.1, h.2.up g⟩
theorem ai_gc.arr {ρ : List Int} {ty : FieldType} {s : List (Nat × ai_N)} {x : ex_E} (h : ai_gc ρ (.inl (ty, s)) x) : ∃ l, x = .inl (ty, l) ∧ ai_gs ρ s l := by
  match x, h with
  | .inl (ty', l), h => obtain ⟨rfl, h⟩ := h; exact ⟨l, rfl, h⟩
theorem ai_gc.row {ρ : List Int} {q : Nat × List (Option Nat)} {x : ex_E} (h : ai_gc ρ (.inr (.inl q)) x) : x = .inr (.inl q) := by
  match x, h with
  | .inr (.inl q'), h => obtain rfl : q = q' := h; rfl
theorem ai_gc.obj {ρ : List Int} {c : Nat} {vs : List ai_V} {x : ex_E} (h : ai_gc ρ (.inr (.inr (c, vs))) x) : ∃ fs, x = .inr (.inr (c, fs)) ∧ ai_gl ρ vs (fs.map some) := by
  match x, h with
  | .inr (.inr (c', fs)), h => obtain ⟨rfl, h⟩ := h; exact ⟨fs, rfl, h⟩
/-- the cells now, w0 those at the method's start -/
def ai_gw (ρ : List Int) (w0 : ex_W) (aw : ai_W) (w : ex_W) : Prop := aw.length = w.length ∧ w0.length = w.length ∧ ∀ (p : Nat) (q : Bool × Option ai_C), aw[p]? = some q → ∃ x, w[p]? = some x ∧ (q.1 = false → w0[p]? = some x) ∧ ∀ c, q.2 = some c → ai_gc ρ c x
theorem ai_gw.up {ρ ρ' : List Int} {w0 w : ex_W} {aw : ai_W} (h : ai_gw ρ w0 aw w) (g : ρ <+: ρ') : ai_gw ρ' w0 aw w :=
  ⟨h.1, h.2.1, fun p q hq => by obtain ⟨x, h1, h2, h3⟩ := h.2.2 p q hq; exact ⟨x, h1, h2, fun c hc => (h3 c hc).up g⟩⟩
/-- a cell is known better -/
theorem ai_gw.know {ρ : List Int} {w0 w : ex_W} {aw : ai_W} (h : ai_gw ρ w0 aw w) {p : Nat} {b : Bool} {c0 : Option ai_C} {c : ai_C} {x : ex_E} (hp : aw[p]? = some (b, c0)) (hx : w[p]? = some x) (hc : ai_gc ρ c x) : ai_gw ρ w0 (ex_put aw p (b, some c)) w := by
  rw [ex_put_eq]
  refine ⟨by rw [List.length_set]; exact h.1, h.2.1, fun j q hq => ?_⟩
  rw [List.getElem?_set] at hq
  by_cases hj : p = j
  · subst hj
    rw [if_pos rfl, if_pos (List.getElem?_eq_some_iff.mp hp).1] at hq
    cases hq
    obtain ⟨x', h1, h2, -⟩ := h.2.2 p _ hp
    obtain rfl : x = x' := Option.some.inj (hx.symm.trans h1)
    exact ⟨x, hx, h2, fun c' hc' => by cases hc'; exact hc⟩
  · rw [if_neg hj] at hq
    exact h.2.2 j q hq
/-- a cell is written -/
theorem ai_gw.put {ρ : List Int} {w0 w : ex_W} {aw : ai_W} (h : ai_gw ρ w0 aw w) {p : Nat} {c : ai_C} {x : ex_E} (hc : ai_gc ρ c x) : ai_gw ρ w0 (ex_put aw p (true, some c)) (ex_put w p x) := by
  rw [ex_put_eq, ex_put_eq]
  refine ⟨by rw [List.length_set, List.length_set]; exact h.1, by rw [List.length_set]; exact h.2.1, fun j q hq => ?_⟩
  rw [List.getElem?_set] at hq ⊢
  by_cases hj : p = j
  · subst hj
    rw [if_pos rfl] at hq ⊢
    by_cases hl : p < aw.length
    · rw [if_pos hl] at hq
      cases hq
      rw [if_pos (by rw [← h.1]; exact hl)]
      exact ⟨x, rfl, (fun e => by cases e), fun c' hc' => by cases hc'; exact hc⟩
    · rw [if_neg hl] at hq; cases hq
  · rw [if_neg hj] at hq ⊢
    exact h.2.2 j q hq
def ai_g (ρ : List Int) (w0 : ex_W) (S : ai_S) (lo : ex_L) (st : List Value) (w : ex_W) : Prop := ai_ge ρ S.1 ∧ ai_gl ρ S.2.1 lo ∧ ai_gst ρ S.2.2.1 st ∧ ai_gw ρ w0 S.2.2.2 w
def ai_gret (ρ : List Int) (r : Option ai_V) (v : Option Value) : Prop := match r, v with
  | none, none => True
  | some a, some x => ai_gv ρ a (some x)
  | _, _ => False
def ai_so (ρ : List Int) (w0 w : ex_W) (res : Option ex_A) (o : ai_O) : Prop := match o with
  | .inl (pc, S) => ∃ lo st w', res = some (.inl ((pc, lo, st), w')) ∧ ai_g ρ w0 S lo st w'
  | .inr (.inl (cal, as, pc, S)) => ∃ vs lo st, res = some (.inr (.inl (cal, vs, (pc, lo, st)))) ∧ ai_gst ρ as vs ∧ ai_g ρ w0 S lo st w
  | .inr (.inr (r, S)) => ∃ v lo st, res = some (.inr (.inr v)) ∧ ai_gret ρ r v ∧ ai_g ρ w0 S lo st w
def ai_sd (ρ : List Int) (w0 w : ex_W) (res : Option ex_A) (outs : List ai_O) : Prop := ∃ o, o ∈ outs ∧ ∃ ρ', ρ <+: ρ' ∧ ai_so ρ' w0 w res o
theorem ai_sd.one {ρ ρ' : List Int} {w0 w : ex_W} {res : Option ex_A} {o : ai_O} (g : ρ <+: ρ') (h : ai_so ρ' w0 w res o) : ai_sd ρ w0 w res [o] := ⟨o, List.mem_singleton.mpr rfl, ρ', g, h⟩
theorem ai_sd.go {ρ ρ' : List Int} {w0 w w' : ex_W} {pc : Nat} {S : ai_S} {lo : ex_L} {st : List Value} (g : ρ <+: ρ') (h : ai_g ρ' w0 S lo st w') : ai_sd ρ w0 w (ex_go pc lo st w') [.inl (pc, S)] := ai_sd.one g ⟨lo, st, w', rfl, h⟩
