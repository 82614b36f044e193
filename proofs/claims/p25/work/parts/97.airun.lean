/-! CONTRACTS, and a method held against its own. -/
/-- an end of a method: the answer, what the start's symbols are then known to be, the cells that may have changed -/
abbrev ai_P : Type := Option ai_V × ai_E × List (Nat × ai_C)
/-- a contract: the method, the depth that it needs, its start (a pattern and where its symbols lie), its ends -/
abbrev ai_K : Type := Nat × Nat × ai_S × List ai_L × List ai_P
noncomputable def ai_get (u : List (Nat × ai_C)) (p : Nat) : Option ai_C := List.rec (motive := fun _ => Option ai_C) none (fun q _ ih => match Nat.beq q.1 p with
  | true => some q.2
  | false => ih) u
theorem ai_get_c (q : Nat × ai_C) (u : List (Nat × ai_C)) (p : Nat) : ai_get (q :: u) p = match Nat.beq q.1 p with
  | true => some q.2
  | false => ai_get u p := rfl
def ai_end (ρ : List Int) (w0 : ex_W) (P : ai_P) (r : Option Value) (w : ex_W) : Prop := ai_ge ρ P.2.1 ∧ ai_gret ρ P.1 r ∧ w0.length = w.length ∧ ∀ (p : Nat) (x : ex_E), w[p]? = some x → (ai_get P.2.2 p = none → w0[p]? = some x) ∧ ∀ c, ai_get P.2.2 p = some c → ai_gc ρ c x
def ai_holds (K : ai_K) : Prop := ∀ (M : ex_M), ex_at ex_lst K.1 = some M → ∀ (X : List Int32) (d : Nat), K.2.1 ≤ d → ∀ (ρ : List Int) (lo : ex_L) (w : ex_W), ai_g ρ w K.2.2.1 lo [] w → ∃ r w', Go X d M (0, lo, []) w (r, w') ∧ ∃ P, P ∈ K.2.2.2.2 ∧ ai_end ρ w P r w'
/-! behind a call -/
noncomputable def ai_trr (T : List ai_N) (r : List (Nat × Int × Int)) : Int → Int → ai_N := List.rec (motive := fun _ => Int → Int → ai_N) (fun l h => (l, h, [])) (fun q _ ih l h => match ex_at T q.1 with
  | none => ih l h
  | some y => ((ih (ai_mx l (y.1 + q.2.1)) (ai_mn h (y.2.1 + q.2.2))).1, (ih (ai_mx l (y.1 + q.2.1)) (ai_mn h (y.2.1 + q.2.2))).2.1, ai_rs y.2.2 q.2.1 q.2.2 ++ (ih (ai_mx l (y.1 + q.2.1)) (ai_mn h (y.2.1 + q.2.2))).2.2)) r
theorem ai_trr_c (T : List ai_N) (q : Nat × Int × Int) (r : List (Nat × Int × Int)) (l h : Int) : ai_trr T (q :: r) l h = match ex_at T q.1 with
  | none => ai_trr T r l h
  | some y => ((ai_trr T r (ai_mx l (y.1 + q.2.1)) (ai_mn h (y.2.1 + q.2.2))).1, (ai_trr T r (ai_mx l (y.1 + q.2.1)) (ai_mn h (y.2.1 + q.2.2))).2.1, ai_rs y.2.2 q.2.1 q.2.2 ++ (ai_trr T r (ai_mx l (y.1 + q.2.1)) (ai_mn h (y.2.1 + q.2.2))).2.2) := rfl
noncomputable def ai_trn (T : List ai_N) (n : ai_N) : ai_N := ai_trr T n.2.2 n.1 n.2.1
section AIT
variable {ρ ρ' : List Int} {T : List ai_N}
theorem ai_trr_g {z : Int} (hT : ∀ (k : Nat) (n : ai_N), T[k]? = some n → ∃ y, ρ'[k]? = some y ∧ ai_gn ρ n y) : ∀ {r : List (Nat × Int × Int)} {l h : Int}, ai_gr ρ' r z → l ≤ z → z ≤ h → ai_gn ρ (ai_trr T r l h) z
  | [], _, _, _, h1, h2 => ⟨h1, h2, ai_gr.no⟩
  | q :: r, l, h, hr, h1, h2 => by
    have hr' : ai_gr ρ' r z := fun a ha => hr a (List.mem_cons_of_mem _ ha)
    rw [ai_trr_c]
    split
    · exact ai_trr_g hT hr' h1 h2
    · next y hy =>
      rw [ex_at_eq] at hy
      obtain ⟨v, e1, e2⟩ := hT _ y hy
      obtain ⟨v', p1, p2, p3⟩ := hr q List.mem_cons_self
      obtain rfl : v = v' := Option.some.inj (e1.symm.trans p1)
      have := e2.1; have := e2.2.1
      have ih := ai_trr_g hT (l := ai_mx l (y.1 + q.2.1)) (h := ai_mn h (y.2.1 + q.2.2)) hr' (ai_mx_le.mpr ⟨h1, by omega⟩) (ai_le_mn.mpr ⟨h2, by omega⟩)
      refine ⟨ih.1, ih.2.1, fun a ha => ?_⟩
      have ha : a ∈ ai_rs y.2.2 q.2.1 q.2.2 ++ (ai_trr T r (ai_mx l (y.1 + q.2.1)) (ai_mn h (y.2.1 + q.2.2))).2.2 := ha
      rcases List.mem_append.mp ha with ha | ha
      · have e := ai_rs_g (d := z - v) p2 p3 e2.2.2
        rw [show v + (z - v) = z by omega] at e
        exact e a ha
      · exact ih.2.2 a ha
theorem ai_trn_g {n : ai_N} {z : Int} (hT : ∀ (k : Nat) (n : ai_N), T[k]? = some n → ∃ y, ρ'[k]? = some y ∧ ai_gn ρ n y) (h : ai_gn ρ' n z) : ai_gn ρ (ai_trn T n) z := ai_trr_g hT h.2.2 h.1 h.2.1
noncomputable def ai_trv (T : List ai_N) (v : ai_V) : ai_V := match v with
  | .inl (b, n) => .inl (b, ai_trn T n)
  | .inr x => .inr x
theorem ai_trv_g {v : ai_V} {x : Option Value} (hT : ∀ (k : Nat) (n : ai_N), T[k]? = some n → ∃ y, ρ'[k]? = some y ∧ ai_gn ρ n y) (h : ai_gv ρ' v x) : ai_gv ρ (ai_trv T v) x := by
  unfold ai_trv
  split
  · obtain ⟨u, z, h1, h2, h3⟩ := h
    exact ⟨u, z, h1, h2, ai_trn_g hT h3⟩
  · next y =>
    cases y with
    | none => trivial
    | some y => exact h
noncomputable def ai_trs (T : List ai_N) (s : List (Nat × ai_N)) : List (Nat × ai_N) := s.map (fun q => (q.1, ai_trn T q.2))
theorem ai_trs_g (hT : ∀ (k : Nat) (n : ai_N), T[k]? = some n → ∃ y, ρ'[k]? = some y ∧ ai_gn ρ n y) : ∀ {s : List (Nat × ai_N)} {l : List Int32}, ai_gs ρ' s l → ai_gs ρ (ai_trs T s) l
  | [], _, h => h
  | _ :: _, _, h => ⟨h.1, fun x hx => ai_trn_g hT (h.2.1 x hx), ai_trs_g hT h.2.2⟩
noncomputable def ai_trc (T : List ai_N) (c : ai_C) : ai_C := match c with
  | .inl (ty, s) => .inl (ty, ai_trs T s)
  | .inr (.inl q) => .inr (.inl q)
  | .inr (.inr (c, vs)) => .inr (.inr (c, vs.map (ai_trv T)))
theorem ai_trc_g {c : ai_C} {x : ex_E} (hT : ∀ (k : Nat) (n : ai_N), T[k]? = some n → ∃ y, ρ'[k]? = some y ∧ ai_gn ρ n y) (h : ai_gc ρ' c x) : ai_gc ρ (ai_trc T c) x := by
  match c, h with
  | .inl (ty, s), h =>
    obtain ⟨l, rfl, g⟩ := h.arr
    exact ⟨rfl, ai_trs_g hT g⟩
  | .inr (.inl q), h =>
    obtain rfl := h.row
    rfl
  | .inr (.inr (c, vs)), h =>
    obtain ⟨fs, rfl, g⟩ := h.obj
    refine ⟨rfl, by rw [List.length_map]; exact g.1, fun i a ha => ?_⟩
    rw [List.getElem?_map] at ha
    cases hv : vs[i]? with
    | none => rw [hv] at ha; cases ha
    | some v =>
      rw [hv] at ha
      cases ha
      obtain ⟨x, e1, e2⟩ := g.2 i v hv
      exact ⟨x, e1, ai_trv_g hT e2⟩
noncomputable def ai_upw (T : List ai_N) (W : ai_W) (u : List (Nat × ai_C)) : ai_W := List.rec (motive := fun _ => ai_W) W (fun q _ ih => ex_put ih q.1 (true, some (ai_trc T q.2))) u
theorem ai_upw_len (T : List ai_N) (W : ai_W) (u : List (Nat × ai_C)) : (ai_upw T W u).length = W.length := by
  induction u with
  | nil => rfl
  | cons q u ih =>
    show (ex_put (ai_upw T W u) q.1 (true, some (ai_trc T q.2))).length = _
    rw [ex_put_eq, List.length_set, ih]
theorem ai_upw_at (T : List ai_N) (W : ai_W) (u : List (Nat × ai_C)) (p : Nat) : (ai_upw T W u)[p]? = match ai_get u p with
  | some c => if p < W.length then some (true, some (ai_trc T c)) else none
  | none => W[p]? := by
  induction u with
  | nil => rfl
  | cons q u ih =>
    show (ex_put (ai_upw T W u) q.1 (true, some (ai_trc T q.2)))[p]? = _
    rw [ex_put_eq, List.getElem?_set, ai_get_c, ai_upw_len]
    cases hb : Nat.beq q.1 p with
    | true =>
      have e : q.1 = p := Nat.eq_of_beq_eq_true hb
      rw [if_pos e, e]
    | false =>
      have e : ¬ q.1 = p := fun h => by rw [h, Nat.beq_refl] at hb; cases hb
      rw [if_neg e]
      exact ih
/-- what the start's symbols are known to be, learnt by the caller -/
noncomputable def ai_lrs (T : List ai_N) (e : ai_E) : ai_E → Option ai_E := List.rec (motive := fun _ => ai_E → Option ai_E) (fun _ => some e) (fun n _ ih q => match q with
  | [] => some e
  | q :: qs => match ih qs with
    | none => none
    | some e' => ai_lrn e' n q.1 q.2) T
theorem ai_lrs_c (n : ai_N) (T : List ai_N) (e : ai_E) (q : Int × Int) (qs : ai_E) : ai_lrs (n :: T) e (q :: qs) = match ai_lrs T e qs with
    | none => none
    | some e' => ai_lrn e' n q.1 q.2 := rfl
theorem ai_lrs_g {e : ai_E} (he : ai_ge ρ e) : ∀ {T : List ai_N} {qs : ai_E} {ys : List Int}, (∀ (k : Nat) (n : ai_N), T[k]? = some n → ∃ y, ys[k]? = some y ∧ ai_gn ρ n y) → (∀ (k : Nat) (q : Int × Int), qs[k]? = some q → ∃ y, ys[k]? = some y ∧ q.1 ≤ y ∧ y ≤ q.2) → ∃ e', ai_lrs T e qs = some e' ∧ ai_ge ρ e'
  | [], _, _, _, _ => ⟨e, rfl, he⟩
  | n :: T, [], _, _, _ => ⟨e, rfl, he⟩
  | n :: T, q :: qs, ys, hT, hq => by
    obtain ⟨y, h1, h2⟩ := hT 0 n rfl
    obtain ⟨y', h3, h4, h5⟩ := hq 0 q rfl
    obtain rfl : y = y' := Option.some.inj (h1.symm.trans h3)
    cases ys with
    | nil => cases h1
    | cons z ys =>
      obtain ⟨e', g1, g2⟩ := ai_lrs_g he (T := T) (qs := qs) (ys := ys) (fun k n' hk => by
        obtain ⟨y', p1, p2⟩ := hT (k + 1) n' (by simpa using hk)
        exact ⟨y', by simpa using p1, p2⟩) (fun k q' hk => by
        obtain ⟨y', p1, p2⟩ := hq (k + 1) q' (by simpa using hk)
        exact ⟨y', by simpa using p1, p2⟩)
      rw [ai_lrs_c, g1]
      exact ai_lrn_g g2 h2 h4 h5
end AIT
/-- the caller's state behind an end of the callee -/
noncomputable def ai_aft (T : List ai_N) (S : ai_S) (P : ai_P) : Option ai_S := match ai_lrs T S.1 P.2.1 with
  | none => none
  | some e => match P.1 with
    | none => some (e, S.2.1, S.2.2.1, ai_upw T S.2.2.2 P.2.2)
    | some a => some (e, S.2.1, ai_trv T a :: S.2.2.1, ai_upw T S.2.2.2 P.2.2)
theorem ai_aft_g {ρ ρ' : List Int} {T : List ai_N} {S : ai_S} {P : ai_P} {lo : ex_L} {st : List Value} {w0 w w' : ex_W} {r : Option Value} (hT : ∀ (k : Nat) (n : ai_N), T[k]? = some n → ∃ y, ρ'[k]? = some y ∧ ai_gn ρ n y) (H : ai_g ρ w0 S lo st w) (h : ai_end ρ' w P r w') : ∃ S', ai_aft T S P = some S' ∧ ai_g ρ w0 S' lo (r.toList ++ st) w' := by
  obtain ⟨h1, h2, h3, h4⟩ := h
  obtain ⟨e, g1, g2⟩ := ai_lrs_g H.1 hT h1.2
  have hw : ai_gw ρ w0 (ai_upw T S.2.2.2 P.2.2) w' := by
    obtain ⟨a1, a2, a3⟩ := H.2.2.2
    refine ⟨by rw [ai_upw_len, a1, h3], by rw [a2, h3], fun p q hq => ?_⟩
    rw [ai_upw_at] at hq
    have hlen : p < S.2.2.2.length → ∃ x, w'[p]? = some x := fun hl => ⟨w'[p]'(by rw [← h3, ← a1]; exact hl), List.getElem?_eq_getElem _⟩
    cases hg : ai_get P.2.2 p with
    | some c =>
      rw [hg] at hq
      dsimp only at hq
      split at hq
      · next hl =>
        cases hq
        obtain ⟨x, hx⟩ := hlen hl
        refine ⟨x, hx, (fun q => by cases q), fun c' hc' => ?_⟩
        cases hc'
        exact ai_trc_g hT ((h4 p x hx).2 c hg)
      · cases hq
    | none =>
      rw [hg] at hq
      dsimp only at hq
      obtain ⟨x, b1, b2, b3⟩ := a3 p q hq
      obtain ⟨x', hx'⟩ := hlen (List.getElem?_eq_some_iff.mp hq).1
      have := (h4 p x' hx').1 hg
      obtain rfl : x = x' := Option.some.inj (b1.symm.trans this)
      exact ⟨x, hx', b2, b3⟩
  unfold ai_aft
  rw [g1]
  dsimp only
  cases hP : P.1 with
  | none =>
    rw [hP] at h2
    cases r with
    | some v => exact absurd h2 (fun q => q)
    | none => exact ⟨_, rfl, g2, H.2.1, H.2.2.1, hw⟩
  | some a =>
    rw [hP] at h2
    cases r with
    | none => exact absurd h2 (fun q => q)
    | some v => exact ⟨_, rfl, g2, H.2.1, ⟨ai_trv_g hT h2, H.2.2.1⟩, hw⟩
/-- a callee's locals -/
noncomputable def ai_lay (as : List ai_V) : List ai_V := List.rec (motive := fun _ => List ai_V) [] (fun a _ ih => match a with
  | .inl (true, n) => .inl (true, n) :: .inr none :: ih
  | .inl (false, n) => .inl (false, n) :: ih
  | .inr (some v) => match ex_two v with
    | true => .inr (some v) :: .inr none :: ih
    | false => .inr (some v) :: ih
  | .inr none => []) as
noncomputable def ai_notop (as : List ai_V) : Bool := List.rec (motive := fun _ => Bool) true (fun a _ ih => match a with
  | .inr none => false
  | _ => ih) as
theorem ai_gl_cons {ρ : List Int} {a : ai_V} {x : Option Value} {as : List ai_V} {xs : List (Option Value)} (h : ai_gv ρ a x) (g : ai_gl ρ as xs) : ai_gl ρ (a :: as) (x :: xs) := by
  refine ⟨by simp [g.1], fun i b hb => ?_⟩
  cases i with
  | zero => cases hb; exact ⟨x, rfl, h⟩
  | succ i =>
    obtain ⟨y, e1, e2⟩ := g.2 i b (by simpa using hb)
    exact ⟨y, by simpa using e1, e2⟩
theorem ai_lay_g {ρ : List Int} : ∀ {as : List ai_V} {vs : List Value}, ai_notop as = true → ai_gst ρ as vs → ai_gl ρ (ai_lay as) (ex_lay vs)
  | [], [], _, _ => ⟨rfl, fun i a h => by cases h⟩
  | a :: as, v :: vs, hn, h => by
    match a, hn, h with
    | .inl (true, n), hn, h =>
      obtain ⟨i, rfl, -⟩ := h.1.long
      exact ai_gl_cons h.1 (ai_gl_cons trivial (ai_lay_g (as := as) hn h.2))
    | .inl (false, n), hn, h =>
      obtain ⟨i, rfl, -⟩ := h.1.int
      exact ai_gl_cons h.1 (ai_lay_g (as := as) hn h.2)
    | .inr (some u), hn, h =>
      obtain rfl : v = u := Option.some.inj h.1
      show ai_gl ρ (match ex_two v with
        | true => .inr (some v) :: .inr none :: ai_lay as
        | false => .inr (some v) :: ai_lay as) (match ex_two v with
        | true => some v :: none :: ex_lay vs
        | false => some v :: ex_lay vs)
      cases ex_two v with
      | true => exact ai_gl_cons h.1 (ai_gl_cons trivial (ai_lay_g (as := as) hn h.2))
      | false => exact ai_gl_cons h.1 (ai_lay_g (as := as) hn h.2)
    | .inr none, hn, h => cases hn
noncomputable def ai_ent (M : ex_M) (as : List ai_V) (S : ai_S) : ai_S := (S.1, ai_lay as ++ List.replicate (M.2.2.2.2.1 - (ai_lay as).length) (.inr none), [], S.2.2.2)
theorem ai_gl_app {ρ : List Int} {as bs : List ai_V} {xs ys : List (Option Value)} (h : ai_gl ρ as xs) (g : ai_gl ρ bs ys) : ai_gl ρ (as ++ bs) (xs ++ ys) := by
  refine ⟨by simp [h.1, g.1], fun i a ha => ?_⟩
  rw [List.getElem?_append] at ha ⊢
  rw [← h.1]
  split at ha
  · next hl => rw [if_pos hl]; exact h.2 i a ha
  · next hl => rw [if_neg hl]; exact g.2 _ a ha
theorem ai_gl_rep {ρ : List Int} (n : Nat) : ai_gl ρ (List.replicate n (.inr none)) (List.replicate n none) := by
  refine ⟨by simp, fun i a ha => ?_⟩
  rw [List.getElem?_replicate] at ha ⊢
  split at ha
  · next hl => cases ha; exact ⟨none, by rw [if_pos hl], trivial⟩
  · cases ha
/-! ranks -/
abbrev ai_D : Type := Nat ⊕ (Bool × Int × Nat)
def ai_B : Nat := 4294967296
def ai_gd (ρ : List Int) (k : Nat) : Int := match ρ[k]? with
  | some y => y
  | none => 0
def ai_dv (ρ : List Int) (d : ai_D) : Nat := match d with
  | .inl n => n
  | .inr (true, bd, k) => (bd - ai_gd ρ k).toNat
  | .inr (false, bd, k) => (ai_gd ρ k - bd).toNat
def ai_rv (ρ : List Int) : List ai_D → Nat
  | [] => 0
  | d :: ds => ai_dv ρ d * ai_B ^ ds.length + ai_rv ρ ds
noncomputable def ai_dok (e : ai_E) (d : ai_D) : Bool := match d with
  | .inl n => Nat.blt n ai_B
  | .inr (true, bd, k) => match ex_at e k with
    | some q => ai_le (bd - q.1) 4294967295
    | none => false
  | .inr (false, bd, k) => match ex_at e k with
    | some q => ai_le (q.2 - bd) 4294967295
    | none => false
theorem ai_dok_g {ρ : List Int} {e : ai_E} {d : ai_D} (he : ai_ge ρ e) (h : ai_dok e d = true) : ai_dv ρ d < ai_B := by
  match d, h with
  | .inl n, h => exact Nat.blt_eq.mp h
  | .inr (true, bd, k), h =>
    have h : (match ex_at e k with
      | some q => ai_le (bd - q.1) 4294967295
      | none => false) = true := h
    split at h
    · next q hq =>
      rw [ex_at_eq] at hq
      rw [ai_le_iff] at h
      obtain ⟨y, h1, h2, h3⟩ := he.2 k q hq
      show (bd - ai_gd ρ k).toNat < 4294967296
      unfold ai_gd
      rw [h1]
      dsimp only
      omega
    · cases h
  | .inr (false, bd, k), h =>
    have h : (match ex_at e k with
      | some q => ai_le (q.2 - bd) 4294967295
      | none => false) = true := h
    split at h
    · next q hq =>
      rw [ex_at_eq] at hq
      rw [ai_le_iff] at h
      obtain ⟨y, h1, h2, h3⟩ := he.2 k q hq
      show (ai_gd ρ k - bd).toNat < 4294967296
      unfold ai_gd
      rw [h1]
      dsimp only
      omega
    · cases h
theorem ai_rv_lt {ρ : List Int} : ∀ {ds : List ai_D}, (∀ d ∈ ds, ai_dv ρ d < ai_B) → ai_rv ρ ds < ai_B ^ ds.length
  | [], _ => Nat.zero_lt_one
  | d :: ds, h => by
    have h1 := h d List.mem_cons_self
    have h2 := ai_rv_lt (ds := ds) (fun x hx => h x (List.mem_cons_of_mem _ hx))
    show ai_dv ρ d * ai_B ^ ds.length + ai_rv ρ ds < ai_B ^ (ds.length + 1)
    have h3 : (ai_dv ρ d + 1) * ai_B ^ ds.length ≤ ai_B * ai_B ^ ds.length := Nat.mul_le_mul_right _ h1
    rw [Nat.add_mul, Nat.one_mul] at h3
    rw [Nat.pow_succ, Nat.mul_comm (ai_B ^ ds.length)]
    omega
/-- what is told of a symbol -/
noncomputable def ai_fr (k : Nat) (r : List (Nat × Int × Int)) : Option (Int × Int) := List.rec (motive := fun _ => Option (Int × Int)) none (fun q _ ih => match Nat.beq q.1 k with
  | true => some q.2
  | false => ih) r
theorem ai_fr_c (k : Nat) (q : Nat × Int × Int) (r : List (Nat × Int × Int)) : ai_fr k (q :: r) = match Nat.beq q.1 k with
  | true => some q.2
  | false => ai_fr k r := rfl
theorem ai_fr_g {k : Nat} {c : Int × Int} : ∀ {r : List (Nat × Int × Int)}, ai_fr k r = some c → (k, c.1, c.2) ∈ r
  | [], h => by cases h
  | q :: r, h => by
    rw [ai_fr_c] at h
    split at h
    · next hb =>
      cases h
      obtain ⟨q1, q2⟩ := q
      rw [show q1 = k from Nat.eq_of_beq_eq_true hb]
      exact List.mem_cons_self
    · exact List.mem_cons_of_mem _ (ai_fr_g h)
/-- the rank falls -/
noncomputable def ai_lex (T : List ai_N) (ra : List ai_D) : List ai_D → Bool := List.rec (motive := fun _ => List ai_D → Bool) (fun _ => false) (fun a _ ih rn => match rn with
  | [] => false
  | n :: rn => match a, n with
    | .inl x, .inl y => match Nat.blt y x with
      | true => true
      | false => match Nat.beq x y with
        | true => ih rn
        | false => false
    | .inr (u, bd, k), .inr (u', bd', k') => match (u == u') && decide (bd = bd') with
      | false => false
      | true => match ex_at T k' with
        | some y => match ai_fr k y.2.2 with
          | none => false
          | some c => match ai_le 0 c.1 && ai_le c.2 0 with
            | true => ih rn
            | false => match u with
              | true => ai_le 1 c.1 && ai_le y.2.1 bd
              | false => ai_le c.2 (-1) && ai_le bd y.1
        | none => false
    | .inl x, .inr (u', bd', k') => match ex_at T k' with
      | some y => match u' with
        | true => ai_le 1 (.ofNat x) && ai_le (bd' - y.1 + 1) (.ofNat x)
        | false => ai_le 1 (.ofNat x) && ai_le (y.2.1 - bd' + 1) (.ofNat x)
      | none => false
    | _, _ => false) ra
theorem ai_lex_c (T : List ai_N) (a : ai_D) (ra : List ai_D) (n : ai_D) (rn : List ai_D) : ai_lex T (a :: ra) (n :: rn) = match a, n with
    | .inl x, .inl y => match Nat.blt y x with
      | true => true
      | false => match Nat.beq x y with
        | true => ai_lex T ra rn
        | false => false
    | .inr (u, bd, k), .inr (u', bd', k') => match (u == u') && decide (bd = bd') with
      | false => false
      | true => match ex_at T k' with
        | some y => match ai_fr k y.2.2 with
          | none => false
          | some c => match ai_le 0 c.1 && ai_le c.2 0 with
            | true => ai_lex T ra rn
            | false => match u with
              | true => ai_le 1 c.1 && ai_le y.2.1 bd
              | false => ai_le c.2 (-1) && ai_le bd y.1
        | none => false
    | .inl x, .inr (u', bd', k') => match ex_at T k' with
      | some y => match u' with
        | true => ai_le 1 (.ofNat x) && ai_le (bd' - y.1 + 1) (.ofNat x)
        | false => ai_le 1 (.ofNat x) && ai_le (y.2.1 - bd' + 1) (.ofNat x)
      | none => false
    | _, _ => false := rfl
theorem ai_lex_g {ρ ρa ρn : List Int} {T : List ai_N} (hp : ρa <+: ρ) (hT : ∀ (k : Nat) (n : ai_N), T[k]? = some n → ∃ y, ρn[k]? = some y ∧ ai_gn ρ n y) : ∀ {ra rn : List ai_D}, ra.length = rn.length → (∀ d ∈ rn, ai_dv ρn d < ai_B) → (∀ d ∈ ra, ∀ u bd k, d = .inr (u, bd, k) → k < ρa.length) → ai_lex T ra rn = true → ai_rv ρn rn < ai_rv ρa ra
  | [], _, _, _, _, h => by cases h
  | _ :: _, [], _, _, _, h => by cases h
  | a :: ra, n :: rn, hl, hd, hk, h => by
    have hl' : ra.length = rn.length := by simpa using hl
    have ih := fun h => ai_lex_g hp hT hl' (fun d h => hd d (List.mem_cons_of_mem _ h)) (fun d h => hk d (List.mem_cons_of_mem _ h)) h
    have hb := ai_rv_lt (ρ := ρn) (ds := rn) (fun d h => hd d (List.mem_cons_of_mem _ h))
    have key : ai_dv ρn n < ai_dv ρa a → ai_rv ρn (n :: rn) < ai_rv ρa (a :: ra) := by
      intro hlt
      show ai_dv ρn n * ai_B ^ rn.length + ai_rv ρn rn < ai_dv ρa a * ai_B ^ ra.length + ai_rv ρa ra
      rw [hl']
      have h3 : (ai_dv ρn n + 1) * ai_B ^ rn.length ≤ ai_dv ρa a * ai_B ^ rn.length := Nat.mul_le_mul_right _ hlt
      rw [Nat.add_mul, Nat.one_mul] at h3
      omega
    have keq : ai_dv ρn n = ai_dv ρa a → ai_lex T ra rn = true → ai_rv ρn (n :: rn) < ai_rv ρa (a :: ra) := by
      intro he h
      have := ih h
      show ai_dv ρn n * ai_B ^ rn.length + ai_rv ρn rn < ai_dv ρa a * ai_B ^ ra.length + ai_rv ρa ra
      rw [hl', he]
      omega
    rw [ai_lex_c] at h
    split at h
    · next x y =>
      split at h
      · next hc => exact key (Nat.blt_eq.mp hc)
      · split at h
        · next hc => exact keq (show y = x from (Nat.eq_of_beq_eq_true hc).symm) h
        · cases h
    · next u bd k u' bd' k' =>
      split at h
      · cases h
      · next hc =>
        rw [Bool.and_eq_true] at hc
        obtain rfl : u = u' := eq_of_beq hc.1
        obtain rfl := of_decide_eq_true hc.2
        split at h
        · next yy hy =>
          split at h
          · cases h
          · next c hs =>
            rw [ex_at_eq] at hy
            obtain ⟨y, p1, p2, p3, p4⟩ := hT k' _ hy
            obtain ⟨z, q1, q2, q3⟩ := p4 _ (ai_fr_g hs)
            simp only at q1 q2 q3
            have hka := hk _ List.mem_cons_self _ _ _ rfl
            have hz : ρa[k]? = some z := by
              obtain ⟨t, rfl⟩ := hp
              rw [List.getElem?_append_left hka] at q1
              exact q1
            have e1 : ai_gd ρn k' = y := by unfold ai_gd; rw [p1]
            have e2 : ai_gd ρa k = z := by unfold ai_gd; rw [hz]
            split at h
            · next h0 =>
              rw [Bool.and_eq_true, ai_le_iff, ai_le_iff] at h0
              have : y = z := by omega
              refine keq ?_ h
              cases u <;> simp only [ai_dv, e1, e2, this]
            · split at h
              · rw [Bool.and_eq_true, ai_le_iff, ai_le_iff] at h
                refine key ?_
                simp only [ai_dv, e1, e2]
                omega
              · rw [Bool.and_eq_true, ai_le_iff, ai_le_iff] at h
                refine key ?_
                simp only [ai_dv, e1, e2]
                omega
        · cases h
    · next x u' bd' k' =>
      split at h
      · next yy hy =>
        rw [ex_at_eq] at hy
        obtain ⟨y, p1, p2, p3, -⟩ := hT k' _ hy
        have e1 : ai_gd ρn k' = y := by unfold ai_gd; rw [p1]
        have e0 : Int.ofNat x = (x : Int) := rfl
        refine key ?_
        split at h
        · rw [Bool.and_eq_true, ai_le_iff, ai_le_iff, e0] at h
          show (bd' - ai_gd ρn k').toNat < x
          rw [e1]
          omega
        · rw [Bool.and_eq_true, ai_le_iff, ai_le_iff, e0] at h
          show (ai_gd ρn k' - bd').toNat < x
          rw [e1]
          omega
      · cases h
    · cases h
