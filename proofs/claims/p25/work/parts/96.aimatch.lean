/-! A STATE HELD AGAINST A PATTERN: the pattern's symbols are the ghosts (the method's own start) and then the numbers at told places. -/
abbrev ai_L : Type := Nat ⊕ (Nat × Nat)
def cn_num (v : Value) : Option Int := match v with
  | .int i => some i.toInt
  | .long i => some i.toInt
  | _ => none
def cn_look (lo : ex_L) (w : ex_W) (L : ai_L) : Option Int := match L with
  | .inl i => match lo[i]? with
    | some (some v) => cn_num v
    | _ => none
  | .inr (p, k) => match w[p]? with
    | some (.inl (_, l)) => match l[k]? with
      | some x => some x.toInt
      | none => none
    | some (.inr (.inr (_, fs))) => match fs[k]? with
      | some v => cn_num v
      | none => none
    | _ => none
theorem cn_nz {b : Bool} {v : Value} {z : Int} (h : ai_nz b v = some z) : cn_num v = some z := by
  cases b with
  | false => obtain ⟨i, rfl, rfl⟩ := ai_nzI h; rfl
  | true => obtain ⟨i, rfl, rfl⟩ := ai_nzL h; rfl
noncomputable def ai_look (S : ai_S) (L : ai_L) : Option ai_N := match L with
  | .inl i => match ex_at S.2.1 i with
    | some (.inl q) => some q.2
    | _ => none
  | .inr (p, k) => match ex_at S.2.2.2 p with
    | some (_, some (.inr (.inr (_, vs)))) => match ex_at vs k with
      | some (.inl q) => some q.2
      | _ => none
    | some (_, some (.inl (_, s))) => match Nat.blt k (ai_sn s) with
      | true => ai_s1 s k
      | false => none
    | _ => none
section AIM
variable {ρ ρ0 : List Int} {w0 w : ex_W} {S : ai_S} {lo : ex_L} {st : List Value}
theorem ai_look_g {L : ai_L} {n : ai_N} (h : ai_look S L = some n) (H : ai_g ρ w0 S lo st w) : ∃ z, cn_look lo w L = some z ∧ ai_gn ρ n z := by
  unfold ai_look at h
  split at h
  · next i =>
    split at h
    · next q hq =>
      cases h
      rw [ex_at_eq] at hq
      obtain ⟨x, h1, h2⟩ := H.2.1.2 i _ hq
      obtain ⟨v, z, rfl, h3, h4⟩ := h2
      refine ⟨z, ?_, h4⟩
      unfold cn_look
      dsimp only
      rw [h1]
      exact cn_nz h3
    · cases h
  · next p k =>
    split at h
    · next ch c vs hc =>
      split at h
      · next q hq =>
        cases h
        obtain ⟨x, g1, g2, g3⟩ := ai_cell H hc
        obtain ⟨fs, rfl, g4⟩ := g2.obj
        obtain ⟨v, f1, f2⟩ := ai_fld g4 hq
        obtain ⟨v', z, e1, e2, e3⟩ := f2
        cases e1
        refine ⟨z, ?_, e3⟩
        unfold cn_look
        dsimp only
        rw [g1]
        dsimp only
        rw [f1]
        exact cn_nz e2
      · cases h
    · next ch ty s hc =>
      split at h
      · next hb =>
        have hb := Nat.blt_eq.mp hb
        obtain ⟨x, g1, g2, g3⟩ := ai_cell H hc
        obtain ⟨l, rfl, g4⟩ := g2.arr
        rw [← g4.len] at hb
        have hx := List.getElem?_eq_getElem hb
        refine ⟨(l[k]).toInt, ?_, ai_s1_g g4 hx h⟩
        unfold cn_look
        dsimp only
        rw [g1]
        dsimp only
        rw [hx]
      · cases h
    · cases h
/-- the numbers that the pattern's symbols stand for -/
noncomputable def ai_Tg (e : ai_E) (g : Nat) : List ai_N := Nat.rec (motive := fun _ => List ai_N) [] (fun k ih => match ex_at e k with
  | some q => ih ++ [(q.1, q.2, [(k, 0, 0)])]
  | none => ih ++ [(1, 0, [])]) g
noncomputable def ai_Tl (S : ai_S) (ls : List ai_L) : Option (List ai_N) := List.rec (motive := fun _ => Option (List ai_N)) (some []) (fun L _ ih => match ai_look S L, ih with
  | some n, some t => some (ai_eff S.1 n :: t)
  | _, _ => none) ls
def cn_at (lo : ex_L) (w : ex_W) (L : ai_L) : Int := match cn_look lo w L with
  | some z => z
  | none => 0
def cn_rho (ρ0 : List Int) (lo : ex_L) (w : ex_W) (ls : List ai_L) : List Int := ρ0 ++ ls.map (cn_at lo w)
theorem ai_Tg_len (e : ai_E) (g : Nat) : (ai_Tg e g).length = g := by
  induction g with
  | zero => rfl
  | succ g ih =>
    show (match ex_at e g with
      | some q => ai_Tg e g ++ [(q.1, q.2, [(g, 0, 0)])]
      | none => ai_Tg e g ++ [(1, 0, [])]).length = g + 1
    split <;> simp [ih]
theorem ai_Tg_g {e : ai_E} (he : ai_ge ρ e) (hp : ρ0 <+: ρ) : ∀ (g : Nat), g ≤ ρ0.length → ∀ (k : Nat) (n : ai_N), (ai_Tg e g)[k]? = some n → ∃ y, ρ0[k]? = some y ∧ ai_gn ρ n y := by
  intro g
  induction g with
  | zero => intro _ k n h; cases h
  | succ g ih =>
    intro hg k n h
    have h : (match ex_at e g with
      | some q => ai_Tg e g ++ [(q.1, q.2, [(g, 0, 0)])]
      | none => ai_Tg e g ++ [(1, 0, [])])[k]? = some n := h
    obtain ⟨t, rfl⟩ := hp
    have hl : g < (ρ0 ++ t).length := by rw [List.length_append]; omega
    have hq : ∃ q, e[g]? = some q := ⟨e[g]'(by rw [← he.1]; exact hl), List.getElem?_eq_getElem _⟩
    obtain ⟨q, hq⟩ := hq
    rw [show ex_at e g = some q by rw [ex_at_eq]; exact hq] at h
    dsimp only at h
    rw [List.getElem?_append] at h
    split at h
    · exact ih (by omega) k n h
    · next hk =>
      rw [ai_Tg_len] at h hk
      cases hd : k - g with
      | zero =>
        rw [hd] at h
        cases h
        obtain rfl : k = g := by omega
        obtain ⟨y, h1, h2, h3⟩ := he.2 k q hq
        have h4 : ρ0[k]? = some y := by
          rw [← h1, List.getElem?_append_left (by omega)]
        refine ⟨y, h4, h2, h3, fun q' hq' => ?_⟩
        obtain rfl := List.mem_singleton.mp hq'
        exact ⟨y, h1, by simp, by simp⟩
      | succ j => rw [hd] at h; cases h
theorem ai_Tl_g (H : ai_g ρ w0 S lo st w) : ∀ {ls : List ai_L} {t : List ai_N}, ai_Tl S ls = some t → t.length = ls.length ∧ ∀ (k : Nat) (n : ai_N), t[k]? = some n → ∃ y, (ls.map (cn_at lo w))[k]? = some y ∧ ai_gn ρ n y
  | [], t, h => by cases h; exact ⟨rfl, fun k n hk => by cases hk⟩
  | L :: ls, t, h => by
    have h : (match ai_look S L, ai_Tl S ls with
      | some n, some t => some (ai_eff S.1 n :: t)
      | _, _ => none) = some t := h
    split at h
    · next n t' h1 h2 =>
      cases h
      obtain ⟨q1, q2⟩ := ai_Tl_g H h2
      refine ⟨by simp [q1], fun k n' hk => ?_⟩
      cases k with
      | zero =>
        cases hk
        obtain ⟨z, e1, e2⟩ := ai_look_g h1 H
        refine ⟨z, ?_, ai_eff_g H.1 e2⟩
        simp [cn_at, e1]
      | succ k =>
        obtain ⟨y, e1, e2⟩ := q2 k n' (by simpa using hk)
        exact ⟨y, by simpa using e1, e2⟩
    · cases h
noncomputable def ai_T (g : Nat) (S : ai_S) (ls : List ai_L) : Option (List ai_N) := match ai_Tl S ls with
  | some t => some (ai_Tg S.1 g ++ t)
  | none => none
theorem ai_T_g {ls : List ai_L} {T : List ai_N} (hp : ρ0 <+: ρ) (H : ai_g ρ w0 S lo st w) (h : ai_T ρ0.length S ls = some T) : T.length = (cn_rho ρ0 lo w ls).length ∧ ∀ (k : Nat) (n : ai_N), T[k]? = some n → ∃ y, (cn_rho ρ0 lo w ls)[k]? = some y ∧ ai_gn ρ n y := by
  unfold ai_T at h
  split at h
  · next t ht =>
    cases h
    obtain ⟨q1, q2⟩ := ai_Tl_g H ht
    refine ⟨by simp [cn_rho, ai_Tg_len, q1], fun k n hk => ?_⟩
    unfold cn_rho
    rw [List.getElem?_append] at hk ⊢
    rw [ai_Tg_len] at hk
    split at hk
    · next hl =>
      rw [if_pos hl]
      exact ai_Tg_g H.1 hp _ (Nat.le_refl _) k n hk
    · next hl =>
      rw [if_neg hl]
      exact q2 _ n hk
  · cases h
noncomputable def ai_leq (a b : ai_L) : Bool := match a, b with
  | .inl i, .inl j => Nat.beq i j
  | .inr p, .inr q => Nat.beq p.1 q.1 && Nat.beq p.2 q.2
  | _, _ => false
theorem ai_leq_of {a b : ai_L} (h : ai_leq a b = true) : a = b := by
  unfold ai_leq at h
  split at h
  · rw [Nat.eq_of_beq_eq_true h]
  · next p q =>
    rw [Bool.and_eq_true] at h
    obtain ⟨p1, p2⟩ := p
    obtain ⟨q1, q2⟩ := q
    rw [show p1 = q1 from Nat.eq_of_beq_eq_true h.1, show p2 = q2 from Nat.eq_of_beq_eq_true h.2]
  · cases h
/-- x lies between a and b behind y -/
noncomputable def ai_bt (x y : ai_N) (a b : Int) : Bool := match ai_df x y with
  | some q => (ai_le a (x.1 - y.2.1) || ai_le a q.1) && (ai_le (x.2.1 - y.1) b || ai_le q.2 b)
  | none => ai_le a (x.1 - y.2.1) && ai_le (x.2.1 - y.1) b
theorem ai_bt_g {x y : ai_N} {u v a b : Int} (hx : ai_gn ρ x u) (hy : ai_gn ρ y v) (h : ai_bt x y a b = true) : a ≤ u - v ∧ u - v ≤ b := by
  unfold ai_bt at h
  have := hx.1; have := hx.2.1; have := hy.1; have := hy.2.1
  split at h
  · next q hq =>
    rw [Bool.and_eq_true, Bool.or_eq_true, Bool.or_eq_true, ai_le_iff, ai_le_iff, ai_le_iff, ai_le_iff] at h
    have := ai_df_g hx hy hq
    omega
  · rw [Bool.and_eq_true, ai_le_iff, ai_le_iff] at h
    omega
/-- the pattern's number holds the state's (L: where it lies) -/
noncomputable def ai_sbr (g : Nat) (ls : List ai_L) (T : List ai_N) (L : Option ai_L) (x : ai_N) (r : List (Nat × Int × Int)) : Bool := List.rec (motive := fun _ => Bool) true (fun q _ ih => match (match L with
      | some L => Nat.ble g q.1 && (match ex_at ls (q.1 - g) with
        | some L' => ai_leq L L' && (ai_le q.2.1 0 && ai_le 0 q.2.2)
        | none => false)
      | none => false) || (match ex_at T q.1 with
      | some y => ai_bt x y q.2.1 q.2.2
      | none => false) with
  | true => ih
  | false => false) r
theorem ai_sbr_c (g : Nat) (ls : List ai_L) (T : List ai_N) (L : Option ai_L) (x : ai_N) (q : Nat × Int × Int) (r : List (Nat × Int × Int)) : ai_sbr g ls T L x (q :: r) = match (match L with
      | some L => Nat.ble g q.1 && (match ex_at ls (q.1 - g) with
        | some L' => ai_leq L L' && (ai_le q.2.1 0 && ai_le 0 q.2.2)
        | none => false)
      | none => false) || (match ex_at T q.1 with
      | some y => ai_bt x y q.2.1 q.2.2
      | none => false) with
  | true => ai_sbr g ls T L x r
  | false => false := rfl
noncomputable def ai_sb1 (g : Nat) (ls : List ai_L) (T : List ai_N) (L : Option ai_L) (x t : ai_N) : Bool := ai_le t.1 x.1 && (ai_le x.2.1 t.2.1 && ai_sbr g ls T L x t.2.2)
theorem ai_sbr_g {ls : List ai_L} {T : List ai_N} {L : Option ai_L} {x : ai_N} {z : Int} (hT : ∀ (k : Nat) (n : ai_N), T[k]? = some n → ∃ y, (cn_rho ρ0 lo w ls)[k]? = some y ∧ ai_gn ρ n y) (hL : ∀ L', L = some L' → cn_look lo w L' = some z) (hx : ai_gn ρ x z) : ∀ {r : List (Nat × Int × Int)}, ai_sbr ρ0.length ls T L x r = true → ai_gr (cn_rho ρ0 lo w ls) r z
  | [], _ => ai_gr.no
  | q :: r, h => by
    rw [ai_sbr_c] at h
    split at h
    · next h3 =>
      have ih := ai_sbr_g hT hL hx h
      intro q' hq'
      rcases List.mem_cons.mp hq' with rfl | hq'
      · rw [Bool.or_eq_true] at h3
        rcases h3 with h3 | h3
        · split at h3
          · next L' =>
            rw [Bool.and_eq_true] at h3
            obtain ⟨c1, c2⟩ := h3
            have c1 := Nat.le_of_ble_eq_true c1
            split at c2
            · next L'' hl =>
              rw [Bool.and_eq_true, Bool.and_eq_true, ai_le_iff, ai_le_iff] at c2
              obtain ⟨d1, d2, d3⟩ := c2
              obtain rfl := ai_leq_of d1
              have e := hL L' rfl
              refine ⟨z, ?_, by omega, by omega⟩
              unfold cn_rho
              rw [List.getElem?_append_right c1, List.getElem?_map]
              rw [ex_at_eq] at hl
              rw [hl]
              simp [cn_at, e]
            · cases c2
          · cases h3
        · split at h3
          · next y hy =>
            rw [ex_at_eq] at hy
            obtain ⟨v, e1, e2⟩ := hT _ y hy
            exact ⟨v, e1, ai_bt_g hx e2 h3⟩
          · cases h3
      · exact ih q' hq'
    · cases h
theorem ai_sb1_g {ls : List ai_L} {T : List ai_N} {L : Option ai_L} {x t : ai_N} {z : Int} (hT : ∀ (k : Nat) (n : ai_N), T[k]? = some n → ∃ y, (cn_rho ρ0 lo w ls)[k]? = some y ∧ ai_gn ρ n y) (hL : ∀ L', L = some L' → cn_look lo w L' = some z) (hx : ai_gn ρ x z) (h : ai_sb1 ρ0.length ls T L x t = true) : ai_gn (cn_rho ρ0 lo w ls) t z := by
  unfold ai_sb1 at h
  rw [Bool.and_eq_true, Bool.and_eq_true, ai_le_iff, ai_le_iff] at h
  obtain ⟨h1, h2, h3⟩ := h
  have hx1 := hx.1; have hx2 := hx.2.1
  exact ⟨by omega, by omega, ai_sbr_g hT hL hx h3⟩
noncomputable def ai_veq (a b : Value) : Bool := match a, b with
  | .ref x, .ref y => Nat.beq x y
  | .retAddr x, .retAddr y => Nat.beq x y
  | .null, .null => true
  | _, _ => false
theorem ai_veq_of {a b : Value} (h : ai_veq a b = true) : a = b := by
  unfold ai_veq at h
  split at h
  · rw [show _ = _ from Nat.eq_of_beq_eq_true h]
  · rw [show _ = _ from Nat.eq_of_beq_eq_true h]
  · rfl
  · cases h
noncomputable def ai_sbv (g : Nat) (ls : List ai_L) (T : List ai_N) (e : ai_E) (L : Option ai_L) (x t : ai_V) : Bool := match t with
  | .inr none => true
  | .inr (some v) => match x with
    | .inr (some u) => ai_veq u v
    | _ => false
  | .inl (b, n) => match x with
    | .inl (b', m) => match b, b' with
      | true, true => ai_sb1 g ls T L (ai_eff e m) n
      | false, false => ai_sb1 g ls T L (ai_eff e m) n
      | _, _ => false
    | _ => false
theorem ai_sbv_g {ls : List ai_L} {T : List ai_N} {L : Option ai_L} {x t : ai_V} {v : Option Value} {e : ai_E} (he : ai_ge ρ e) (hT : ∀ (k : Nat) (n : ai_N), T[k]? = some n → ∃ y, (cn_rho ρ0 lo w ls)[k]? = some y ∧ ai_gn ρ n y) (hL : ∀ L' u z, L = some L' → v = some u → cn_num u = some z → cn_look lo w L' = some z) (hx : ai_gv ρ x v) (h : ai_sbv ρ0.length ls T e L x t = true) : ai_gv (cn_rho ρ0 lo w ls) t v := by
  unfold ai_sbv at h
  split at h
  · trivial
  · split at h
    · next u =>
      obtain rfl := ai_veq_of h
      exact hx
    · cases h
  · split at h
    · next b' m =>
      obtain ⟨u, z, rfl, h2, h3⟩ := hx
      have h4 := ai_eff_g he h3
      split at h
      · exact ⟨u, z, rfl, h2, ai_sb1_g hT (fun L' q => hL L' u z q rfl (cn_nz h2)) h4 h⟩
      · exact ⟨u, z, rfl, h2, ai_sb1_g hT (fun L' q => hL L' u z q rfl (cn_nz h2)) h4 h⟩
      · cases h
    · cases h
/-- lists, place by place -/
noncomputable def ai_sbl (f : Nat → ai_V → ai_V → Bool) (as : List ai_V) : List ai_V → Nat → Bool := List.rec (motive := fun _ => List ai_V → Nat → Bool) (fun ts _ => match ts with
  | [] => true
  | _ => false) (fun a _ ih ts i => match ts with
  | [] => false
  | t :: ts => match f i a t with
    | true => ih ts (i + 1)
    | false => false) as
theorem ai_sbl_c (f : Nat → ai_V → ai_V → Bool) (a : ai_V) (as : List ai_V) (t : ai_V) (ts : List ai_V) (i : Nat) : ai_sbl f (a :: as) (t :: ts) i = match f i a t with
    | true => ai_sbl f as ts (i + 1)
    | false => false := rfl
theorem ai_sbl_g {f : Nat → ai_V → ai_V → Bool} : ∀ {as ts : List ai_V} {i : Nat}, ai_sbl f as ts i = true → as.length = ts.length ∧ ∀ (j : Nat) (t : ai_V), ts[j]? = some t → ∃ a, as[j]? = some a ∧ f (i + j) a t = true
  | [], [], i, _ => ⟨rfl, fun j t h => by cases h⟩
  | [], _ :: _, i, h => by cases h
  | _ :: _, [], i, h => by cases h
  | a :: as, t :: ts, i, h => by
    rw [ai_sbl_c] at h
    split at h
    · next hf =>
      obtain ⟨h1, h2⟩ := ai_sbl_g h
      refine ⟨by simp [h1], fun j t' hj => ?_⟩
      cases j with
      | zero => cases hj; exact ⟨a, rfl, hf⟩
      | succ j =>
        obtain ⟨a', e1, e2⟩ := h2 j t' (by simpa using hj)
        exact ⟨a', by simpa using e1, by rw [show i + (j + 1) = i + 1 + j by omega]; exact e2⟩
    · cases h
noncomputable def ai_k1 (n i : Nat) : Nat := match Nat.beq n 1 with
  | true => i + 1
  | false => 0
noncomputable def ai_sbs (f : Nat → ai_N → ai_N → Bool) (n : Nat) : List (Nat × ai_N) → List (Nat × ai_N) → Nat → Bool := Nat.rec (motive := fun _ => List (Nat × ai_N) → List (Nat × ai_N) → Nat → Bool) (fun _ _ _ => false) (fun _ ih s ts i => match s, ts with
  | [], [] => true
  | q :: s, t :: ts => match Nat.beq q.1 t.1 with
    | true => match f (ai_k1 q.1 i) q.2 t.2 with
      | true => ih s ts (i + q.1)
      | false => false
    | false => match Nat.blt t.1 q.1 with
      | true => match f (ai_k1 t.1 i) q.2 t.2 with
        | true => ih ((q.1 - t.1, q.2) :: s) ts (i + t.1)
        | false => false
      | false => match f (ai_k1 q.1 i) q.2 t.2 with
        | true => ih s ((t.1 - q.1, t.2) :: ts) (i + q.1)
        | false => false
  | _, _ => false) n
theorem ai_sbs_c (f : Nat → ai_N → ai_N → Bool) (n : Nat) (s ts : List (Nat × ai_N)) (i : Nat) : ai_sbs f (n + 1) s ts i = match s, ts with
  | [], [] => true
  | q :: s, t :: ts => match Nat.beq q.1 t.1 with
    | true => match f (ai_k1 q.1 i) q.2 t.2 with
      | true => ai_sbs f n s ts (i + q.1)
      | false => false
    | false => match Nat.blt t.1 q.1 with
      | true => match f (ai_k1 t.1 i) q.2 t.2 with
        | true => ai_sbs f n ((q.1 - t.1, q.2) :: s) ts (i + t.1)
        | false => false
      | false => match f (ai_k1 q.1 i) q.2 t.2 with
        | true => ai_sbs f n s ((t.1 - q.1, t.2) :: ts) (i + q.1)
        | false => false
  | _, _ => false := rfl
theorem ai_k1_g {n i j : Nat} {L l : List Int32} {x : Int32} (hl : l = L.drop i) (hj : ai_k1 n i = j + 1) (hx : x ∈ l.take n) : L[j]? = some x := by
  unfold ai_k1 at hj
  split at hj
  · next h1 =>
    have h1 : n = 1 := Nat.eq_of_beq_eq_true h1
    obtain rfl : i = j := by omega
    rw [h1] at hx
    cases l with
    | nil => simp at hx
    | cons y l =>
      simp at hx
      subst hx
      have := congrArg (fun l => l[0]?) hl
      simp only [List.getElem?_drop, List.getElem?_cons_zero] at this
      simpa using this.symm
  · omega
theorem ai_tk {l : List Int32} {a b : Nat} (h : a ≤ b) {x : Int32} (hx : x ∈ l.take a) : x ∈ l.take b := by
  have e : (l.take b).take a = l.take a := by rw [List.take_take, Nat.min_eq_left h]
  rw [← e] at hx
  exact List.mem_of_mem_take hx
theorem ai_dk {l : List Int32} {a b : Nat} (h : a ≤ b) {x : Int32} (hx : x ∈ (l.drop a).take (b - a)) : x ∈ l.take b := by
  have e : (l.take b).drop a = (l.drop a).take (b - a) := by rw [List.drop_take]
  rw [← e] at hx
  exact List.mem_of_mem_drop hx
theorem ai_sbs_g {ρ' : List Int} {f : Nat → ai_N → ai_N → Bool} {L : List Int32} (hf : ∀ (k : Nat) (a t : ai_N) (x : Int32), f k a t = true → ai_gn ρ a x.toInt → (∀ j, k = j + 1 → L[j]? = some x) → ai_gn ρ' t x.toInt) : ∀ (n : Nat) {s ts : List (Nat × ai_N)} {i : Nat} {l : List Int32}, l = L.drop i → ai_gs ρ s l → ai_sbs f n s ts i = true → ai_gs ρ' ts l := by
  intro n
  induction n with
  | zero => intro s ts i l _ _ h; cases h
  | succ n ih =>
    intro s ts i l hl h h2
    rw [ai_sbs_c] at h2
    split at h2
    · exact h
    · next q s t ts =>
      obtain ⟨g1, g2, g3⟩ := h
      split at h2
      · next hb =>
        have e : q.1 = t.1 := Nat.eq_of_beq_eq_true hb
        split at h2
        · next hff =>
          refine ⟨by omega, fun x hx => ?_, ?_⟩
          · rw [← e] at hx
            exact hf _ _ _ x hff (g2 x hx) (fun j hj => ai_k1_g hl hj hx)
          · rw [← e]
            exact ih (by rw [hl, List.drop_drop]) g3 h2
        · cases h2
      · split at h2
        · next hb =>
          have hb := Nat.blt_eq.mp hb
          split at h2
          · next hff =>
            refine ⟨by omega, fun x hx => hf _ _ _ x hff (g2 x (ai_tk (by omega) hx)) (fun j hj => ai_k1_g hl hj hx), ?_⟩
            refine ih (s := (q.1 - t.1, q.2) :: s) (i := i + t.1) (by rw [hl, List.drop_drop]) ⟨by rw [List.length_drop]; show q.1 - t.1 ≤ _; omega, fun x hx => g2 x (ai_dk (by omega) hx), ?_⟩ h2
            rw [List.drop_drop]
            show ai_gs ρ s (l.drop (t.1 + (q.1 - t.1)))
            rw [show t.1 + (q.1 - t.1) = q.1 by omega]
            exact g3
          · cases h2
        · next hb hb2 =>
          have hb1 : ¬ t.1 < q.1 := fun h => by rw [Nat.blt_eq.mpr h] at hb2; cases hb2
          split at h2
          · next hff =>
            have h3 := ih (ts := (t.1 - q.1, t.2) :: ts) (i := i + q.1) (by rw [hl, List.drop_drop]) g3 h2
            obtain ⟨k1, k2, k3⟩ := h3
            have k1 : t.1 - q.1 ≤ (l.drop q.1).length := k1
            rw [List.length_drop] at k1
            refine ⟨by omega, fun x hx => ?_, ?_⟩
            · have e : l.take t.1 = l.take q.1 ++ (l.drop q.1).take (t.1 - q.1) := by
                rw [← List.take_append_drop q.1 (l.take t.1), List.take_take, List.drop_take, Nat.min_eq_left (by omega)]
              rw [e] at hx
              rcases List.mem_append.mp hx with hx | hx
              · exact hf _ _ _ x hff (g2 x hx) (fun j hj => ai_k1_g hl hj hx)
              · exact k2 x hx
            · have k3 : ai_gs ρ' ts ((l.drop q.1).drop (t.1 - q.1)) := k3
              rw [List.drop_drop, show q.1 + (t.1 - q.1) = t.1 by omega] at k3
              exact k3
          · cases h2
    · cases h2
noncomputable def ai_sbc (g : Nat) (ls : List ai_L) (T : List ai_N) (e : ai_E) (p : Nat) (c t : ai_C) : Bool := match c, t with
  | .inl (ty, s), .inl (ty', ts) => match decide (ty = ty') with
    | true => ai_sbs (fun k a t => ai_sb1 g ls T (match k with
        | 0 => none
        | j + 1 => some (.inr (p, j))) (ai_eff e a) t) (s.length + ts.length + 1) s ts 0
    | false => false
  | .inr (.inl q), .inr (.inl q') => decide (q = q')
  | .inr (.inr (c, vs)), .inr (.inr (c', ts)) => match Nat.beq c c' with
    | true => ai_sbl (fun k a t => ai_sbv g ls T e (some (.inr (p, k))) a t) vs ts 0
    | false => false
  | _, _ => false
theorem ai_sbc_g {ls : List ai_L} {T : List ai_N} {e : ai_E} {p : Nat} {c t : ai_C} {x : ex_E} (he : ai_ge ρ e) (hT : ∀ (k : Nat) (n : ai_N), T[k]? = some n → ∃ y, (cn_rho ρ0 lo w ls)[k]? = some y ∧ ai_gn ρ n y) (hx : w[p]? = some x) (hc : ai_gc ρ c x) (h : ai_sbc ρ0.length ls T e p c t = true) : ai_gc (cn_rho ρ0 lo w ls) t x := by
  unfold ai_sbc at h
  split at h
  · next ty s ty' ts =>
    obtain ⟨l, rfl, g4⟩ := hc.arr
    split at h
    · next hb =>
      obtain rfl := of_decide_eq_true hb
      refine ⟨rfl, ai_sbs_g (L := l) (fun k a t y h1 h2 h3 => ?_) _ (i := 0) (by simp) g4 h⟩
      refine ai_sb1_g hT ?_ (ai_eff_g he h2) h1
      intro L' hL'
      cases k with
      | zero => cases hL'
      | succ j =>
        cases hL'
        unfold cn_look
        dsimp only
        rw [hx]
        dsimp only
        rw [h3 j rfl]
    · cases h
  · next q q' =>
    obtain rfl := hc.row
    have e : q = q' := of_decide_eq_true h
    exact e.symm
  · next c vs c' ts =>
    obtain ⟨fs, rfl, g4⟩ := hc.obj
    split at h
    · next hb =>
      obtain rfl : c = c' := Nat.eq_of_beq_eq_true hb
      obtain ⟨h1, h2⟩ := ai_sbl_g h
      refine ⟨rfl, by rw [← h1]; exact g4.1, fun i a ha => ?_⟩
      obtain ⟨b, e1, e2⟩ := h2 i a ha
      obtain ⟨y, e3, e4⟩ := g4.2 i b e1
      refine ⟨y, e3, ai_sbv_g he hT ?_ e4 e2⟩
      intro L' u z q1 q2 q3
      cases q1
      subst q2
      unfold cn_look
      dsimp only
      rw [hx]
      dsimp only
      rw [List.getElem?_map] at e3
      rw [Nat.zero_add]
      cases hf : fs[i]? with
      | none => rw [hf] at e3; cases e3
      | some v => rw [hf] at e3; cases e3; exact q3
    · cases h
  · cases h
/-- the cells: fl: whether the pattern's unchanged ones must be -/
noncomputable def ai_sbw (fl : Bool) (f : Nat → ai_C → ai_C → Bool) (W : ai_W) : ai_W → Nat → Bool := List.rec (motive := fun _ => ai_W → Nat → Bool) (fun ts _ => match ts with
  | [] => true
  | _ => false) (fun q _ ih ts p => match ts with
  | [] => false
  | t :: ts => match (fl && (q.1 && !t.1)) with
    | true => false
    | false => match t.2 with
      | none => ih ts (p + 1)
      | some c => match q.2 with
        | none => false
        | some c' => match f p c' c with
          | true => ih ts (p + 1)
          | false => false) W
theorem ai_sbw_c (fl : Bool) (f : Nat → ai_C → ai_C → Bool) (q : Bool × Option ai_C) (W : ai_W) (t : Bool × Option ai_C) (ts : ai_W) (p : Nat) : ai_sbw fl f (q :: W) (t :: ts) p = match (fl && (q.1 && !t.1)) with
    | true => false
    | false => match t.2 with
      | none => ai_sbw fl f W ts (p + 1)
      | some c => match q.2 with
        | none => false
        | some c' => match f p c' c with
          | true => ai_sbw fl f W ts (p + 1)
          | false => false := rfl
theorem ai_sbw_g {fl : Bool} {f : Nat → ai_C → ai_C → Bool} : ∀ {W ts : ai_W} {p : Nat}, ai_sbw fl f W ts p = true → W.length = ts.length ∧ ∀ (j : Nat) (t : Bool × Option ai_C), ts[j]? = some t → ∃ q, W[j]? = some q ∧ (fl = true → t.1 = false → q.1 = false) ∧ ∀ c, t.2 = some c → ∃ c', q.2 = some c' ∧ f (p + j) c' c = true
  | [], [], p, _ => ⟨rfl, fun j t h => by cases h⟩
  | [], _ :: _, p, h => by cases h
  | _ :: _, [], p, h => by cases h
  | q :: W, t :: ts, p, h => by
    rw [ai_sbw_c] at h
    split at h
    · cases h
    · next hb =>
      have hfl : fl = true → t.1 = false → q.1 = false := by
        intro e1 e2
        rw [e1, e2] at hb
        simpa using hb
      have K : ai_sbw fl f W ts (p + 1) = true ∧ ∀ c, t.2 = some c → ∃ c', q.2 = some c' ∧ f p c' c = true := by
        split at h
        · next ht => exact ⟨h, fun c hc => by rw [ht] at hc; cases hc⟩
        · next c hc =>
          split at h
          · cases h
          · next c' hc' =>
            split at h
            · next hf => exact ⟨h, fun c0 h0 => by rw [hc] at h0; cases h0; exact ⟨c', hc', hf⟩⟩
            · cases h
      obtain ⟨h1, h2⟩ := ai_sbw_g K.1
      refine ⟨by simp [h1], fun j t' hj => ?_⟩
      cases j with
      | zero => cases hj; exact ⟨q, rfl, hfl, K.2⟩
      | succ j =>
        obtain ⟨q', e1, e2, e3⟩ := h2 j t' (by simpa using hj)
        refine ⟨q', by simpa using e1, e2, fun c hc => ?_⟩
        obtain ⟨c', e4, e5⟩ := e3 c hc
        exact ⟨c', e4, by rw [show p + (j + 1) = p + 1 + j by omega]; exact e5⟩
/-- what the symbols are known to be -/
noncomputable def ai_sbe (T : List ai_N) : ai_E → Bool := List.rec (motive := fun _ => ai_E → Bool) (fun e => match e with
  | [] => true
  | _ => false) (fun n _ ih e => match e with
  | [] => false
  | q :: e => match ai_le q.1 n.1 && ai_le n.2.1 q.2 with
    | true => ih e
    | false => false) T
theorem ai_sbe_c (n : ai_N) (T : List ai_N) (q : Int × Int) (e : ai_E) : ai_sbe (n :: T) (q :: e) = match ai_le q.1 n.1 && ai_le n.2.1 q.2 with
    | true => ai_sbe T e
    | false => false := rfl
theorem ai_sbe_g : ∀ {T : List ai_N} {e : ai_E}, ai_sbe T e = true → T.length = e.length ∧ ∀ (k : Nat) (q : Int × Int), e[k]? = some q → ∃ n, T[k]? = some n ∧ q.1 ≤ n.1 ∧ n.2.1 ≤ q.2
  | [], [], _ => ⟨rfl, fun k q h => by cases h⟩
  | [], _ :: _, h => by cases h
  | _ :: _, [], h => by cases h
  | n :: T, q :: e, h => by
    rw [ai_sbe_c] at h
    split at h
    · next hb =>
      rw [Bool.and_eq_true, ai_le_iff, ai_le_iff] at hb
      obtain ⟨h1, h2⟩ := ai_sbe_g h
      refine ⟨by simp [h1], fun k q' hk => ?_⟩
      cases k with
      | zero => cases hk; exact ⟨n, rfl, hb.1, hb.2⟩
      | succ k =>
        obtain ⟨n', e1, e2⟩ := h2 k q' (by simpa using hk)
        exact ⟨n', by simpa using e1, e2⟩
    · cases h
/-- the whole state -/
noncomputable def ai_sbS (fl : Bool) (g : Nat) (ls : List ai_L) (T : List ai_N) (S P : ai_S) : Bool := match ai_sbe T P.1 with
  | false => false
  | true => match ai_sbl (fun i a t => ai_sbv g ls T S.1 (some (.inl i)) a t) S.2.1 P.2.1 0 with
    | false => false
    | true => match ai_sbl (fun _ a t => ai_sbv g ls T S.1 none a t) S.2.2.1 P.2.2.1 0 with
      | false => false
      | true => ai_sbw fl (ai_sbc g ls T S.1) S.2.2.2 P.2.2.2 0
theorem ai_gst_of {ρ' : List Int} : ∀ {ts : List ai_V} {vs : List Value}, ts.length = vs.length → (∀ (j : Nat) (t : ai_V), ts[j]? = some t → ∃ v, vs[j]? = some v ∧ ai_gv ρ' t (some v)) → ai_gst ρ' ts vs
  | [], [], _, _ => trivial
  | [], _ :: _, h, _ => by cases h
  | _ :: _, [], h, _ => by cases h
  | t :: ts, v :: vs, h, h2 => by
    refine ⟨?_, ai_gst_of (by simpa using h) fun j t' hj => ?_⟩
    · obtain ⟨v', e1, e2⟩ := h2 0 t rfl
      cases e1
      exact e2
    · obtain ⟨v', e1, e2⟩ := h2 (j + 1) t' (by simpa using hj)
      exact ⟨v', by simpa using e1, e2⟩
theorem ai_gst_at : ∀ {as : List ai_V} {vs : List Value}, ai_gst ρ as vs → ∀ (j : Nat) (a : ai_V), as[j]? = some a → ∃ v, vs[j]? = some v ∧ ai_gv ρ a (some v)
  | [], [], _, j, a, h => by cases h
  | a :: as, v :: vs, h, j, a', hj => by
    cases j with
    | zero => cases hj; exact ⟨v, rfl, h.1⟩
    | succ j =>
      obtain ⟨v', e1, e2⟩ := ai_gst_at h.2 j a' (by simpa using hj)
      exact ⟨v', by simpa using e1, e2⟩
theorem ai_sbS_g {fl : Bool} {ls : List ai_L} {T : List ai_N} {P : ai_S} {w1 : ex_W} (hp : ρ0 <+: ρ) (H : ai_g ρ w0 S lo st w) (hT : ai_T ρ0.length S ls = some T) (h : ai_sbS fl ρ0.length ls T S P = true) (hw1 : (fl = true ∧ w1 = w0) ∨ w1 = w) : ai_g (cn_rho ρ0 lo w ls) w1 P lo st w := by
  obtain ⟨t1, t2⟩ := ai_T_g hp H hT
  unfold ai_sbS at h
  split at h
  · cases h
  · next he =>
    split at h
    · cases h
    · next hl =>
      split at h
      · cases h
      · next hs =>
        obtain ⟨e1, e2⟩ := ai_sbe_g he
        obtain ⟨l1, l2⟩ := ai_sbl_g hl
        obtain ⟨s1, s2⟩ := ai_sbl_g hs
        obtain ⟨c1, c2⟩ := ai_sbw_g h
        refine ⟨⟨by rw [← e1, t1], fun k q hk => ?_⟩, ⟨by rw [← l1]; exact H.2.1.1, fun i a ha => ?_⟩, ai_gst_of (by rw [← s1]; exact H.2.2.1.len) fun j t ht => ?_, ?_⟩
        · obtain ⟨n, q1, q2, q3⟩ := e2 k q hk
          obtain ⟨y, q4, q5⟩ := t2 k n q1
          have := q5.1; have := q5.2.1
          exact ⟨y, q4, by omega, by omega⟩
        · obtain ⟨b, q1, q2⟩ := l2 i a ha
          obtain ⟨x, q3, q4⟩ := H.2.1.2 i b q1
          refine ⟨x, q3, ai_sbv_g H.1 t2 ?_ q4 q2⟩
          intro L' u z r1 r2 r3
          cases r1
          subst r2
          unfold cn_look
          dsimp only
          rw [Nat.zero_add, q3]
          exact r3
        · obtain ⟨b, q1, q2⟩ := s2 j t ht
          obtain ⟨v, q3, q4⟩ := ai_gst_at H.2.2.1 j b q1
          exact ⟨v, q3, ai_sbv_g H.1 t2 (fun L' u z r => by cases r) q4 q2⟩
        · have hW := H.2.2.2
          refine ⟨by rw [← c1]; exact hW.1, ?_, fun p t ht => ?_⟩
          · rcases hw1 with ⟨-, rfl⟩ | rfl
            · exact hW.2.1
            · rfl
          · obtain ⟨q, q1, q2, q3⟩ := c2 p t ht
            obtain ⟨x, q4, q5, q6⟩ := hW.2.2 p q q1
            refine ⟨x, q4, fun ht0 => ?_, fun c hc => ?_⟩
            · rcases hw1 with ⟨hf, rfl⟩ | rfl
              · exact q5 (q2 hf ht0)
              · exact q4
            · obtain ⟨c', r1, r2⟩ := q3 c hc
              rw [Nat.zero_add] at r2
              exact ai_sbc_g H.1 t2 q4 (q6 c' r1) r2
end AIM
