/-! plan OF BOTH: all ways, in their order; what may be passed over. -/
/-- the fewest so far: strokes, the days with their numbers -/
abbrev pA : Type := Option (Nat × (Nat → Int))
def bsv (K : Nat) (a : pA) : Nat := match a with
  | none => K
  | some q => q.1
def bett (s : Nat) (R : Nat → Int) (a : pA) : pA := match a with
  | none => some (s, R)
  | some q => if s < q.1 then some (s, R) else some q
def pL (body : Nat → pA → pA) (tl : Nat → Bool) : Nat → Nat → pA → pA
  | 0, _, a => a
  | c + 1, k, a => pL body tl c (k + 1) (if tl k = true then body k a else a)
def pE (tl : (Nat → Int) → Nat → Nat → Nat → Bool) (mo : Nat) : Nat → (Nat → Int) → Nat → Nat → Nat → pA → pA
  | 0, R, _, _, s, a => bett s R a
  | f + 1, R, m, i, s, a => pL (fun k b => pE tl mo f (up R m (k : Int)) (m + 1) (i + 1) (s + k) b) (tl R m i) mo 1 a
/-- strokes below the bound -/
def pB (B : Nat) (a : pA) : Prop := ∀ q, a = some q → q.1 ≤ B
section PU
variable {body : Nat → pA → pA} {tk : Nat → Bool} {tl : (Nat → Int) → Nat → Nat → Nat → Bool} {mo n m0 K : Nat} {R0 : Nat → Int} {fl flF : Nat → Nat}
theorem pL_id : ∀ (c k : Nat) (a : pA), (∀ j, k ≤ j → j < k + c → tk j = true → body j a = a) → pL body tk c k a = a
  | 0, _, _, _ => rfl
  | c + 1, k, a, h => by
    show pL body tk c (k + 1) (if tk k = true then body k a else a) = a
    have e : (if tk k = true then body k a else a) = a := by
      by_cases b : tk k = true
      · rw [if_pos b]
        exact h k (Nat.le_refl _) (by omega) b
      · rw [if_neg b]
    rw [e]
    exact pL_id c (k + 1) a (fun j h1 h2 h3 => h j (by omega) (by omega) h3)
theorem pL_B {B : Nat} : ∀ (c k : Nat) (a : pA), (∀ j b, k ≤ j → j < k + c → pB B b → pB B (body j b)) → pB B a → pB B (pL body tk c k a)
  | 0, _, _, _, h => h
  | c + 1, k, a, h, ha => by
    show pB B (pL body tk c (k + 1) (if tk k = true then body k a else a))
    refine pL_B c (k + 1) _ (fun j b h1 h2 h3 => h j b (by omega) (by omega) h3) ?_
    by_cases b : tk k = true
    · rw [if_pos b]
      exact h k a (Nat.le_refl _) (by omega) ha
    · rw [if_neg b]
      exact ha
theorem pE_B (hmo : mo ≤ 16) : ∀ (f : Nat) (R : Nat → Int) (m i s : Nat) (a : pA), s ≤ 16 * i → pB (16 * (i + f)) a → pB (16 * (i + f)) (pE tl mo f R m i s a)
  | 0, R, m, i, s, a, hs, ha => by
    intro q hq
    have hq : bett s R a = some q := hq
    unfold bett at hq
    split at hq
    · cases hq
      exact hs
    · next p =>
      split at hq
      · cases hq
        exact hs
      · exact ha q hq
  | f + 1, R, m, i, s, a, hs, ha => by
    show pB _ (pL (fun k b => pE tl mo f (up R m (k : Int)) (m + 1) (i + 1) (s + k) b) (tl R m i) mo 1 a)
    rw [show i + (f + 1) = i + 1 + f by omega] at ha ⊢
    exact pL_B mo 1 a (fun j b h1 h2 h3 => pE_B hmo f _ (m + 1) (i + 1) (s + j) b (by omega) h3) ha
/-- what can't be less is passed over -/
theorem pE_cut (hF : ∀ i, i < n → flF i = fl i + flF (i + 1)) (hn : flF n = 0) (hK : 16 * n < K) (hmo : mo ≤ 16) (hfl : ∀ (R : Nat → Int) (i k : Nat), i < n → (∀ j, j < m0 → R j = R0 j) → 1 ≤ k → k ≤ mo → tl R (m0 + i) i k = true → fl i ≤ k) : ∀ (f : Nat) (R : Nat → Int) (i s : Nat) (a : pA), i + f = n → (∀ j, j < m0 → R j = R0 j) → s ≤ 16 * i → bsv K a ≤ s + flF i → pE tl mo f R (m0 + i) i s a = a
  | 0, R, i, s, a, hi, hR, hs, hb => by
    have hi : i = n := hi
    subst hi
    rw [hn] at hb
    show bett s R a = a
    cases a with
    | none =>
      have hb : K ≤ s + 0 := hb
      omega
    | some q =>
      have hb : q.1 ≤ s + 0 := hb
      exact if_neg (by omega)
  | f + 1, R, i, s, a, hi, hR, hs, hb => by
    show pL (fun k b => pE tl mo f (up R (m0 + i) (k : Int)) (m0 + i + 1) (i + 1) (s + k) b) (tl R (m0 + i) i) mo 1 a = a
    refine pL_id mo 1 a (fun k h1 h2 h3 => ?_)
    have h4 := hfl R i k (by omega) hR h1 (by omega) h3
    have h5 := hF i (by omega)
    exact pE_cut hF hn hK hmo hfl f (up R (m0 + i) (k : Int)) (i + 1) (s + k) a (by omega) (fun j hj => by rw [up_ne _ _ (by omega)]; exact hR j hj) (by omega) (by omega)
end PU
/-! what tells a matter, as a predicate; its least number on any of these days -/
noncomputable def plT (tf : Nat → Int32) (ST : List Int32) (A : Nat → Int32) (R : Nat → Int) (m i k : Nat) : Bool := okP R m (ST.getD 78 0).toInt (ST.getD 79 0).toInt k && decide ((mnV R m ST (tf 1) (nI k)).toInt = (A i).toInt)
theorem lst_ext {R R0 : Nat → Int} {m : Nat} {x : Int} (h : ∀ j, j < m → R j = R0 j) : ∀ i, lst R x (m + i) = lst R0 x m ∨ (m : Int) ≤ lst R x (m + i)
  | 0 => Or.inl (lst_cg m h)
  | i + 1 => by
    show (if R (m + i) = x then ((m + i : Nat) : Int) else lst R x (m + i)) = _ ∨ _ ≤ (if R (m + i) = x then ((m + i : Nat) : Int) else lst R x (m + i))
    by_cases c : R (m + i) = x
    · rw [if_pos c]
      exact Or.inr (by omega)
    · rw [if_neg c]
      exact lst_ext h i
/-- what is free on one of these days is so by the gap four days on -/
theorem okG_4 {R R0 : Nat → Int} {m i : Nat} {g ne x : Int} (h : ∀ j, j < m → R j = R0 j) (hi : i ≤ 4) (hk : okP R (m + i) g ne x = true) : okG R0 m (m + 4 : Nat) g x = true := by
  unfold okP at hk
  rw [Bool.and_eq_true] at hk
  have h1 := hk.1
  by_cases c : lst R x (m + i) = -1 ∨ (0 < g ∧ ((m + i : Nat) : Int) - lst R x (m + i) ≥ g)
  · refine okG_t ?_
    have hl := lst_lt R0 x m
    rcases lst_ext (x := x) h i with e | e
    · rw [e] at c
      rcases c with c | c
      · exact Or.inl c
      · exact Or.inr ⟨c.1, by omega⟩
    · rcases c with c | c
      · omega
      · exact Or.inr ⟨c.1, by omega⟩
  · rw [okG_f c] at h1
    exact absurd h1 (by decide)
theorem cnt_mono {p q : Nat → Bool} : ∀ k, (∀ j, 1 ≤ j → j < k → p j = true → q j = true) → cnt p k ≤ cnt q k
  | 0, _ => Nat.le_refl _
  | k + 1, h => by
    have ih := cnt_mono k (fun j a b => h j a (by omega))
    show cnt p k + (if 1 ≤ k ∧ p k = true then 1 else 0) ≤ cnt q k + (if 1 ≤ k ∧ q k = true then 1 else 0)
    by_cases c : 1 ≤ k ∧ p k = true
    · rw [if_pos c, if_pos ⟨c.1, h k c.1 (by omega) c.2⟩]
      omega
    · rw [if_neg c]
      split <;> omega
/-- the one with just so many ahead of it -/
theorem cnt_at {p : Nat → Bool} : ∀ (k r : Nat), r < cnt p k → ∃ j, 1 ≤ j ∧ j < k ∧ p j = true ∧ cnt p j = r
  | 0, r, h => absurd h (Nat.not_lt_zero r)
  | k + 1, r, h => by
    by_cases c : r < cnt p k
    · obtain ⟨j, h1, h2, h3, h4⟩ := cnt_at k r c
      exact ⟨j, h1, by omega, h3, h4⟩
    · have h : r < cnt p k + (if 1 ≤ k ∧ p k = true then 1 else 0) := h
      by_cases e : 1 ≤ k ∧ p k = true
      · rw [if_pos e] at h
        exact ⟨k, e.1, by omega, e.2, by omega⟩
      · rw [if_neg e] at h
        omega
theorem fsN_min {p : Nat → Bool} : ∀ (n k j : Nat), 1 ≤ k → k ≤ j → j < k + n → p j = true → ¬ fsN p n k = 0 ∧ fsN p n k ≤ j
  | 0, k, j, _, h1, h2, _ => by omega
  | n + 1, k, j, h0, h1, h2, h3 => by
    show ¬ (if p k = true then k else fsN p n (k + 1)) = 0 ∧ (if p k = true then k else fsN p n (k + 1)) ≤ j
    by_cases c : p k = true
    · rw [if_pos c]
      exact ⟨by omega, h1⟩
    · rw [if_neg c]
      have e : ¬ j = k := fun e => c (e ▸ h3)
      exact fsN_min n (k + 1) j (by omega) (by omega) (by omega) h3
theorem rmn_n {a b : Nat} (ha : a < 2 ^ 31) (hb : b < 2 ^ 31) (h0 : 0 < b) : rm (nI a) (nI b) = nI (a % b) := by
  have hd : a % b < b := Nat.mod_lt a h0
  have h1 : (nI a).toInt.tmod (nI b).toInt = ((a % b : Nat) : Int) := by
    rw [nI_toInt ha, nI_toInt hb]
    rfl
  refine tI_nI ?_ (by omega)
  unfold rm
  rw [(ai_wrapI (ai_remI (nI a) (nI b))).2 (by
    rw [h1]
    exact ⟨by show (-2147483648 : Int) ≤ _; omega, by show _ ≤ (2147483647 : Int); omega⟩), h1]
section PF
variable {tf : Nat → Int32} {ta : Nat → List Int32} {ST WE : List Int32} {dn an wn m0 : Nat} {R0 R : Nat → Int} {A : Nat → Int32} {b x : Int32}
/-- the floor's numbers -/
noncomputable def flP (tf : Nat → Int32) (ta : Nat → List Int32) (b x : Int32) (k : Nat) : Bool := bt b k && decide ((mgV tf ta (nI k) b).toInt = x.toInt)
/-- a number that tells the matter on one of the days is not below the floor -/
theorem fl_le (hR : Rs tf ta ST WE dn an wn) (hb : ∀ j, j < 32 → bt b j = (decide (1 ≤ j ∧ (j : Int) ≤ (tf 0).toInt) && okG R0 m0 (m0 + 4 : Nat) (tf 2).toInt j)) {i k : Nat} (hE : ∀ j, j < m0 → R j = R0 j) (hi : i ≤ 4) (hk : 1 ≤ k ∧ k ≤ (tf 0).toInt.toNat) (ht : plT tf ST A R (m0 + i) i k = true) : ¬ fsN (flP tf ta b (A i)) (tf 0).toInt.toNat 1 = 0 ∧ fsN (flP tf ta b (A i)) (tf 0).toInt.toNat 1 ≤ k := by
  obtain ⟨s1, s2, s3, s4, s5, s6, s7, s8, s9, s10, s11, s12, s13, s14, s15, s16, s17, s18⟩ := id hR.2.1
  unfold plT at ht
  rw [Bool.and_eq_true] at ht
  obtain ⟨h1, h2⟩ := ht
  have h2 := of_decide_eq_true h2
  rw [show ST.getD 78 0 = tf 2 from s3, show ST.getD 79 0 = tf 3 from s4] at h1
  have free : ∀ j : Nat, 1 ≤ j → j ≤ (tf 0).toInt.toNat → okP R (m0 + i) (tf 2).toInt (tf 3).toInt j = true → bt b j = true := fun j a c e => by
    rw [hb j (by omega), okG_4 hE hi e, decide_eq_true (show 1 ≤ j ∧ (j : Int) ≤ (tf 0).toInt by omega)]
    rfl
  have hbk := free k hk.1 hk.2 h1
  -- some number up to k tells it there
  have some_ : ∃ j, 1 ≤ j ∧ j ≤ k ∧ flP tf ta b (A i) j = true := by
    have ek : (nI k).toInt = (k : Int) := nI_toInt (by omega)
    by_cases c4 : (tf 4).toInt = 0
    · refine ⟨k, hk.1, Nat.le_refl _, ?_⟩
      unfold flP mgV
      unfold mnV at h2
      rw [show ST.getD 80 0 = tf 4 from s5, if_pos c4] at h2
      rw [hbk, if_pos (show 1 ≤ (nI k).toInt ∧ (nI k).toInt ≤ (tf 0).toInt by rw [ek]; omega), if_pos c4, decide_eq_true h2]
      rfl
    · by_cases c2 : (tf 4).toInt = 2
      · refine ⟨k, hk.1, Nat.le_refl _, ?_⟩
        unfold flP mgV
        unfold mnV at h2
        rw [show ST.getD 80 0 = tf 4 from s5, if_neg c4, if_pos c2, ek, show ((k : Nat) : Int).toNat = k from rfl, show ST.getD (61 + k) 0 = (ta 1).getD k 0 from (hR.2.2.2.1 k hk.1 (by omega)).1] at h2
        rw [hbk, if_pos (show 1 ≤ (nI k).toInt ∧ (nI k).toInt ≤ (tf 0).toInt by rw [ek]; omega), if_neg c4, if_pos c2, ek, show ((k : Nat) : Int).toNat = k from rfl, decide_eq_true h2]
        rfl
      · -- by rank
        have ema : tf 1 = nI (tf 1).toInt.toNat := tI_nI (by omega) (by omega)
        have hma : 0 < (tf 1).toInt.toNat := by omega
        have h0 : bt b 0 = false := by
          rw [hb 0 (by omega), decide_eq_false (by omega), Bool.false_and]
        unfold mnV at h2
        rw [show ST.getD 80 0 = tf 4 from s5, if_neg c4, if_neg c2, ek, show ((k : Nat) : Int).toNat = k from rfl, show ST.getD 78 0 = tf 2 from s3, show ST.getD 79 0 = tf 3 from s4, if_pos h1] at h2
        have hck := cnt_le (fun j => okP R (m0 + i) (tf 2).toInt (tf 3).toInt j) k
        have e1 : (rm (nI (cnt (fun j => okP R (m0 + i) (tf 2).toInt (tf 3).toInt j) k)) (tf 1)).toInt = ((cnt (fun j => okP R (m0 + i) (tf 2).toInt (tf 3).toInt j) k % (tf 1).toInt.toNat : Nat) : Int) := by
          have e := rmn_n (a := cnt (fun j => okP R (m0 + i) (tf 2).toInt (tf 3).toInt j) k) (b := (tf 1).toInt.toNat) (by omega) (by omega) hma
          rw [← ema] at e
          rw [e]
          exact nI_toInt (by have := Nat.mod_lt (cnt (fun j => okP R (m0 + i) (tf 2).toInt (tf 3).toInt j) k) hma; omega)
        rw [e1] at h2
        have hmod : cnt (fun j => okP R (m0 + i) (tf 2).toInt (tf 3).toInt j) k % (tf 1).toInt.toNat ≤ cnt (fun j => okP R (m0 + i) (tf 2).toInt (tf 3).toInt j) k := Nat.mod_le _ _
        have hml := Nat.mod_lt (cnt (fun j => okP R (m0 + i) (tf 2).toInt (tf 3).toInt j) k) hma
        have hmo := cnt_mono (p := fun j => okP R (m0 + i) (tf 2).toInt (tf 3).toInt j) (q := bt b) k (fun j a c e => free j a (by omega) e)
        generalize cnt (fun j => okP R (m0 + i) (tf 2).toInt (tf 3).toInt j) k % (tf 1).toInt.toNat = r at h2 hmod hml
        -- the number with r ahead of it
        have at_ : ∃ j, 1 ≤ j ∧ j ≤ k ∧ bt b j = true ∧ cnt (bt b) j = r := by
          by_cases c : r < cnt (bt b) k
          · obtain ⟨j, q1, q2, q3, q4⟩ := cnt_at k r c
            exact ⟨j, q1, by omega, q3, q4⟩
          · exact ⟨k, hk.1, Nat.le_refl _, hbk, by omega⟩
        obtain ⟨j, q1, q2, q3, q4⟩ := at_
        refine ⟨j, q1, q2, ?_⟩
        have ej : (nI j).toInt = (j : Int) := nI_toInt (by omega)
        unfold flP mgV
        rw [q3, if_pos (show 1 ≤ (nI j).toInt ∧ (nI j).toInt ≤ (tf 0).toInt by rw [ej]; omega), if_neg c4, if_neg c2, ej, show ((j : Nat) : Int).toNat = j from rfl, if_pos q3, bc_cnt (by omega) h0, q4]
        have e := rmn_n (a := r) (b := (tf 1).toInt.toNat) (by omega) (by omega) hma
        rw [← ema, Nat.mod_eq_of_lt hml] at e
        rw [e, nI_toInt (by omega), decide_eq_true h2]
        rfl
  obtain ⟨j, q1, q2, q3⟩ := some_
  have k1 := fsN_min (p := flP tf ta b (A i)) (tf 0).toInt.toNat 1 j (by omega) q1 (by omega) q3
  exact ⟨k1.1, by omega⟩
end PF
