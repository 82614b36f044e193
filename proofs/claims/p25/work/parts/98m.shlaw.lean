/-! SHEETS IN THE LAW'S LOOP. -/
noncomputable def pr_Q (Is : List (ai_S × List ai_L)) (b : Bool) (F : List Nat) (S : ai_S) : Bool := pr_st b false S && (pr_in Is S && pr_fl F S)
/-- two calls that leave cells as they were -/
theorem pr_goF {X : List Int32} {Is : List (ai_S × List ai_L)} {b : Bool} {F : List Nat} {Mx Mm : ex_M} {ρ : List Int} {w : ex_W} {vs : List Value} (h : pr_TQ X (pr_Q Is b F) Mx Mm ρ w vs) : ∃ (v1 v2 : Value) (wx wm : ex_W) (gs fs : List Value), (∃ z, ai_nz b v1 = some z) ∧ (∃ z, ai_nz b v2 = some z) ∧ ex_at w 0 = some (.inr (.inr (7, gs))) ∧ ex_at wx 59 = some (.inr (.inr (8, fs))) ∧ Go X 39 Mx (ex_ent Mx (.ref 0 :: vs)) w (some v1, wx) ∧ Go X 39 Mm (ex_ent Mm (.ref 59 :: vs)) wx (some v2, wm) ∧ pr_I Is wm ∧ ∀ p ∈ F, ex_at wm p = ex_at w p := by
  obtain ⟨r1, r2, wx, wm, gs, fs, S2, ρ2, h1, h2, g1, g2, hQ, hp, H⟩ := h
  unfold pr_Q at hQ
  rw [Bool.and_eq_true, Bool.and_eq_true] at hQ
  obtain ⟨hst, hin, hfl⟩ := hQ
  have hS := H.2.2.1
  unfold pr_st at hst
  split at hst
  · next b2 y b1 x hs =>
    rw [hs] at hS
    rw [Bool.and_eq_true, Bool.and_eq_true] at hst
    obtain ⟨c1, c2, -⟩ := hst
    obtain rfl : b2 = b := by simpa using c1
    obtain rfl : b1 = b2 := by simpa using c2
    obtain ⟨u2, t2, k1, k2, k3⟩ := hS.cons
    obtain ⟨u1, t1, k4, k5, k6⟩ := k3.cons
    have k7 := k6.nil
    subst k4
    subst k7
    have hr : r2 = some u2 ∧ r1 = some u1 := by
      cases r2 with
      | none =>
        cases r1 with
        | none => cases k1
        | some a => cases k1
      | some a =>
        cases r1 with
        | none => cases k1
        | some c => cases k1; exact ⟨rfl, rfl⟩
    obtain ⟨rfl, rfl⟩ := hr
    obtain ⟨v2', z2, a1, a2, a3⟩ := k2
    obtain ⟨v1', z1, b1', b2', b3'⟩ := k5
    cases a1
    cases b1'
    exact ⟨u1, u2, wx, wm, gs, fs, ⟨z1, b2'⟩, ⟨z2, a2⟩, h1, h2, g1, g2, pr_in_g hin H.1 H.2.2.2, pr_fl_g hfl H⟩
  · cases hst
def sh_F : List Nat := [51, 52, 53, 54, 55, 56, 57, 58, 73, 74, 75]
def sh_A (w : ex_W) : Prop := ∀ j, j < 4 → sh_R w j
theorem sh_A.same {w w' : ex_W} (h : sh_A w) (e : ∀ p ∈ sh_F, ex_at w' p = ex_at w p) : sh_A w' := by
  intro j hj
  have e3 := e 73 (by decide)
  have e4 := e 74 (by decide)
  have e5 := e 75 (by decide)
  match j, hj with
  | 0, _ => exact (h 0 (by omega)).same (e 51 (by decide)) (e 52 (by decide)) e3 e4 e5
  | 1, _ => exact (h 1 (by omega)).same (e 53 (by decide)) (e 54 (by decide)) e3 e4 e5
  | 2, _ => exact (h 2 (by omega)).same (e 55 (by decide)) (e 56 (by decide)) e3 e4 e5
  | 3, _ => exact (h 3 (by omega)).same (e 57 (by decide)) (e 58 (by decide)) e3 e4 e5
theorem sh_C_of {I : ai_S} {ρ : List Int} {w : ex_W} {c0 c50 c59 : Bool} {vs0 vs59 : List ai_V} (i0 : ex_at I.2.2.2 0 = some (c0, some (.inr (.inr (7, vs0))))) (j0 : ex_at vs0 7 = some (.inr (some (.ref 50)))) (i50 : ex_at I.2.2.2 50 = some (c50, some (.inr (.inl (4, [some 51, some 53, some 55, some 57]))))) (i59 : ex_at I.2.2.2 59 = some (c59, some (.inr (.inr (8, vs59))))) (j30 : ex_at vs59 30 = some (.inr (some (.ref 73)))) (j31 : ex_at vs59 31 = some (.inr (some (.ref 74)))) (j32 : ex_at vs59 32 = some (.inr (some (.ref 75)))) (H : ai_g ρ w I [] [] w) : sh_C w := by
  obtain ⟨fs0, u0, a0, -, d0, g0⟩ := pe_get H i0 j0
  obtain ⟨fs59, u30, a59, b59, d30, g30⟩ := pe_get H i59 j30
  obtain ⟨u31, d31, g31⟩ := fp_f b59 j31
  obtain ⟨u32, d32, g32⟩ := fp_f b59 j32
  cases (show some u0 = some (.ref 50) from g0)
  cases (show some u30 = some (.ref 73) from g30)
  cases (show some u31 = some (.ref 74) from g31)
  cases (show some u32 = some (.ref 75) from g32)
  rw [ex_at_eq] at i50
  obtain ⟨x, h1, -, h3⟩ := H.2.2.2.2.2 50 _ i50
  have hx := (h3 _ rfl).row
  rw [hx] at h1
  exact ⟨fs0, fs59, a0, d0, by rw [ex_at_eq]; exact h1, a59, d30, d31, d32⟩
