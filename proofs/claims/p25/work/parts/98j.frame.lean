/-! WHAT TWO CALLS LEAVE AS IT WAS. -/
theorem Go.det {X : List Int32} {d : Nat} {M : ex_M} {f : ex_F} {w : ex_W} {q q' : Option Value × ex_W} (h : Go X d M f w q) (h' : Go X d M f w q') : q = q' := by
  obtain ⟨n, hn⟩ := h
  obtain ⟨m, hm⟩ := h'
  have h1 := ex_run_up _ _ _ _ _ _ hn (max n m) (Nat.le_max_left _ _)
  have h2 := ex_run_up _ _ _ _ _ _ hm (max n m) (Nat.le_max_right _ _)
  exact Option.some.inj (h1.symm.trans h2)
noncomputable def pr_ckQ (Γ : List ai_K) (cx cm : Nat) (bs : List Bool) (I : ai_S) (Q : ai_S → Bool) : Bool := pr_0 I.2.2.2 && (match ai_call Γ 40 cx (.inr (some (.ref 0)) :: pr_as bs I.1.length) (I.1 ++ bs.map pr_r, [], [], I.2.2.2) with
  | none => false
  | some Ss => Ss.all (fun S1 => pr_59 S1.2.2.2 && (match ai_call Γ 40 cm (.inr (some (.ref 59)) :: pr_as bs I.1.length) S1 with
    | none => false
    | some Ts => Ts.all Q)))
/-- two calls: what is known behind them -/
def pr_TQ (X : List Int32) (Q : ai_S → Bool) (Mx Mm : ex_M) (ρ : List Int) (w : ex_W) (vs : List Value) : Prop := ∃ (r1 r2 : Option Value) (wx wm : ex_W) (gs fs : List Value) (S2 : ai_S) (ρ2 : List Int), ex_at w 0 = some (.inr (.inr (7, gs))) ∧ ex_at wx 59 = some (.inr (.inr (8, fs))) ∧ Go X 39 Mx (ex_ent Mx (.ref 0 :: vs)) w (r1, wx) ∧ Go X 39 Mm (ex_ent Mm (.ref 59 :: vs)) wx (r2, wm) ∧ Q S2 = true ∧ ρ <+: ρ2 ∧ ai_g ρ2 w S2 [] (r2.toList ++ (r1.toList ++ [])) wm
theorem pr_goQ {X : List Int32} {Γ : List ai_K} {cx cm : Nat} {bs : List Bool} {Q : ai_S → Bool} {I : ai_S} {Mx Mm : ex_M} {vs : List Value} {ρ : List Int} {w : ex_W} (hx : ex_at ex_lst cx = some Mx) (hm : ex_at ex_lst cm = some Mm) (hΓ : ∀ K ∈ Γ, ai_holds K) (h : pr_ckQ Γ cx cm bs I Q = true) (H : ai_g ρ w I [] [] w) (hv : pr_ok bs vs) : pr_TQ X Q Mx Mm ρ w vs := by
  unfold pr_ckQ at h
  rw [Bool.and_eq_true] at h
  obtain ⟨h0, h⟩ := h
  obtain ⟨ρ1, p1, p2, p3⟩ := pr_add bs vs ρ I.1 hv H.1
  have H1 : ai_g ρ1 w (I.1 ++ bs.map pr_r, [], [], I.2.2.2) [] [] w := ⟨p2, ⟨rfl, fun i a ha => by simp at ha⟩, trivial, H.2.2.2.up p1⟩
  have hgs : ∃ gs, ex_at w 0 = some (.inr (.inr (7, gs))) := by
    unfold pr_0 at h0
    split at h0
    · next ch c vs hc =>
      obtain rfl : c = 7 := Nat.eq_of_beq_eq_true h0
      exact pr_obj H.2.2.2 hc
    · cases h0
  obtain ⟨gs, hgs⟩ := hgs
  split at h
  · cases h
  · next Ss hSs =>
    have ha1 : ai_gst ρ1 (.inr (some (.ref 0)) :: pr_as bs I.1.length) (.ref 0 :: vs) := ⟨rfl, p3⟩
    obtain ⟨M1, e1, -, r1, wx, g1, S1, m1, ρ2, q1, H2⟩ := ai_call_s (X := X) (d := 39) hΓ (Nat.le_refl 40) hSs H1 ha1
    obtain rfl : M1 = Mx := Option.some.inj (e1.symm.trans hx)
    rw [List.all_eq_true] at h
    have h := h S1 m1
    rw [Bool.and_eq_true] at h
    obtain ⟨h59, h⟩ := h
    have hfs : ∃ fs, ex_at wx 59 = some (.inr (.inr (8, fs))) := by
      unfold pr_59 at h59
      split at h59
      · next ch c vs hc =>
        obtain rfl : c = 8 := Nat.eq_of_beq_eq_true h59
        exact pr_obj H2.2.2.2 hc
      · cases h59
    obtain ⟨fs, hfs⟩ := hfs
    split at h
    · cases h
    · next Ts hTs =>
      have ha2 : ai_gst ρ2 (.inr (some (.ref 59)) :: pr_as bs I.1.length) (.ref 59 :: vs) := ⟨rfl, p3.up q1⟩
      obtain ⟨M2, e2, -, r2, wm, g2, S2, m2, ρ3, q2, H3⟩ := ai_call_s (X := X) (d := 39) hΓ (Nat.le_refl 40) hTs H2 ha2
      obtain rfl : M2 = Mm := Option.some.inj (e2.symm.trans hm)
      rw [List.all_eq_true] at h
      exact ⟨r1, r2, wx, wm, gs, fs, S2, ρ3, hgs, hfs, g1, g2, h S2 m2, (p1.trans q1).trans q2, H3⟩
/-- cells that were not written -/
noncomputable def pr_fl (F : List Nat) (S : ai_S) : Bool := F.all (fun p => match ex_at S.2.2.2 p with
  | some (b, _) => !b
  | none => false)
theorem pr_fl_g {F : List Nat} {S : ai_S} {ρ : List Int} {w0 w : ex_W} {lo : ex_L} {st : List Value} (h : pr_fl F S = true) (H : ai_g ρ w0 S lo st w) : ∀ p ∈ F, ex_at w p = ex_at w0 p := by
  intro p hp
  unfold pr_fl at h
  rw [List.all_eq_true] at h
  have h := h p hp
  split at h
  · next b c hc =>
    rw [ex_at_eq] at hc
    obtain ⟨x, h1, h2, -⟩ := H.2.2.2.2.2 p _ hc
    rw [ex_at_eq, ex_at_eq, h1, h2 (by simpa using h)]
  · cases h
/-- numbers that are what they were: the place, its symbol -/
noncomputable def pr_sy (Ls : List (ai_L × Nat)) (S : ai_S) : Bool := Ls.all (fun q => match ai_look S q.1, ex_at S.1 q.2 with
  | some n, some y => ai_bt (ai_eff S.1 n) (y.1, y.2, [(q.2, 0, 0)]) 0 0
  | _, _ => false)
theorem pr_sy_g {Ls : List (ai_L × Nat)} {S : ai_S} {ρ : List Int} {w0 w : ex_W} {lo : ex_L} {st : List Value} (h : pr_sy Ls S = true) (H : ai_g ρ w0 S lo st w) : ∀ q ∈ Ls, ∃ z, cn_look lo w q.1 = some z ∧ ρ[q.2]? = some z := by
  intro q hq
  unfold pr_sy at h
  rw [List.all_eq_true] at h
  have h := h q hq
  split at h
  · next n y hn hy =>
    obtain ⟨z, h1, h2⟩ := ai_look_g hn H
    rw [ex_at_eq] at hy
    obtain ⟨v, h3, h4, h5⟩ := H.1.2 _ _ hy
    have h6 := ai_bt_g (ai_eff_g H.1 h2) (y := (y.1, y.2, [(q.2, 0, 0)])) (v := v) ⟨h4, h5, fun r hr => by
      obtain rfl := List.mem_singleton.mp hr
      exact ⟨v, h3, by simp, by simp⟩⟩ h
    refine ⟨z, h1, ?_⟩
    rw [h3]
    congr 1
    omega
  · cases h
/-- the symbols of a pattern are its numbers -/
theorem pr_sy_0 {Ls : List (ai_L × Nat)} {S : ai_S} {ρ : List Int} {w : ex_W} {lo : ex_L} {st : List Value} (h : pr_sy Ls S = true) (H : ai_g ρ w S lo st w) : ∀ q ∈ Ls, cn_look lo w q.1 = ρ[q.2]? := by
  intro q hq
  obtain ⟨z, h1, h2⟩ := pr_sy_g h H q hq
  rw [h1, h2]
