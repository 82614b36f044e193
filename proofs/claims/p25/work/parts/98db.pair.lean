/-! TWO CALLS, one behind the other, and the pattern of the cells behind them. -/
noncomputable def pr_r (b : Bool) : Int × Int := (ai_lo b, ai_hi b)
noncomputable def pr_as (bs : List Bool) : Nat → List ai_V := List.rec (motive := fun _ => Nat → List ai_V) (fun _ => []) (fun b _ ih g => .inl (b, ai_lo b, ai_hi b, [(g, 0, 0)]) :: ih (g + 1)) bs
theorem pr_as_c (b : Bool) (bs : List Bool) (g : Nat) : pr_as (b :: bs) g = .inl (b, ai_lo b, ai_hi b, [(g, 0, 0)]) :: pr_as bs (g + 1) := rfl
def pr_ok : List Bool → List Value → Prop
  | [], [] => True
  | b :: bs, v :: vs => (∃ z, ai_nz b v = some z) ∧ pr_ok bs vs
  | _, _ => False
theorem pr_rg {b : Bool} {v : Value} {z : Int} (h : ai_nz b v = some z) : ai_lo b ≤ z ∧ z ≤ ai_hi b := by
  cases b with
  | false =>
    obtain ⟨i, rfl, rfl⟩ := ai_nzI h
    exact ai_okI i
  | true =>
    obtain ⟨i, rfl, rfl⟩ := ai_nzL h
    exact ai_okL i
theorem pr_add : ∀ (bs : List Bool) (vs : List Value) (ρ : List Int) (e : ai_E), pr_ok bs vs → ai_ge ρ e → ∃ ρ', ρ <+: ρ' ∧ ai_ge ρ' (e ++ bs.map pr_r) ∧ ai_gst ρ' (pr_as bs e.length) vs
  | [], [], ρ, e, _, he => ⟨ρ, List.prefix_refl ρ, by simpa using he, trivial⟩
  | b :: bs, v :: vs, ρ, e, ⟨⟨z, hz⟩, h⟩, he => by
    obtain ⟨h1, h2⟩ := pr_rg hz
    have he' := he.app h1 h2
    obtain ⟨ρ', g1, g2, g3⟩ := pr_add bs vs (ρ ++ [z]) (e ++ [(ai_lo b, ai_hi b)]) h he'
    refine ⟨ρ', (List.prefix_append ρ [z]).trans g1, ?_, ?_⟩
    · have e1 : e ++ (b :: bs).map pr_r = e ++ [(ai_lo b, ai_hi b)] ++ bs.map pr_r := by simp [pr_r]
      rw [e1]
      exact g2
    · rw [pr_as_c]
      rw [List.length_append] at g3
      refine ⟨⟨v, z, rfl, hz, h1, h2, fun q hq => ?_⟩, g3⟩
      obtain rfl := List.mem_singleton.mp hq
      obtain ⟨t, rfl⟩ := g1
      refine ⟨z, ?_, by simp, by simp⟩
      show (ρ ++ [z] ++ t)[e.length]? = some z
      rw [← he.1]
      simp
noncomputable def pr_in (Is : List (ai_S × List ai_L)) (S : ai_S) : Bool := Is.any (fun I => match ai_T 0 (S.1, [], [], S.2.2.2) I.2 with
  | none => false
  | some T => ai_sbS false 0 I.2 T (S.1, [], [], S.2.2.2) I.1)
noncomputable def pr_st (b cmp : Bool) (S : ai_S) : Bool := match S.2.2.1 with
  | [.inl (b2, y), .inl (b1, x)] => (b2 == b) && ((b1 == b) && (!cmp || ai_bt (ai_eff S.1 x) (ai_eff S.1 y) 0 0))
  | _ => false
noncomputable def pr_59 (W : ai_W) : Bool := match ex_at W 59 with
  | some (_, some (.inr (.inr (c, _)))) => Nat.beq c 8
  | _ => false
noncomputable def pr_0 (W : ai_W) : Bool := match ex_at W 0 with
  | some (_, some (.inr (.inr (c, _)))) => Nat.beq c 7
  | _ => false
noncomputable def pr_ck (Γ : List ai_K) (cx cm : Nat) (bs : List Bool) (b cmp : Bool) (Is : List (ai_S × List ai_L)) (I : ai_S) : Bool := pr_0 I.2.2.2 && (match ai_call Γ 40 cx (.inr (some (.ref 0)) :: pr_as bs I.1.length) (I.1 ++ bs.map pr_r, [], [], I.2.2.2) with
  | none => false
  | some Ss => Ss.all (fun S1 => pr_59 S1.2.2.2 && (match ai_call Γ 40 cm (.inr (some (.ref 59)) :: pr_as bs I.1.length) S1 with
    | none => false
    | some Ts => Ts.all (fun S2 => pr_st b cmp S2 && pr_in Is S2))))
/-- the cells are as one of the patterns -/
def pr_I (Is : List (ai_S × List ai_L)) (w : ex_W) : Prop := ∃ I ∈ Is, ∃ ρ, ai_g ρ w I.1 [] [] w
theorem pr_obj {ρ : List Int} {w0 w : ex_W} {W : ai_W} {p c : Nat} {ch : Bool} {vs : List ai_V} (H : ai_gw ρ w0 W w) (h : ex_at W p = some (ch, some (.inr (.inr (c, vs))))) : ∃ fs, ex_at w p = some (.inr (.inr (c, fs))) := by
  rw [ex_at_eq] at h
  obtain ⟨x, h1, -, h3⟩ := H.2.2 p _ h
  obtain ⟨fs, rfl, -⟩ := (h3 _ rfl).obj
  exact ⟨fs, by rw [ex_at_eq]; exact h1⟩
theorem pr_in_g {ρ : List Int} {w0 w : ex_W} {S : ai_S} {Is : List (ai_S × List ai_L)} (h : pr_in Is S = true) (he : ai_ge ρ S.1) (hw : ai_gw ρ w0 S.2.2.2 w) : pr_I Is w := by
  unfold pr_in at h
  rw [List.any_eq_true] at h
  obtain ⟨I, hI, h⟩ := h
  split at h
  · cases h
  · next T hT =>
    have H : ai_g ρ w0 (S.1, [], [], S.2.2.2) [] [] w := ⟨he, ⟨rfl, fun i a ha => by simp at ha⟩, trivial, hw⟩
    exact ⟨I, hI, _, ai_sbS_g (ρ0 := []) (fl := false) (w1 := w) List.nil_prefix H hT h (Or.inr rfl)⟩
/-- what is so of two calls -/
def pr_T (X : List Int32) (Is : List (ai_S × List ai_L)) (b cmp : Bool) (Mx Mm : ex_M) (w : ex_W) (vs : List Value) : Prop := ∃ (v1 v2 : Value) (wx wm : ex_W) (gs fs : List Value), (∃ z, ai_nz b v1 = some z) ∧ (∃ z, ai_nz b v2 = some z) ∧ (cmp = true → v1 = v2) ∧ ex_at w 0 = some (.inr (.inr (7, gs))) ∧ ex_at wx 59 = some (.inr (.inr (8, fs))) ∧ Go X 39 Mx (ex_ent Mx (.ref 0 :: vs)) w (some v1, wx) ∧ Go X 39 Mm (ex_ent Mm (.ref 59 :: vs)) wx (some v2, wm) ∧ pr_I Is wm
theorem pr_nz {b : Bool} {u v : Value} {z : Int} (hu : ai_nz b u = some z) (hv : ai_nz b v = some z) : u = v := by
  cases b with
  | false =>
    obtain ⟨i, rfl, h1⟩ := ai_nzI hu
    obtain ⟨j, rfl, h2⟩ := ai_nzI hv
    rw [Int32.toInt_inj.mp (h1.symm.trans h2)]
  | true =>
    obtain ⟨i, rfl, h1⟩ := ai_nzL hu
    obtain ⟨j, rfl, h2⟩ := ai_nzL hv
    rw [Int64.toInt_inj.mp (h1.symm.trans h2)]
theorem pr_go {X : List Int32} {Γ : List ai_K} {cx cm : Nat} {bs : List Bool} {b cmp : Bool} {Is : List (ai_S × List ai_L)} {I : ai_S} {Mx Mm : ex_M} {vs : List Value} {ρ : List Int} {w : ex_W} (hx : ex_at ex_lst cx = some Mx) (hm : ex_at ex_lst cm = some Mm) (hΓ : ∀ K ∈ Γ, ai_holds K) (h : pr_ck Γ cx cm bs b cmp Is I = true) (H : ai_g ρ w I [] [] w) (hv : pr_ok bs vs) : pr_T X Is b cmp Mx Mm w vs := by
  unfold pr_ck at h
  rw [Bool.and_eq_true] at h
  obtain ⟨h0, h⟩ := h
  obtain ⟨ρ1, p1, p2, p3⟩ := pr_add bs vs ρ I.1 hv H.1
  have H1 : ai_g ρ1 w (I.1 ++ bs.map pr_r, [], [], I.2.2.2) [] [] w := ⟨p2, ⟨rfl, fun i a ha => by simp at ha⟩, trivial, H.2.2.2.up p1⟩
  have hgs : ∃ gs, ex_at w 0 = some (.inr (.inr (7, gs))) := by
    unfold pr_0 at h0
    split at h0
    · next ch c vs hc =>
      obtain rfl : c = 7 := Nat.eq_of_beq_eq_true h0
      exact pr_obj H.2.2.2 hc
    · cases h0
  obtain ⟨gs, hgs⟩ := hgs
  split at h
  · cases h
  · next Ss hSs =>
    have ha1 : ai_gst ρ1 (.inr (some (.ref 0)) :: pr_as bs I.1.length) (.ref 0 :: vs) := ⟨rfl, p3⟩
    obtain ⟨M1, e1, -, r1, wx, g1, S1, m1, ρ2, q1, H2⟩ := ai_call_s (X := X) (d := 39) hΓ (Nat.le_refl 40) hSs H1 ha1
    obtain rfl : M1 = Mx := Option.some.inj (e1.symm.trans hx)
    rw [List.all_eq_true] at h
    have h := h S1 m1
    rw [Bool.and_eq_true] at h
    obtain ⟨h59, h⟩ := h
    have hfs : ∃ fs, ex_at wx 59 = some (.inr (.inr (8, fs))) := by
      unfold pr_59 at h59
      split at h59
      · next ch c vs hc =>
        obtain rfl : c = 8 := Nat.eq_of_beq_eq_true h59
        exact pr_obj H2.2.2.2 hc
      · cases h59
    obtain ⟨fs, hfs⟩ := hfs
    split at h
    · cases h
    · next Ts hTs =>
      have ha2 : ai_gst ρ2 (.inr (some (.ref 59)) :: pr_as bs I.1.length) (.ref 59 :: vs) := ⟨rfl, p3.up q1⟩
      obtain ⟨M2, e2, -, r2, wm, g2, S2, m2, ρ3, q2, H3⟩ := ai_call_s (X := X) (d := 39) hΓ (Nat.le_refl 40) hTs H2 ha2
      obtain rfl : M2 = Mm := Option.some.inj (e2.symm.trans hm)
      rw [List.all_eq_true] at h
      have h := h S2 m2
      rw [Bool.and_eq_true] at h
      obtain ⟨hst, hin⟩ := h
      have hS := H3.2.2.1
      unfold pr_st at hst
      split at hst
      · next b2 y b1 x hs =>
        rw [hs] at hS
        rw [Bool.and_eq_true, Bool.and_eq_true] at hst
        obtain ⟨c1, c2, c3⟩ := hst
        obtain rfl : b2 = b := by simpa using c1
        obtain rfl : b1 = b2 := by simpa using c2
        obtain ⟨u2, t2, k1, k2, k3⟩ := hS.cons
        obtain ⟨u1, t1, k4, k5, k6⟩ := k3.cons
        have k7 := k6.nil
        subst k4
        subst k7
        have hr : r2 = some u2 ∧ r1 = some u1 := by
          cases r2 with
          | none =>
            cases r1 with
            | none => cases k1
            | some a => cases k1
          | some a =>
            cases r1 with
            | none => cases k1
            | some c => cases k1; exact ⟨rfl, rfl⟩
        obtain ⟨rfl, rfl⟩ := hr
        obtain ⟨v2', z2, a1, a2, a3⟩ := k2
        obtain ⟨v1', z1, b1', b2', b3'⟩ := k5
        cases a1
        cases b1'
        refine ⟨u1, u2, wx, wm, gs, fs, ⟨z1, b2'⟩, ⟨z2, a2⟩, fun hcmp => ?_, hgs, hfs, g1, g2, pr_in_g hin H3.1 H3.2.2.2⟩
        rw [hcmp] at c3
        have c3 : ai_bt (ai_eff S2.1 x) (ai_eff S2.1 y) 0 0 = true := by simpa using c3
        have := ai_bt_g (ai_eff_g H3.1 b3') (ai_eff_g H3.1 a3) c3
        have e : z1 = z2 := by omega
        rw [e] at b2'
        exact pr_nz b2' a2
      · cases hst
/-- cells as they are, as a pattern -/
noncomputable def ab_v (v : Value) : ai_V := match v with
  | .int x => .inl (false, x.toInt, x.toInt, [])
  | v => .inr (some v)
noncomputable def ab_c (x : ex_E) : ai_C := match x with
  | .inl (ty, l) => .inl (ty, l.map (fun x => (1, x.toInt, x.toInt, [])))
  | .inr (.inl q) => .inr (.inl q)
  | .inr (.inr (c, fs)) => .inr (.inr (c, fs.map ab_v))
theorem ab_v_g (v : Value) : ai_gv [] (ab_v v) (some v) := by
  unfold ab_v
  split
  · exact ai_gv.ofI ⟨Int.le_refl _, Int.le_refl _, ai_gr.no⟩
  · rfl
theorem ab_s_g : ∀ l : List Int32, ai_gs [] (l.map (fun x => (1, x.toInt, x.toInt, []))) l
  | [] => rfl
  | x :: l => by
    refine ⟨by simp, fun y hy => ?_, ?_⟩
    · have hy : y ∈ [x] := by simpa using hy
      obtain rfl := List.mem_singleton.mp hy
      exact ⟨Int.le_refl _, Int.le_refl _, ai_gr.no⟩
    · exact ab_s_g l
theorem ab_c_g (x : ex_E) : ai_gc [] (ab_c x) x := by
  match x with
  | .inl (ty, l) => exact ⟨rfl, ab_s_g l⟩
  | .inr (.inl q) => exact rfl
  | .inr (.inr (c, fs)) =>
    refine ⟨rfl, by simp, fun i a ha => ?_⟩
    rw [List.getElem?_map] at ha
    cases hf : fs[i]? with
    | none => rw [hf] at ha; cases ha
    | some v =>
      rw [hf] at ha
      cases ha
      exact ⟨some v, by rw [List.getElem?_map, hf]; rfl, ab_v_g v⟩
theorem ab_w_g (w : ex_W) : ai_gw [] w (w.map (fun x => (false, some (ab_c x)))) w := by
  refine ⟨by simp, rfl, fun p q hq => ?_⟩
  rw [List.getElem?_map] at hq
  cases hx : w[p]? with
  | none => rw [hx] at hq; cases hq
  | some x =>
    rw [hx] at hq
    cases hq
    exact ⟨x, rfl, fun _ => rfl, fun c hc => by cases hc; exact ab_c_g x⟩
theorem pr_first {Is : List (ai_S × List ai_L)} {w : ex_W} (h : pr_in Is ([], [], [], w.map (fun x => (false, some (ab_c x)))) = true) : pr_I Is w :=
  pr_in_g (ρ := []) (w0 := w) h ⟨rfl, fun k q hk => by simp at hk⟩ (ab_w_g w)
