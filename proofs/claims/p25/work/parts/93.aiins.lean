/-! INSTRUCTIONS OF THE ABSTRACT INTERPRETER: each with its row. -/
section AIC
theorem kc_eq (x y : Int32) : ex_c2 .eq x y = decide (x.toInt = y.toInt) := by
  unfold ex_c2
  simp only [Int32.toInt_inj]
theorem kc_ne (x y : Int32) : ex_c2 .ne x y = decide (¬ x.toInt = y.toInt) := by
  unfold ex_c2
  simp only [Int32.toInt_inj]
theorem kc_lt (x y : Int32) : ex_c2 .lt x y = decide (x.toInt < y.toInt) := by
  unfold ex_c2
  simp only [Int32.lt_iff_toInt_lt]
theorem kc_ge (x y : Int32) : ex_c2 .ge x y = decide (y.toInt ≤ x.toInt) := by
  unfold ex_c2
  simp only [Int32.le_iff_toInt_le]
theorem kc_gt (x y : Int32) : ex_c2 .gt x y = decide (y.toInt < x.toInt) := by
  unfold ex_c2
  simp only [Int32.lt_iff_toInt_lt]
theorem kc_le (x y : Int32) : ex_c2 .le x y = decide (x.toInt ≤ y.toInt) := by
  unfold ex_c2
  simp only [Int32.le_iff_toInt_le]
theorem k0_k2 (c : Jvm.ClassFile.Cond) (x : Int32) : ex_c0 c x = ex_c2 c x 0 := by cases c <;> rfl
/-- between what their difference lies, if both hang on one symbol -/
noncomputable def ai_df2 (q : Nat × Int × Int) (r : List (Nat × Int × Int)) : Option (Int × Int) → Option (Int × Int) := List.rec (motive := fun _ => Option (Int × Int) → Option (Int × Int)) (fun o => o) (fun q' _ ih o => match Nat.beq q.1 q'.1 with
  | false => ih o
  | true => match o with
    | none => ih (some (q.2.1 - q'.2.2, q.2.2 - q'.2.1))
    | some b => ih (some (ai_mx b.1 (q.2.1 - q'.2.2), ai_mn b.2 (q.2.2 - q'.2.1)))) r
theorem ai_df2_c (q q' : Nat × Int × Int) (r : List (Nat × Int × Int)) (o : Option (Int × Int)) : ai_df2 q (q' :: r) o = match Nat.beq q.1 q'.1 with
  | false => ai_df2 q r o
  | true => match o with
    | none => ai_df2 q r (some (q.2.1 - q'.2.2, q.2.2 - q'.2.1))
    | some b => ai_df2 q r (some (ai_mx b.1 (q.2.1 - q'.2.2), ai_mn b.2 (q.2.2 - q'.2.1))) := rfl
noncomputable def ai_df1 (r' : List (Nat × Int × Int)) (r : List (Nat × Int × Int)) : Option (Int × Int) → Option (Int × Int) := List.rec (motive := fun _ => Option (Int × Int) → Option (Int × Int)) (fun o => o) (fun q _ ih o => ih (ai_df2 q r' o)) r
noncomputable def ai_df (x y : ai_N) : Option (Int × Int) := ai_df1 y.2.2 x.2.2 none
def ai_dfo (d : Int) (o : Option (Int × Int)) : Prop := ∀ q, o = some q → q.1 ≤ d ∧ d ≤ q.2
theorem ai_df2_g {ρ : List Int} {u v : Int} {q : Nat × Int × Int} (hq : ∃ y, ρ[q.1]? = some y ∧ q.2.1 ≤ u - y ∧ u - y ≤ q.2.2) : ∀ {r : List (Nat × Int × Int)} {o : Option (Int × Int)}, ai_gr ρ r v → ai_dfo (u - v) o → ai_dfo (u - v) (ai_df2 q r o)
  | [], _, _, ho => ho
  | q' :: r, o, hr, ho => by
    have hr' : ai_gr ρ r v := fun a ha => hr a (List.mem_cons_of_mem _ ha)
    rw [ai_df2_c]
    cases hb : Nat.beq q.1 q'.1 with
    | false => exact ai_df2_g hq hr' ho
    | true =>
      have e : q.1 = q'.1 := Nat.eq_of_beq_eq_true hb
      obtain ⟨y, p1, p2, p3⟩ := hq
      obtain ⟨y', s1, s2, s3⟩ := hr q' List.mem_cons_self
      rw [← e] at s1
      obtain rfl : y = y' := Option.some.inj (p1.symm.trans s1)
      cases o with
      | none =>
        refine ai_df2_g ⟨y, p1, p2, p3⟩ hr' fun a ha => ?_
        cases ha
        exact ⟨by show q.2.1 - q'.2.2 ≤ _; omega, by show _ ≤ q.2.2 - q'.2.1; omega⟩
      | some b =>
        have hb2 := ho b rfl
        refine ai_df2_g ⟨y, p1, p2, p3⟩ hr' fun a ha => ?_
        cases ha
        exact ⟨ai_mx_le.mpr ⟨hb2.1, by omega⟩, ai_le_mn.mpr ⟨hb2.2, by omega⟩⟩
theorem ai_df1_g {ρ : List Int} {u v : Int} {r' : List (Nat × Int × Int)} (hr' : ai_gr ρ r' v) : ∀ {r : List (Nat × Int × Int)} {o : Option (Int × Int)}, ai_gr ρ r u → ai_dfo (u - v) o → ai_dfo (u - v) (ai_df1 r' r o)
  | [], _, _, ho => ho
  | q :: r, o, hr, ho => by
    show ai_dfo (u - v) (ai_df1 r' r (ai_df2 q r' o))
    exact ai_df1_g hr' (fun a ha => hr a (List.mem_cons_of_mem _ ha)) (ai_df2_g (hr q List.mem_cons_self) hr' ho)
theorem ai_df_g {ρ : List Int} {x y : ai_N} {u v : Int} {q : Int × Int} (hx : ai_gn ρ x u) (hy : ai_gn ρ y v) (h : ai_df x y = some q) : q.1 ≤ u - v ∧ u - v ≤ q.2 :=
  ai_df1_g hy.2.2 hx.2.2 (fun _ h => by cases h) q h
/-- learnt: x and d is at most y -/
noncomputable def ai_cle (e : ai_E) (x y : ai_N) (d : Int) : Option ai_E := match (match ai_df x y with
    | some q => ai_le (q.1 + d) 0
    | none => true) with
  | false => none
  | true => match ai_lrn e x x.1 (y.2.1 - d) with
    | none => none
    | some e' => ai_lrn e' y (x.1 + d) y.2.1
theorem ai_cle_g {ρ : List Int} {e : ai_E} {x y : ai_N} {u v d : Int} (he : ai_ge ρ e) (hx : ai_gn ρ x u) (hy : ai_gn ρ y v) (h : u + d ≤ v) : ∃ e', ai_cle e x y d = some e' ∧ ai_ge ρ e' := by
  unfold ai_cle
  have h1 : (match ai_df x y with
    | some q => ai_le (q.1 + d) 0
    | none => true) = true := by
    split
    · next q hq =>
      have := ai_df_g hx hy hq
      rw [ai_le_iff]
      omega
    · rfl
  rw [h1]
  have hx1 := hx.1; have hx2 := hx.2.1; have hy1 := hy.1; have hy2 := hy.2.1
  obtain ⟨e1, q1, q2⟩ := ai_lrn_g he hx (l := x.1) (h := y.2.1 - d) hx1 (by omega)
  rw [q1]
  exact ai_lrn_g q2 hy (by omega) hy2
noncomputable def ai_ceq (e : ai_E) (x y : ai_N) : Option ai_E := match (match ai_df x y with
    | some q => ai_le q.1 0 && ai_le 0 q.2
    | none => true) with
  | false => none
  | true => match ai_lrn e x y.1 y.2.1 with
    | none => none
    | some e' => ai_lrn e' y x.1 x.2.1
theorem ai_ceq_g {ρ : List Int} {e : ai_E} {x y : ai_N} {u v : Int} (he : ai_ge ρ e) (hx : ai_gn ρ x u) (hy : ai_gn ρ y v) (h : u = v) : ∃ e', ai_ceq e x y = some e' ∧ ai_ge ρ e' := by
  unfold ai_ceq
  subst h
  have h1 : (match ai_df x y with
    | some q => ai_le q.1 0 && ai_le 0 q.2
    | none => true) = true := by
    split
    · next q hq =>
      have := ai_df_g hx hy hq
      rw [Bool.and_eq_true, ai_le_iff, ai_le_iff]
      omega
    · rfl
  rw [h1]
  obtain ⟨e1, q1, q2⟩ := ai_lrn_g he hx (l := y.1) (h := y.2.1) hy.1 hy.2.1
  rw [q1]
  exact ai_lrn_g q2 hy hx.1 hx.2.1
/-- learnt: x is not c -/
noncomputable def ai_cn1 (e : ai_E) (x : ai_N) (c : Int) : Option ai_E := match ai_le c x.1 && ai_le x.1 c with
  | true => ai_lrn e x (c + 1) x.2.1
  | false => match ai_le c x.2.1 && ai_le x.2.1 c with
    | true => ai_lrn e x x.1 (c - 1)
    | false => some e
theorem ai_cn1_g {ρ : List Int} {e : ai_E} {x : ai_N} {u c : Int} (he : ai_ge ρ e) (hx : ai_gn ρ x u) (h : ¬ u = c) : ∃ e', ai_cn1 e x c = some e' ∧ ai_ge ρ e' := by
  unfold ai_cn1
  have hx1 := hx.1; have hx2 := hx.2.1
  split
  · next hc =>
    rw [Bool.and_eq_true, ai_le_iff, ai_le_iff] at hc
    exact ai_lrn_g he hx (by omega) hx2
  · split
    · next hc =>
      rw [Bool.and_eq_true, ai_le_iff, ai_le_iff] at hc
      exact ai_lrn_g he hx hx1 (by omega)
    · exact ⟨e, rfl, he⟩
noncomputable def ai_cne (e : ai_E) (x y : ai_N) : Option ai_E := match (match ai_df x y with
    | some q => ai_le 0 q.1 && ai_le q.2 0
    | none => false) with
  | true => none
  | false => match ai_le y.2.1 y.1 with
    | true => ai_cn1 e x y.1
    | false => match ai_le x.2.1 x.1 with
      | true => ai_cn1 e y x.1
      | false => some e
theorem ai_cne_g {ρ : List Int} {e : ai_E} {x y : ai_N} {u v : Int} (he : ai_ge ρ e) (hx : ai_gn ρ x u) (hy : ai_gn ρ y v) (h : ¬ u = v) : ∃ e', ai_cne e x y = some e' ∧ ai_ge ρ e' := by
  unfold ai_cne
  have h1 : (match ai_df x y with
    | some q => ai_le 0 q.1 && ai_le q.2 0
    | none => false) = false := by
    split
    · next q hq =>
      have h2 := ai_df_g hx hy hq
      cases hc : ai_le 0 q.1 && ai_le q.2 0 with
      | false => rfl
      | true =>
        rw [Bool.and_eq_true, ai_le_iff, ai_le_iff] at hc
        omega
    · rfl
  rw [h1]
  have hx1 := hx.1; have hx2 := hx.2.1; have hy1 := hy.1; have hy2 := hy.2.1
  dsimp only
  split
  · next hc =>
    rw [ai_le_iff] at hc
    exact ai_cn1_g he hx (by omega)
  · split
    · next hc =>
      rw [ai_le_iff] at hc
      exact ai_cn1_g he hy (by omega)
    · exact ⟨e, rfl, he⟩
/-- learnt of a branch -/
noncomputable def ai_cc (c : Jvm.ClassFile.Cond) (b : Bool) (e : ai_E) (x y : ai_N) : Option ai_E := match c, b with
  | .eq, true => ai_ceq e x y
  | .eq, false => ai_cne e x y
  | .ne, true => ai_cne e x y
  | .ne, false => ai_ceq e x y
  | .lt, true => ai_cle e x y 1
  | .lt, false => ai_cle e y x 0
  | .ge, true => ai_cle e y x 0
  | .ge, false => ai_cle e x y 1
  | .gt, true => ai_cle e y x 1
  | .gt, false => ai_cle e x y 0
  | .le, true => ai_cle e x y 0
  | .le, false => ai_cle e y x 1
theorem ai_cc_g {ρ : List Int} {e : ai_E} {x y : ai_N} {u v : Int32} {c : Jvm.ClassFile.Cond} (he : ai_ge ρ e) (hx : ai_gn ρ x u.toInt) (hy : ai_gn ρ y v.toInt) : ∃ e', ai_cc c (ex_c2 c u v) e x y = some e' ∧ ai_ge ρ e' := by
  cases c
  case eq =>
    rw [kc_eq]
    by_cases h : u.toInt = v.toInt
    · rw [decide_eq_true h]; exact ai_ceq_g he hx hy h
    · rw [decide_eq_false h]; exact ai_cne_g he hx hy h
  case ne =>
    rw [kc_ne]
    by_cases h : u.toInt = v.toInt
    · rw [decide_eq_false (fun q => q h)]; exact ai_ceq_g he hx hy h
    · rw [decide_eq_true h]; exact ai_cne_g he hx hy h
  case lt =>
    rw [kc_lt]
    by_cases h : u.toInt < v.toInt
    · rw [decide_eq_true h]; exact ai_cle_g he hx hy (by omega)
    · rw [decide_eq_false h]; exact ai_cle_g he hy hx (by omega)
  case ge =>
    rw [kc_ge]
    by_cases h : v.toInt ≤ u.toInt
    · rw [decide_eq_true h]; exact ai_cle_g he hy hx (by omega)
    · rw [decide_eq_false h]; exact ai_cle_g he hx hy (by omega)
  case gt =>
    rw [kc_gt]
    by_cases h : v.toInt < u.toInt
    · rw [decide_eq_true h]; exact ai_cle_g he hy hx (by omega)
    · rw [decide_eq_false h]; exact ai_cle_g he hx hy (by omega)
  case le =>
    rw [kc_le]
    by_cases h : u.toInt ≤ v.toInt
    · rw [decide_eq_true h]; exact ai_cle_g he hx hy (by omega)
    · rw [decide_eq_false h]; exact ai_cle_g he hy hx (by omega)
end AIC
section AII
variable {ρ : List Int} {w0 w : ex_W} {S : ai_S} {lo : ex_L} {st : List Value} {outs : List ai_O} {pc i : Nat}
noncomputable def ai_1 (pc : Nat) (S : ai_S) : Option (List ai_O) := some [.inl (pc, S)]
theorem ai_1_s {w' : ex_W} {S' : ai_S} {lo' : ex_L} {st' : List Value} {ρ' : List Int} (h : ai_1 pc S' = some outs) (g : ρ <+: ρ') (H : ai_g ρ' w0 S' lo' st' w') : ai_sd ρ w0 w (ex_go pc lo' st' w') outs := by
  unfold ai_1 at h
  cases h
  exact ai_sd.go g H
theorem ai_sd.mem {w' : ex_W} {S' : ai_S} {lo' : ex_L} {st' : List Value} (hm : .inl (pc, S') ∈ outs) (H : ai_g ρ w0 S' lo' st' w') : ai_sd ρ w0 w (ex_go pc lo' st' w') outs := ⟨_, hm, ρ, List.prefix_refl ρ, lo', st', w', rfl, H⟩
noncomputable def ai_push (pc : Nat) (v : ai_V) (S : ai_S) : Option (List ai_O) := ai_1 pc (S.1, S.2.1, v :: S.2.2.1, S.2.2.2)
theorem ai_push_s {v : ai_V} {x : Value} (h : ai_push pc v S = some outs) (H : ai_g ρ w0 S lo st w) (hv : ai_gv ρ v (some x)) : ai_sd ρ w0 w (ex_go pc lo (x :: st) w) outs :=
  ai_1_s h (List.prefix_refl ρ) ⟨H.1, H.2.1, ⟨hv, H.2.2.1⟩, H.2.2.2⟩
/-- loads -/
noncomputable def ai_ld (b : Bool) (pc i : Nat) (S : ai_S) : Option (List ai_O) := match ex_at S.2.1 i with
  | some (.inl (b', n)) => match b == b' with
    | true => ai_1 pc ((ai_sym S.1 n).1, ex_put S.2.1 i (.inl (b, (ai_sym S.1 n).2)), .inl (b, (ai_sym S.1 n).2) :: S.2.2.1, S.2.2.2)
    | false => none
  | _ => none
noncomputable def ai_ldA (pc i : Nat) (S : ai_S) : Option (List ai_O) := match ex_at S.2.1 i with
  | some (.inr (some (.ref a))) => ai_push pc (.inr (some (.ref a))) S
  | some (.inr (some (.retAddr a))) => ai_push pc (.inr (some (.retAddr a))) S
  | _ => none
theorem ai_rd_of {x : Option Value} (h : lo[i]? = some x) : ex_rd lo i = x := by
  unfold ex_rd
  rw [ex_at_eq, h]
theorem ai_ld_s {b : Bool} (h : ai_ld b pc i S = some outs) (H : ai_g ρ w0 S lo st w) : ∃ v, ex_rd lo i = some v ∧ (∃ z, ai_nz b v = some z) ∧ ai_sd ρ w0 w (ex_go pc lo (v :: st) w) outs := by
  unfold ai_ld at h
  split at h
  · next b' n hn =>
    split at h
    · next hb =>
      obtain rfl : b = b' := eq_of_beq hb
      rw [ex_at_eq] at hn
      obtain ⟨x, h1, h2⟩ := H.2.1.2 i _ hn
      obtain ⟨v, z, rfl, h3, h4⟩ := h2
      obtain ⟨ρ', g, g1, g2⟩ := ai_sym_g H.1 h4
      have hv : ai_gv ρ' (.inl (b, (ai_sym S.1 n).2)) (some v) := ⟨v, z, rfl, h3, g2⟩
      exact ⟨v, ai_rd_of h1, ⟨z, h3⟩, ai_1_s h g ⟨g1, (H.2.1.up g).same h1 hv, ⟨hv, H.2.2.1.up g⟩, H.2.2.2.up g⟩⟩
    · cases h
  · cases h
theorem ai_ldI_s (h : ai_ld false pc i S = some outs) (H : ai_g ρ w0 S lo st w) : ai_sd ρ w0 w (ex_ldI pc lo i st w) outs := by
  obtain ⟨v, h1, ⟨z, h2⟩, h3⟩ := ai_ld_s h H
  obtain ⟨x, rfl, -⟩ := ai_nzI h2
  unfold ex_ldI
  rw [h1]
  exact h3
theorem ai_ldL_s (h : ai_ld true pc i S = some outs) (H : ai_g ρ w0 S lo st w) : ai_sd ρ w0 w (ex_ldL pc lo i st w) outs := by
  obtain ⟨v, h1, ⟨z, h2⟩, h3⟩ := ai_ld_s h H
  obtain ⟨x, rfl, -⟩ := ai_nzL h2
  unfold ex_ldL
  rw [h1]
  exact h3
theorem ai_ldA_s (h : ai_ldA pc i S = some outs) (H : ai_g ρ w0 S lo st w) : ai_sd ρ w0 w (ex_ldA pc lo i st w) outs := by
  unfold ai_ldA at h
  split at h
  · next a ha =>
    rw [ex_at_eq] at ha
    obtain ⟨x, h1, h2⟩ := H.2.1.2 i _ ha
    obtain rfl : x = some (.ref a) := h2
    unfold ex_ldA
    rw [ai_rd_of h1]
    exact ai_push_s h H rfl
  · next a ha =>
    rw [ex_at_eq] at ha
    obtain ⟨x, h1, h2⟩ := H.2.1.2 i _ ha
    obtain rfl : x = some (.retAddr a) := h2
    unfold ex_ldA
    rw [ai_rd_of h1]
    exact ai_push_s h H rfl
  · cases h
/-- stores -/
noncomputable def ai_kill (as : List ai_V) (i : Nat) : List ai_V := match i with
  | 0 => as
  | k + 1 => match ex_at as k with
    | some (.inl (false, _)) => as
    | some (.inr (some v)) => if ex_two v = true then ex_put as k (.inr none) else as
    | _ => ex_put as k (.inr none)
theorem ai_kill_g {as : List ai_V} (h : ai_gl ρ as lo) : ai_gl ρ (ai_kill as i) (ex_kill lo i) := by
  unfold ai_kill ex_kill
  cases i with
  | zero => exact h
  | succ k =>
    dsimp only
    have hd : ∀ (r : Option Value), ai_gl ρ (ex_put as k (.inr none)) (match r with
      | some v => if ex_two v = true then ex_put lo k none else lo
      | none => lo) := by
      intro r
      split
      · split
        · exact h.topAt none
        · exact h.top0
      · exact h.top0
    split
    · next n hn =>
      rw [ex_at_eq] at hn
      obtain ⟨x, h1, h2⟩ := h.2 k _ hn
      obtain ⟨v, z, rfl, h3, -⟩ := h2
      obtain ⟨y, rfl, -⟩ := ai_nzI h3
      rw [ai_rd_of h1]
      exact h
    · next v hn =>
      rw [ex_at_eq] at hn
      obtain ⟨x, h1, h2⟩ := h.2 k _ hn
      obtain rfl : x = some v := h2
      rw [ai_rd_of h1]
      dsimp only
      split
      · exact h.topAt none
      · exact h
    · exact hd _
noncomputable def ai_st1 (pc i : Nat) (v : ai_V) (r : List ai_V) (S : ai_S) : Option (List ai_O) := match Nat.blt i S.2.1.length with
  | true => ai_1 pc (S.1, ex_put (ai_kill S.2.1 i) i v, r, S.2.2.2)
  | false => none
noncomputable def ai_stI (pc i : Nat) (S : ai_S) : Option (List ai_O) := match S.2.2.1 with
  | .inl (false, n) :: r => ai_st1 pc i (.inl (false, n)) r S
  | _ => none
noncomputable def ai_stA (pc i : Nat) (S : ai_S) : Option (List ai_O) := match S.2.2.1 with
  | .inr (some (.ref a)) :: r => ai_st1 pc i (.inr (some (.ref a))) r S
  | _ => none
noncomputable def ai_stL (pc i : Nat) (S : ai_S) : Option (List ai_O) := match S.2.2.1 with
  | .inl (true, n) :: r => match Nat.blt (i + 1) S.2.1.length with
    | true => ai_1 pc (S.1, ex_put (ex_put (ai_kill S.2.1 i) (i + 1) (.inr none)) i (.inl (true, n)), r, S.2.2.2)
    | false => none
  | _ => none
theorem ai_st1_s {v : ai_V} {r : List ai_V} {x : Value} {r' : List Value} (h : ai_st1 pc i v r S = some outs) (H : ai_g ρ w0 S lo st w) (hv : ai_gv ρ v (some x)) (hr : ai_gst ρ r r') : i < lo.length ∧ ai_sd ρ w0 w (ex_go pc (ex_wr1 lo i x) r' w) outs := by
  unfold ai_st1 at h
  split at h
  · next hb =>
    refine ⟨by rw [← H.2.1.1]; exact Nat.blt_eq.mp hb, ?_⟩
    exact ai_1_s h (List.prefix_refl ρ) ⟨H.1, (ai_kill_g H.2.1).put hv, hr, H.2.2.2⟩
  · cases h
theorem ai_stI_s (h : ai_stI pc i S = some outs) (H : ai_g ρ w0 S lo st w) : ai_sd ρ w0 w (ex_stI pc lo i st w) outs := by
  unfold ai_stI at h
  split at h
  · next n r hs =>
    have hst := H.2.2.1
    rw [hs] at hst
    obtain ⟨v, r', rfl, h1, h2⟩ := hst.cons
    obtain ⟨x, rfl, h3⟩ := h1.int
    obtain ⟨g1, g2⟩ := ai_st1_s h H h1 h2
    unfold ex_stI
    dsimp only
    rw [if_pos g1]
    exact g2
  · cases h
theorem ai_stA_s (h : ai_stA pc i S = some outs) (H : ai_g ρ w0 S lo st w) : ai_sd ρ w0 w (ex_stA pc lo i st w) outs := by
  unfold ai_stA at h
  split at h
  · next n r hs =>
    have hst := H.2.2.1
    rw [hs] at hst
    obtain ⟨v, r', rfl, h1, h2⟩ := hst.cons
    obtain ⟨g1, g2⟩ := ai_st1_s h H h1 h2
    cases (show some v = some (.ref n) from h1)
    unfold ex_stA
    dsimp only
    rw [if_pos g1]
    exact g2
  · cases h
theorem ai_stL_s (h : ai_stL pc i S = some outs) (H : ai_g ρ w0 S lo st w) : ai_sd ρ w0 w (ex_stL pc lo i st w) outs := by
  unfold ai_stL at h
  split at h
  · next n r hs =>
    have hst := H.2.2.1
    rw [hs] at hst
    obtain ⟨v, r', rfl, h1, h2⟩ := hst.cons
    obtain ⟨x, rfl, h3⟩ := h1.long
    split at h
    · next hb =>
      have hb := Nat.blt_eq.mp hb
      unfold ex_stL
      dsimp only
      rw [if_pos (by rw [← H.2.1.1]; exact hb)]
      exact ai_1_s h (List.prefix_refl ρ) ⟨H.1, (((ai_kill_g H.2.1).topAt none).put h1), h2, H.2.2.2⟩
    · cases h
  · cases h
noncomputable def ai_inc (i : Nat) (n : Int) (pc : Nat) (S : ai_S) : Option (List ai_O) := match ex_at S.2.1 i with
  | some (.inl (false, x)) => ai_1 (pc + 3) (S.1, ex_put (ai_kill S.2.1 i) i (.inl (false, ai_add false (ai_eff S.1 x) ((Int32.ofInt n).toInt, (Int32.ofInt n).toInt, []))), S.2.2.1, S.2.2.2)
  | _ => none
theorem ai_inc_s {n : Int} (h : ai_inc i n pc S = some outs) (H : ai_g ρ w0 S lo st w) : ai_sd ρ w0 w (ex_inc i n pc lo st w) outs := by
  unfold ai_inc at h
  split at h
  · next x hx =>
    rw [ex_at_eq] at hx
    obtain ⟨y, h1, h2⟩ := H.2.1.2 i _ hx
    obtain ⟨v, z, rfl, h3, h4⟩ := h2
    obtain ⟨k, rfl, rfl⟩ := ai_nzI h3
    unfold ex_inc
    rw [ai_rd_of h1]
    refine ai_1_s h (List.prefix_refl ρ) ⟨H.1, (ai_kill_g H.2.1).put (ai_gv.ofI ?_), H.2.2.1, H.2.2.2⟩
    exact ai_add_g (ai_eff_g H.1 h4) (v := (Int32.ofInt n).toInt) ⟨Int.le_refl _, Int.le_refl _, ai_gr.no⟩ (ai_wrapI (Int32.toInt_add _ _))
  · cases h
/-- arithmetic -/
noncomputable def ai_i2 (g : ai_N → ai_N → ai_N) (pc : Nat) (S : ai_S) : Option (List ai_O) := match S.2.2.1 with
  | .inl (false, y) :: .inl (false, x) :: r => ai_1 pc (S.1, S.2.1, .inl (false, g (ai_eff S.1 x) (ai_eff S.1 y)) :: r, S.2.2.2)
  | _ => none
noncomputable def ai_l2 (g : ai_N → ai_N → ai_N) (pc : Nat) (S : ai_S) : Option (List ai_O) := match S.2.2.1 with
  | .inl (true, y) :: .inl (true, x) :: r => ai_1 pc (S.1, S.2.1, .inl (true, g (ai_eff S.1 x) (ai_eff S.1 y)) :: r, S.2.2.2)
  | _ => none
theorem ai_i2_s {f : Int32 → Int32 → Int32} {g : ai_N → ai_N → ai_N} (hg : ∀ (x y : ai_N) (u v : Int32), ai_gn ρ x u.toInt → ai_gn ρ y v.toInt → ai_gn ρ (g x y) (f u v).toInt) (h : ai_i2 g pc S = some outs) (H : ai_g ρ w0 S lo st w) : ai_sd ρ w0 w (ex_i2 f pc lo st w) outs := by
  unfold ai_i2 at h
  split at h
  · next y x r hs =>
    have hst := H.2.2.1
    rw [hs] at hst
    obtain ⟨v, r', rfl, h1, h2⟩ := hst.cons
    obtain ⟨v2, r2, rfl, h3, h4⟩ := h2.cons
    obtain ⟨b, rfl, h5⟩ := h1.int
    obtain ⟨a, rfl, h6⟩ := h3.int
    exact ai_1_s h (List.prefix_refl ρ) ⟨H.1, H.2.1, ⟨ai_gv.ofI (hg _ _ _ _ (ai_eff_g H.1 h6) (ai_eff_g H.1 h5)), h4⟩, H.2.2.2⟩
  · cases h
theorem ai_l2_s {f : Int64 → Int64 → Int64} {g : ai_N → ai_N → ai_N} (hg : ∀ (x y : ai_N) (u v : Int64), ai_gn ρ x u.toInt → ai_gn ρ y v.toInt → ai_gn ρ (g x y) (f u v).toInt) (h : ai_l2 g pc S = some outs) (H : ai_g ρ w0 S lo st w) : ai_sd ρ w0 w (ex_l2 f pc lo st w) outs := by
  unfold ai_l2 at h
  split at h
  · next y x r hs =>
    have hst := H.2.2.1
    rw [hs] at hst
    obtain ⟨v, r', rfl, h1, h2⟩ := hst.cons
    obtain ⟨v2, r2, rfl, h3, h4⟩ := h2.cons
    obtain ⟨b, rfl, h5⟩ := h1.long
    obtain ⟨a, rfl, h6⟩ := h3.long
    exact ai_1_s h (List.prefix_refl ρ) ⟨H.1, H.2.1, ⟨ai_gv.ofL (hg _ _ _ _ (ai_eff_g H.1 h6) (ai_eff_g H.1 h5)), h4⟩, H.2.2.2⟩
  · cases h
/-- not 0 -/
noncomputable def ai_n0 (y : ai_N) : Bool := ai_le 1 y.1 || ai_le y.2.1 (-1)
noncomputable def ai_d2 (g : ai_N → ai_N → ai_N) (pc : Nat) (S : ai_S) : Option (List ai_O) := match S.2.2.1 with
  | .inl (false, y) :: .inl (false, x) :: r => match ai_n0 (ai_eff S.1 y) with
    | true => ai_1 pc (S.1, S.2.1, .inl (false, g (ai_eff S.1 x) (ai_eff S.1 y)) :: r, S.2.2.2)
    | false => none
  | _ => none
noncomputable def ai_e2 (g : ai_N → ai_N → ai_N) (pc : Nat) (S : ai_S) : Option (List ai_O) := match S.2.2.1 with
  | .inl (true, y) :: .inl (true, x) :: r => match ai_n0 (ai_eff S.1 y) with
    | true => ai_1 pc (S.1, S.2.1, .inl (true, g (ai_eff S.1 x) (ai_eff S.1 y)) :: r, S.2.2.2)
    | false => none
  | _ => none
theorem ai_n0_g {y : ai_N} {z : Int} (h : ai_n0 y = true) (g : ai_gn ρ y z) : ¬ z = 0 := by
  unfold ai_n0 at h
  rw [Bool.or_eq_true, ai_le_iff, ai_le_iff] at h
  have := g.1; have := g.2.1
  omega
theorem ai_d2_s {f : Int32 → Int32 → Int32} {g : ai_N → ai_N → ai_N} (hg : ∀ (x y : ai_N) (u v : Int32), ai_gn ρ x u.toInt → ai_gn ρ y v.toInt → ai_gn ρ (g x y) (f u v).toInt) (h : ai_d2 g pc S = some outs) (H : ai_g ρ w0 S lo st w) : ai_sd ρ w0 w (ex_d2 f pc lo st w) outs := by
  unfold ai_d2 at h
  split at h
  · next y x r hs =>
    have hst := H.2.2.1
    rw [hs] at hst
    obtain ⟨v, r', rfl, h1, h2⟩ := hst.cons
    obtain ⟨v2, r2, rfl, h3, h4⟩ := h2.cons
    obtain ⟨b, rfl, h5⟩ := h1.int
    obtain ⟨a, rfl, h6⟩ := h3.int
    split at h
    · next hb =>
      have hz := ai_n0_g hb (ai_eff_g H.1 h5)
      unfold ex_d2
      dsimp only
      rw [if_neg (fun q => hz (by rw [q]; rfl))]
      exact ai_1_s h (List.prefix_refl ρ) ⟨H.1, H.2.1, ⟨ai_gv.ofI (hg _ _ _ _ (ai_eff_g H.1 h6) (ai_eff_g H.1 h5)), h4⟩, H.2.2.2⟩
    · cases h
  · cases h
theorem ai_e2_s {f : Int64 → Int64 → Int64} {g : ai_N → ai_N → ai_N} (hg : ∀ (x y : ai_N) (u v : Int64), ai_gn ρ x u.toInt → ai_gn ρ y v.toInt → ai_gn ρ (g x y) (f u v).toInt) (h : ai_e2 g pc S = some outs) (H : ai_g ρ w0 S lo st w) : ai_sd ρ w0 w (ex_e2 f pc lo st w) outs := by
  unfold ai_e2 at h
  split at h
  · next y x r hs =>
    have hst := H.2.2.1
    rw [hs] at hst
    obtain ⟨v, r', rfl, h1, h2⟩ := hst.cons
    obtain ⟨v2, r2, rfl, h3, h4⟩ := h2.cons
    obtain ⟨b, rfl, h5⟩ := h1.long
    obtain ⟨a, rfl, h6⟩ := h3.long
    split at h
    · next hb =>
      have hz := ai_n0_g hb (ai_eff_g H.1 h5)
      unfold ex_e2
      dsimp only
      rw [if_neg (fun q => hz (by rw [q]; rfl))]
      exact ai_1_s h (List.prefix_refl ρ) ⟨H.1, H.2.1, ⟨ai_gv.ofL (hg _ _ _ _ (ai_eff_g H.1 h6) (ai_eff_g H.1 h5)), h4⟩, H.2.2.2⟩
    · cases h
  · cases h
noncomputable def ai_i1 (g : ai_N → ai_N) (pc : Nat) (S : ai_S) : Option (List ai_O) := match S.2.2.1 with
  | .inl (false, x) :: r => ai_1 pc (S.1, S.2.1, .inl (false, g (ai_eff S.1 x)) :: r, S.2.2.2)
  | _ => none
theorem ai_i1_s {f : Int32 → Int32} {g : ai_N → ai_N} (hg : ∀ (x : ai_N) (u : Int32), ai_gn ρ x u.toInt → ai_gn ρ (g x) (f u).toInt) (h : ai_i1 g pc S = some outs) (H : ai_g ρ w0 S lo st w) : ai_sd ρ w0 w (ex_i1 f pc lo st w) outs := by
  unfold ai_i1 at h
  split at h
  · next x r hs =>
    have hst := H.2.2.1
    rw [hs] at hst
    obtain ⟨v, r', rfl, h1, h2⟩ := hst.cons
    obtain ⟨b, rfl, h5⟩ := h1.int
    exact ai_1_s h (List.prefix_refl ρ) ⟨H.1, H.2.1, ⟨ai_gv.ofI (hg _ _ (ai_eff_g H.1 h5)), h2⟩, H.2.2.2⟩
  · cases h
noncomputable def ai_ls (pc : Nat) (S : ai_S) : Option (List ai_O) := match S.2.2.1 with
  | .inl (false, _) :: .inl (true, _) :: r => ai_1 pc (S.1, S.2.1, .inl (true, ai_top true) :: r, S.2.2.2)
  | _ => none
theorem ai_ls_s {f : Int64 → Int32 → Int64} (h : ai_ls pc S = some outs) (H : ai_g ρ w0 S lo st w) : ai_sd ρ w0 w (ex_ls f pc lo st w) outs := by
  unfold ai_ls at h
  split at h
  · next y x r hs =>
    have hst := H.2.2.1
    rw [hs] at hst
    obtain ⟨v, r', rfl, h1, h2⟩ := hst.cons
    obtain ⟨v2, r2, rfl, h3, h4⟩ := h2.cons
    obtain ⟨b, rfl, h5⟩ := h1.int
    obtain ⟨a, rfl, h6⟩ := h3.long
    exact ai_1_s h (List.prefix_refl ρ) ⟨H.1, H.2.1, ⟨ai_gv.ofL (ai_top_g (ai_okL _)), h4⟩, H.2.2.2⟩
  · cases h
noncomputable def ai_i2l (pc : Nat) (S : ai_S) : Option (List ai_O) := match S.2.2.1 with
  | .inl (false, x) :: r => ai_1 pc (S.1, S.2.1, .inl (true, x) :: r, S.2.2.2)
  | _ => none
theorem ai_i2l_s (h : ai_i2l pc S = some outs) (H : ai_g ρ w0 S lo st w) : ai_sd ρ w0 w (ex_i2l pc lo st w) outs := by
  unfold ai_i2l at h
  split at h
  · next x r hs =>
    have hst := H.2.2.1
    rw [hs] at hst
    obtain ⟨v, r', rfl, h1, h2⟩ := hst.cons
    obtain ⟨b, rfl, h5⟩ := h1.int
    exact ai_1_s h (List.prefix_refl ρ) ⟨H.1, H.2.1, ⟨ai_gv.ofL (by rw [Int32.toInt_toInt64]; exact h5), h2⟩, H.2.2.2⟩
  · cases h
noncomputable def ai_l2i (pc : Nat) (S : ai_S) : Option (List ai_O) := match S.2.2.1 with
  | .inl (true, x) :: r => ai_1 pc (S.1, S.2.1, .inl (false, ai_fix false (ai_eff S.1 x).1 (ai_eff S.1 x).2.1 (ai_eff S.1 x).2.2) :: r, S.2.2.2)
  | _ => none
theorem ai_l2i_s (h : ai_l2i pc S = some outs) (H : ai_g ρ w0 S lo st w) : ai_sd ρ w0 w (ex_l2i pc lo st w) outs := by
  unfold ai_l2i at h
  split at h
  · next x r hs =>
    have hst := H.2.2.1
    rw [hs] at hst
    obtain ⟨v, r', rfl, h1, h2⟩ := hst.cons
    obtain ⟨b, rfl, h5⟩ := h1.long
    have h6 := ai_eff_g H.1 h5
    exact ai_1_s h (List.prefix_refl ρ) ⟨H.1, H.2.1, ⟨ai_gv.ofI (ai_fix_g (ai_wrapI (Int64.toInt_toInt32 b)) h6.1 h6.2.1 h6.2.2), h2⟩, H.2.2.2⟩
  · cases h
/-- branches -/
noncomputable def ai_bo (pc : Nat) (lo st : List ai_V) (w : ai_W) (e : Option ai_E) : List ai_O := match e with
  | some e => [.inl (pc, (e, lo, st, w))]
  | none => []
noncomputable def ai_if (e : Bool → Option ai_E) (pc : Nat) (off : Int) (r : List ai_V) (S : ai_S) : Option (List ai_O) := match ai_le 0 ((pc : Int) + off) with
  | true => some (ai_bo (ex_tg pc off) S.2.1 r S.2.2.2 (e true) ++ ai_bo (pc + 3) S.2.1 r S.2.2.2 (e false))
  | false => none
theorem ai_if_s {e : Bool → Option ai_E} {off : Int} {r : List ai_V} {r' : List Value} {b : Bool} (h : ai_if e pc off r S = some outs) (H : ai_g ρ w0 S lo st w) (hr : ai_gst ρ r r') (he : ∃ e', e b = some e' ∧ ai_ge ρ e') : ai_sd ρ w0 w (ex_if b pc off lo r' w) outs := by
  unfold ai_if at h
  split at h
  · next hc =>
    rw [ai_le_iff] at hc
    cases h
    obtain ⟨e', h1, h2⟩ := he
    unfold ex_if
    rw [if_pos hc]
    cases b with
    | true =>
      refine ⟨.inl (ex_tg pc off, (e', S.2.1, r, S.2.2.2)), ?_, ρ, List.prefix_refl ρ, lo, r', w, rfl, h2, H.2.1, hr, H.2.2.2⟩
      rw [h1]
      exact List.mem_append_left _ (List.mem_singleton.mpr rfl)
    | false =>
      refine ⟨.inl (pc + 3, (e', S.2.1, r, S.2.2.2)), ?_, ρ, List.prefix_refl ρ, lo, r', w, rfl, h2, H.2.1, hr, H.2.2.2⟩
      rw [h1]
      exact List.mem_append_right _ (List.mem_singleton.mpr rfl)
  · cases h
noncomputable def ai_b0 (c : Jvm.ClassFile.Cond) (off : Int) (pc : Nat) (S : ai_S) : Option (List ai_O) := match S.2.2.1 with
  | .inl (false, x) :: r => ai_if (fun b => ai_cc c b S.1 (ai_eff S.1 x) (0, 0, [])) pc off r S
  | _ => none
noncomputable def ai_b2 (c : Jvm.ClassFile.Cond) (off : Int) (pc : Nat) (S : ai_S) : Option (List ai_O) := match S.2.2.1 with
  | .inl (false, y) :: .inl (false, x) :: r => ai_if (fun b => ai_cc c b S.1 (ai_eff S.1 x) (ai_eff S.1 y)) pc off r S
  | _ => none
theorem ai_b0_s {c : Jvm.ClassFile.Cond} {off : Int} (h : ai_b0 c off pc S = some outs) (H : ai_g ρ w0 S lo st w) : ai_sd ρ w0 w (ex_b0 c off pc lo st w) outs := by
  unfold ai_b0 at h
  split at h
  · next x r hs =>
    have hst := H.2.2.1
    rw [hs] at hst
    obtain ⟨v, r', rfl, h1, h2⟩ := hst.cons
    obtain ⟨b, rfl, h5⟩ := h1.int
    unfold ex_b0
    dsimp only
    rw [k0_k2]
    exact ai_if_s h H h2 (ai_cc_g H.1 (ai_eff_g H.1 h5) (v := 0) ⟨by decide, by decide, ai_gr.no⟩)
  · cases h
theorem ai_b2_s {c : Jvm.ClassFile.Cond} {off : Int} (h : ai_b2 c off pc S = some outs) (H : ai_g ρ w0 S lo st w) : ai_sd ρ w0 w (ex_b2 c off pc lo st w) outs := by
  unfold ai_b2 at h
  split at h
  · next y x r hs =>
    have hst := H.2.2.1
    rw [hs] at hst
    obtain ⟨v, r', rfl, h1, h2⟩ := hst.cons
    obtain ⟨v2, r2, rfl, h3, h4⟩ := h2.cons
    obtain ⟨b, rfl, h5⟩ := h1.int
    obtain ⟨a, rfl, h6⟩ := h3.int
    exact ai_if_s h H h4 (ai_cc_g H.1 (ai_eff_g H.1 h6) (ai_eff_g H.1 h5))
  · cases h
noncomputable def ai_jp (off : Int) (pc : Nat) (S : ai_S) : Option (List ai_O) := match ai_le 0 ((pc : Int) + off) with
  | true => ai_1 (ex_tg pc off) S
  | false => none
theorem ai_jp_s {off : Int} (h : ai_jp off pc S = some outs) (H : ai_g ρ w0 S lo st w) : ai_sd ρ w0 w (ex_jp pc off lo st w) outs := by
  unfold ai_jp at h
  split at h
  · next hc =>
    rw [ai_le_iff] at hc
    unfold ex_jp
    rw [if_pos hc]
    exact ai_1_s h (List.prefix_refl ρ) H
  · cases h
/-- the three ways of lcmp -/
noncomputable def ai_lcm (pc : Nat) (S : ai_S) : Option (List ai_O) := match S.2.2.1 with
  | .inl (true, y) :: .inl (true, x) :: r => some (ai_bo pc S.2.1 (.inl (false, -1, -1, []) :: r) S.2.2.2 (ai_cle S.1 (ai_eff S.1 x) (ai_eff S.1 y) 1) ++ (ai_bo pc S.2.1 (.inl (false, 0, 0, []) :: r) S.2.2.2 (ai_ceq S.1 (ai_eff S.1 x) (ai_eff S.1 y)) ++ ai_bo pc S.2.1 (.inl (false, 1, 1, []) :: r) S.2.2.2 (ai_cle S.1 (ai_eff S.1 y) (ai_eff S.1 x) 1)))
  | _ => none
theorem ai_lcm_s (h : ai_lcm pc S = some outs) (H : ai_g ρ w0 S lo st w) : ai_sd ρ w0 w (ex_lcm pc lo st w) outs := by
  unfold ai_lcm at h
  split at h
  · next y x r hs =>
    have hst := H.2.2.1
    rw [hs] at hst
    obtain ⟨v, r', rfl, h1, h2⟩ := hst.cons
    obtain ⟨v2, r2, rfl, h3, h4⟩ := h2.cons
    obtain ⟨b, rfl, h5⟩ := h1.long
    obtain ⟨a, rfl, h6⟩ := h3.long
    cases h
    have g5 := ai_eff_g H.1 h5
    have g6 := ai_eff_g H.1 h6
    have e : ex_lcm pc lo (.long b :: .long a :: r2) w = ex_go pc lo (.int (lg_cmp a b) :: r2) w := rfl
    rw [e]
    unfold lg_cmp
    simp only [Int64.lt_iff_toInt_lt, ← Int64.toInt_inj]
    rcases Int.lt_trichotomy a.toInt b.toInt with q | q | q
    · rw [if_neg (by omega), if_neg (by omega)]
      obtain ⟨e', p1, p2⟩ := ai_cle_g H.1 g6 g5 (d := 1) (by omega)
      exact ai_sd.mem (S' := (e', S.2.1, .inl (false, -1, -1, []) :: r, S.2.2.2)) (List.mem_append_left _ (by rw [p1]; exact List.mem_singleton.mpr rfl)) ⟨p2, H.2.1, ⟨ai_gv.ofI ⟨by decide, by decide, ai_gr.no⟩, h4⟩, H.2.2.2⟩
    · rw [if_neg (by omega), if_pos q]
      obtain ⟨e', p1, p2⟩ := ai_ceq_g H.1 g6 g5 q
      exact ai_sd.mem (S' := (e', S.2.1, .inl (false, 0, 0, []) :: r, S.2.2.2)) (List.mem_append_right _ (List.mem_append_left _ (by rw [p1]; exact List.mem_singleton.mpr rfl))) ⟨p2, H.2.1, ⟨ai_gv.ofI ⟨by decide, by decide, ai_gr.no⟩, h4⟩, H.2.2.2⟩
    · rw [if_pos q]
      obtain ⟨e', p1, p2⟩ := ai_cle_g H.1 g5 g6 (d := 1) (by omega)
      exact ai_sd.mem (S' := (e', S.2.1, .inl (false, 1, 1, []) :: r, S.2.2.2)) (List.mem_append_right _ (List.mem_append_right _ (by rw [p1]; exact List.mem_singleton.mpr rfl))) ⟨p2, H.2.1, ⟨ai_gv.ofI ⟨by decide, by decide, ai_gr.no⟩, h4⟩, H.2.2.2⟩
  · cases h
/-- a switch: numbers below and above, then each one -/
noncomputable def ai_swl (pc : Nat) (x : ai_N) (r : List ai_V) (S : ai_S) (l : List Int) : Int → List ai_O := List.rec (motive := fun _ => Int → List ai_O) (fun _ => []) (fun off _ ih k => ai_bo (ex_tg pc off) S.2.1 r S.2.2.2 (ai_lrn S.1 x k k) ++ ih (k + 1)) l
theorem ai_swl_c (pc : Nat) (x : ai_N) (r : List ai_V) (S : ai_S) (off : Int) (l : List Int) (k : Int) : ai_swl pc x r S (off :: l) k = ai_bo (ex_tg pc off) S.2.1 r S.2.2.2 (ai_lrn S.1 x k k) ++ ai_swl pc x r S l (k + 1) := rfl
theorem ai_swl_g {x : ai_N} {r : List ai_V} {off : Int} {e' : ai_E} : ∀ {l : List Int} {k : Int} {j : Nat}, l[j]? = some off → ai_lrn S.1 x (k + j) (k + j) = some e' → .inl (ex_tg pc off, (e', S.2.1, r, S.2.2.2)) ∈ ai_swl pc x r S l k
  | a :: l, k, 0, hj, he => by
    cases hj
    rw [ai_swl_c]
    rw [show k + ((0 : Nat) : Int) = k by omega] at he
    rw [he]
    exact List.mem_append_left _ (List.mem_singleton.mpr rfl)
  | a :: l, k, j + 1, hj, he => by
    rw [ai_swl_c]
    refine List.mem_append_right _ (ai_swl_g (k := k + 1) (j := j) (by simpa using hj) ?_)
    rw [show k + 1 + (j : Int) = k + ((j + 1 : Nat) : Int) by omega]
    exact he
noncomputable def ai_tsw (d lw hi : Int) (offs : Array Int) (pc : Nat) (S : ai_S) : Option (List ai_O) := match S.2.2.1 with
  | .inl (false, x) :: r => match ai_le 0 ((pc : Int) + d) && (ai_le (hi + 1) (lw + offs.toList.length) && offs.toList.all (fun off => ai_le 0 ((pc : Int) + off))) with
    | true => some (ai_bo (ex_tg pc d) S.2.1 r S.2.2.2 (ai_lrn S.1 (ai_eff S.1 x) (ai_eff S.1 x).1 (lw - 1)) ++ (ai_bo (ex_tg pc d) S.2.1 r S.2.2.2 (ai_lrn S.1 (ai_eff S.1 x) (hi + 1) (ai_eff S.1 x).2.1) ++ ai_swl pc (ai_eff S.1 x) r S offs.toList lw))
    | false => none
  | _ => none
theorem ai_tsw_s {d lw hi : Int} {offs : Array Int} (h : ai_tsw d lw hi offs pc S = some outs) (H : ai_g ρ w0 S lo st w) : ai_sd ρ w0 w (ex_tsw d lw hi offs pc lo st w) outs := by
  unfold ai_tsw at h
  split at h
  · next x r hs =>
    have hst := H.2.2.1
    rw [hs] at hst
    obtain ⟨v, r', rfl, h1, h2⟩ := hst.cons
    obtain ⟨b, rfl, h5⟩ := h1.int
    have g5 := ai_eff_g H.1 h5
    split at h
    · next hc =>
      rw [Bool.and_eq_true, Bool.and_eq_true, ai_le_iff, ai_le_iff, List.all_eq_true] at hc
      obtain ⟨c1, c2, c3⟩ := hc
      cases h
      unfold ex_tsw
      dsimp only
      by_cases q : b.toInt < lw ∨ hi < b.toInt
      · rw [if_pos q]
        unfold ex_jp
        rw [if_pos c1]
        rcases q with q | q
        · obtain ⟨e', p1, p2⟩ := ai_lrn_g H.1 g5 (l := (ai_eff S.1 x).1) (h := lw - 1) g5.1 (by omega)
          exact ai_sd.mem (S' := (e', S.2.1, r, S.2.2.2)) (List.mem_append_left _ (by rw [p1]; exact List.mem_singleton.mpr rfl)) ⟨p2, H.2.1, h2, H.2.2.2⟩
        · obtain ⟨e', p1, p2⟩ := ai_lrn_g H.1 g5 (l := hi + 1) (h := (ai_eff S.1 x).2.1) (by omega) g5.2.1
          exact ai_sd.mem (S' := (e', S.2.1, r, S.2.2.2)) (List.mem_append_right _ (List.mem_append_left _ (by rw [p1]; exact List.mem_singleton.mpr rfl))) ⟨p2, H.2.1, h2, H.2.2.2⟩
      · rw [if_neg q]
        have hj : (b.toInt - lw).toNat < offs.toList.length := by omega
        have ho : offs[(b.toInt - lw).toNat]? = some (offs.toList[(b.toInt - lw).toNat]) := by
          rw [← Array.getElem?_toList]
          exact List.getElem?_eq_getElem hj
        rw [ho]
        have c4 := c3 _ (List.getElem_mem hj)
        rw [ai_le_iff] at c4
        dsimp only
        unfold ex_jp
        rw [if_pos c4]
        obtain ⟨e', p1, p2⟩ := ai_lrn_g H.1 g5 (l := lw + ((b.toInt - lw).toNat : Int)) (h := lw + ((b.toInt - lw).toNat : Int)) (by omega) (by omega)
        exact ai_sd.mem (S' := (e', S.2.1, r, S.2.2.2)) (List.mem_append_right _ (List.mem_append_right _ (ai_swl_g (List.getElem?_eq_getElem hj) p1))) ⟨p2, H.2.1, h2, H.2.2.2⟩
    · cases h
  · cases h
end AII
