/-! FIELDS, ROWS, CALLS AND RETURNS of the abstract interpreter. -/
section AIH
variable {ρ : List Int} {w0 w : ex_W} {S : ai_S} {lo : ex_L} {st : List Value} {outs : List ai_O} {pc i : Nat}
noncomputable def ai_gf (t : Option (Nat × Nat × Nat)) (pc : Nat) (S : ai_S) : Option (List ai_O) := match t, S.2.2.1 with
  | some (ci, k, _), .inr (some (.ref a)) :: r => match ex_at S.2.2.2 a with
    | some (ch, some (.inr (.inr (c, vs)))) => match Nat.beq c ci with
      | true => match ex_at vs k with
        | some (.inl (b, n)) => ai_1 (pc + 3) ((ai_sym S.1 n).1, S.2.1, .inl (b, (ai_sym S.1 n).2) :: r, ex_put S.2.2.2 a (ch, some (.inr (.inr (c, ex_put vs k (.inl (b, (ai_sym S.1 n).2)))))))
        | some (.inr (some v)) => ai_1 (pc + 3) (S.1, S.2.1, .inr (some v) :: r, S.2.2.2)
        | _ => none
      | false => none
    | _ => none
  | _, _ => none
theorem ai_cell {p : Nat} {ch : Bool} {c : ai_C} (H : ai_g ρ w0 S lo st w) (h : ex_at S.2.2.2 p = some (ch, some c)) : ∃ x, w[p]? = some x ∧ ai_gc ρ c x ∧ S.2.2.2[p]? = some (ch, some c) := by
  rw [ex_at_eq] at h
  obtain ⟨x, h1, -, h3⟩ := H.2.2.2.2.2 p _ h
  exact ⟨x, h1, h3 c rfl, h⟩
theorem ai_fld {vs : List ai_V} {fs : List Value} {k : Nat} {a : ai_V} (h : ai_gl ρ vs (fs.map some)) (hk : ex_at vs k = some a) : ∃ v, fs[k]? = some v ∧ ai_gv ρ a (some v) := by
  rw [ex_at_eq] at hk
  obtain ⟨x, h1, h2⟩ := h.2 k a hk
  rw [List.getElem?_map] at h1
  cases hf : fs[k]? with
  | none => rw [hf] at h1; cases h1
  | some v =>
    rw [hf] at h1
    cases h1
    exact ⟨v, rfl, h2⟩
theorem ai_gf_s {t : Option (Nat × Nat × Nat)} (h : ai_gf t pc S = some outs) (H : ai_g ρ w0 S lo st w) : ai_sd ρ w0 w (ex_gf t pc lo st w) outs := by
  unfold ai_gf at h
  split at h
  · next ci k z a r hs =>
    have hst := H.2.2.1
    rw [hs] at hst
    obtain ⟨v, r', rfl, h1, h2⟩ := hst.cons
    cases (show some v = some (.ref a) from h1)
    split at h
    · next ch c vs hc =>
      obtain ⟨x, g1, g2, g3⟩ := ai_cell H hc
      obtain ⟨fs, rfl, g4⟩ := g2.obj
      split at h
      · next hb =>
        obtain rfl : c = ci := Nat.eq_of_beq_eq_true hb
        unfold ex_gf
        dsimp only
        rw [show ex_at w a = some (.inr (.inr (c, fs))) by rw [ex_at_eq]; exact g1]
        dsimp only
        split at h
        · next b n hn =>
          obtain ⟨v, f1, f2⟩ := ai_fld g4 hn
          rw [show ex_at fs k = some v by rw [ex_at_eq]; exact f1]
          dsimp only
          rw [if_pos rfl]
          obtain ⟨v', y, e1, e2, e3⟩ := f2
          cases e1
          obtain ⟨ρ', q1, q2, q3⟩ := ai_sym_g H.1 e3
          have hv : ai_gv ρ' (.inl (b, (ai_sym S.1 n).2)) (some v) := ⟨v, y, rfl, e2, q3⟩
          refine ai_1_s h q1 ⟨q2, H.2.1.up q1, ⟨hv, h2.up q1⟩, (H.2.2.2.up q1).know g3 g1 ⟨rfl, ?_⟩⟩
          exact (g4.up q1).same (x := some v) (by rw [List.getElem?_map, f1]; rfl) hv
        · next v hn =>
          obtain ⟨v', f1, f2⟩ := ai_fld g4 hn
          cases (show some v' = some v from f2)
          rw [show ex_at fs k = some v by rw [ex_at_eq]; exact f1]
          dsimp only
          rw [if_pos rfl]
          exact ai_1_s h (List.prefix_refl ρ) ⟨H.1, H.2.1, ⟨rfl, h2⟩, H.2.2.2⟩
        · cases h
      · cases h
    · cases h
  · cases h
noncomputable def ai_fit (e : ai_E) (ty : FieldType) (v : ai_V) : Bool := match ty, v with
  | .int, .inl (false, _) => true
  | .long, .inl (true, _) => true
  | .boolean, .inl (false, n) => ai_le 0 (ai_eff e n).1 && ai_le (ai_eff e n).2.1 1
  | .object _, .inr (some (.ref _)) => true
  | .array _, .inr (some (.ref _)) => true
  | _, _ => false
theorem ai_01 {x : Int32} (h1 : 0 ≤ x.toInt) (h2 : x.toInt ≤ 1) : x = 0 ∨ x = 1 := by
  by_cases h : x.toInt = 0
  · exact Or.inl (Int32.toInt_inj.mp (by rw [h]; rfl))
  · exact Or.inr (Int32.toInt_inj.mp (by show x.toInt = 1; omega))
theorem ai_fit_g {e : ai_E} {ty : FieldType} {a : ai_V} {v : Value} (he : ai_ge ρ e) (h : ai_fit e ty a = true) (g : ai_gv ρ a (some v)) : ex_fit ty v = true := by
  unfold ai_fit at h
  split at h
  · obtain ⟨i, rfl, -⟩ := g.int; rfl
  · obtain ⟨i, rfl, -⟩ := g.long; rfl
  · next n =>
    obtain ⟨i, rfl, h2⟩ := g.int
    have h3 := ai_eff_g he h2
    rw [Bool.and_eq_true, ai_le_iff, ai_le_iff] at h
    have := h3.1; have := h3.2.1
    unfold ex_fit
    rcases ai_01 (x := i) (by omega) (by omega) with rfl | rfl <;> rfl
  · cases (show some v = some _ from g); rfl
  · cases (show some v = some _ from g); rfl
  · cases h
noncomputable def ai_str (e : ai_E) (v : ai_V) : ai_V := match v with
  | .inl (b, n) => .inl (b, ai_eff e n)
  | .inr x => .inr x
theorem ai_str_g {e : ai_E} {a : ai_V} {v : Option Value} (he : ai_ge ρ e) (g : ai_gv ρ a v) : ai_gv ρ (ai_str e a) v := by
  unfold ai_str
  split
  · obtain ⟨x, z, h1, h2, h3⟩ := g
    exact ⟨x, z, h1, h2, ai_eff_g he h3⟩
  · exact g
noncomputable def ai_pf (t : Option (Nat × Nat × Nat)) (pc : Nat) (S : ai_S) : Option (List ai_O) := match t, S.2.2.1 with
  | some (ci, k, _), v :: .inr (some (.ref a)) :: r => match ex_at S.2.2.2 a with
    | some (_, some (.inr (.inr (c, vs)))) => match Nat.beq c ci && (Nat.blt k vs.length && (ai_fit S.1 (ex_fty ci k) v && !(ex_ffin ci k))) with
      | true => ai_1 (pc + 3) (S.1, S.2.1, r, ex_put S.2.2.2 a (true, some (.inr (.inr (c, ex_put vs k (ai_str S.1 v))))))
      | false => none
    | _ => none
  | _, _ => none
theorem ai_mput {fs : List Value} {k : Nat} {v : Value} : (ex_put fs k v).map some = ex_put (fs.map some) k (some v) := by
  rw [ex_put_eq, ex_put_eq, List.map_set]
theorem ai_pf_s {t : Option (Nat × Nat × Nat)} {cn : Nat} {isI : Bool} (h : ai_pf t pc S = some outs) (H : ai_g ρ w0 S lo st w) : ai_sd ρ w0 w (ex_pf t cn isI pc lo st w) outs := by
  unfold ai_pf at h
  split at h
  · next ci k z a0 a r hs =>
    have hst := H.2.2.1
    rw [hs] at hst
    obtain ⟨v, r', rfl, h1, h2⟩ := hst.cons
    obtain ⟨v2, r2, rfl, h3, h4⟩ := h2.cons
    cases (show some v2 = some (.ref a) from h3)
    split at h
    · next ch c vs hc =>
      obtain ⟨x, g1, g2, g3⟩ := ai_cell H hc
      obtain ⟨fs, rfl, g4⟩ := g2.obj
      split at h
      · next hb =>
        rw [Bool.and_eq_true, Bool.and_eq_true, Bool.and_eq_true, Bool.not_eq_true'] at hb
        obtain ⟨b1, b2, b3, b4⟩ := hb
        obtain rfl : c = ci := Nat.eq_of_beq_eq_true b1
        have b2 := Nat.blt_eq.mp b2
        unfold ex_pf
        dsimp only
        rw [show ex_at w a = some (.inr (.inr (c, fs))) by rw [ex_at_eq]; exact g1]
        dsimp only
        have hl : k < fs.length := by
          have := g4.1
          rw [List.length_map] at this
          omega
        rw [if_pos ⟨rfl, hl, ai_fit_g H.1 b3 h1, Or.inl b4⟩]
        refine ai_1_s h (List.prefix_refl ρ) ⟨H.1, H.2.1, h4, H.2.2.2.put ⟨rfl, ?_⟩⟩
        rw [ai_mput]
        exact g4.put (ai_str_g H.1 h1)
      · cases h
    · cases h
  · cases h
/-- rows of numbers -/
theorem ai_ixN {j : Int32} {n : Nat} (h0 : 0 ≤ j.toInt) (h1 : j.toInt < n) : ex_ix j n = true ∧ j.toNatClampNeg < n ∧ (j.toNatClampNeg : Int) = j.toInt := by
  have e : (j.toNatClampNeg : Int) = j.toInt := Int.toNat_of_nonneg h0
  refine ⟨?_, by omega, e⟩
  unfold ex_ix
  refine decide_eq_true ?_
  rintro (q | q)
  · rw [Int32.lt_iff_toInt_lt] at q
    have : (0 : Int32).toInt = 0 := rfl
    omega
  · omega
noncomputable def ai_ald (by_ : Bool) (pc : Nat) (S : ai_S) : Option (List ai_O) := match S.2.2.1 with
  | .inl (false, i) :: .inr (some (.ref a)) :: r => match ex_at S.2.2.2 a with
    | some (ch, some (.inl (ty, s))) => match ex_aty by_ ty && (ai_le 0 (ai_eff S.1 i).1 && ai_le ((ai_eff S.1 i).2.1 + 1) (ai_sn s)) with
      | true => match (match ai_le (ai_eff S.1 i).2.1 (ai_eff S.1 i).1 with
          | true => ai_s1 s (ai_eff S.1 i).1
          | false => none) with
        | some n => ai_1 (pc + 1) ((ai_sym S.1 n).1, S.2.1, .inl (false, (ai_sym S.1 n).2) :: r, ex_put S.2.2.2 a (ch, some (.inl (ty, ai_p1 (ai_sym S.1 n).2 s (ai_eff S.1 i).1))))
        | none => match ai_sh s (ai_eff S.1 i).1 (ai_eff S.1 i).2.1 0 with
          | some q => ai_1 (pc + 1) (S.1, S.2.1, .inl (false, q.1, q.2, []) :: r, S.2.2.2)
          | none => none
      | false => none
    | _ => none
  | _ => none
theorem ai_ald_s {X : List Int32} {by_ isL : Bool} (h : ai_ald by_ pc S = some outs) (H : ai_g ρ w0 S lo st w) : ai_sd ρ w0 w (ex_ald by_ X isL pc lo st w) outs := by
  unfold ai_ald at h
  split at h
  · next i a r hs =>
    have hst := H.2.2.1
    rw [hs] at hst
    obtain ⟨v, r', rfl, h1, h2⟩ := hst.cons
    obtain ⟨v2, r2, rfl, h3, h4⟩ := h2.cons
    cases (show some v2 = some (.ref a) from h3)
    obtain ⟨j, rfl, h5⟩ := h1.int
    have h6 := ai_eff_g H.1 h5
    obtain ⟨h7, h8, -⟩ := h6
    split at h
    · next ch ty s hc =>
      obtain ⟨x, g1, g2, g3⟩ := ai_cell H hc
      obtain ⟨l, rfl, g4⟩ := g2.arr
      split at h
      · next hb =>
        rw [Bool.and_eq_true, Bool.and_eq_true, ai_le_iff, ai_le_iff] at hb
        obtain ⟨b1, b2, b3⟩ := hb
        have hl := g4.len
        obtain ⟨i1, i2, i3⟩ := ai_ixN (j := j) (n := l.length) (by omega) (by omega)
        have hx : l[j.toNatClampNeg]? = some (ex_gd l j.toNatClampNeg) := by
          rw [ex_gd_eq, List.getD_eq_getElem?_getD, List.getElem?_eq_getElem i2]
          rfl
        unfold ex_ald
        dsimp only
        rw [show ex_at w a = some (.inl (ty, l)) by rw [ex_at_eq]; exact g1]
        dsimp only
        rw [if_pos ⟨b1, i1⟩]
        split at h
        · next n hn =>
          have hq : ai_le (ai_eff S.1 i).2.1 (ai_eff S.1 i).1 = true ∧ ai_s1 s (ai_eff S.1 i).1 = some n := by
            split at hn
            · next hq => exact ⟨hq, hn⟩
            · cases hn
          obtain ⟨q1, q2⟩ := hq
          rw [ai_le_iff] at q1
          have e : (ai_eff S.1 i).1 = (j.toNatClampNeg : Int) := by omega
          rw [e] at h q2
          have g5 := ai_s1_g g4 hx q2
          obtain ⟨ρ', p1, p2, p3⟩ := ai_sym_g H.1 g5
          have hv : ai_gv ρ' (.inl (false, (ai_sym S.1 n).2)) (some (.int (ex_gd l j.toNatClampNeg))) := ai_gv.ofI p3
          exact ai_1_s h p1 ⟨p2, H.2.1.up p1, ⟨hv, h4.up p1⟩, (H.2.2.2.up p1).know g3 g1 ⟨rfl, ai_p1_g (g4.up p1) hx q2 p3⟩⟩
        · split at h
          · next q hq =>
            obtain ⟨q', e1, e2, e3⟩ := ai_sh_g (lo := (ai_eff S.1 i).1) (hi := (ai_eff S.1 i).2.1) (o := 0) g4 hx (by omega) (by omega)
            rw [hq] at e1
            cases e1
            exact ai_1_s h (List.prefix_refl ρ) ⟨H.1, H.2.1, ⟨ai_gv.ofI ⟨e2, e3, ai_gr.no⟩, h4⟩, H.2.2.2⟩
          · cases h
      · cases h
    · cases h
  · cases h
noncomputable def ai_nar (ty : FieldType) (n : ai_N) : ai_N := match ty with
  | .byte => (-128, 127, [])
  | .boolean => (0, 1, [])
  | _ => n
theorem ai_byte (x : Int32) : -128 ≤ x.toInt8.toInt32.toInt ∧ x.toInt8.toInt32.toInt ≤ 127 := by
  rw [Int8.toInt_toInt32]
  exact ⟨Int8.minValue_le_toInt _, Int8.toInt_le _⟩
theorem ai_short (x : Int32) : -32768 ≤ x.toInt16.toInt32.toInt ∧ x.toInt16.toInt32.toInt ≤ 32767 := by
  rw [Int16.toInt_toInt32]
  exact ⟨Int16.minValue_le_toInt _, Int16.toInt_le _⟩
theorem ai_nar_g {ty : FieldType} {n : ai_N} {x : Int32} (h : ai_gn ρ n x.toInt) : ai_gn ρ (ai_nar ty n) (ex_nar ty x).toInt := by
  unfold ai_nar ex_nar
  cases ty
  case byte =>
    dsimp only
    rw [vp_nar_byte]
    have := ai_byte x
    exact ⟨this.1, this.2, ai_gr.no⟩
  case boolean =>
    dsimp only
    have e : vp_nar .boolean x = x &&& 1 := rfl
    rw [e]
    have := ai_and_r x 1 (by decide)
    exact ⟨this.1, this.2, ai_gr.no⟩
  all_goals exact h
noncomputable def ai_ast (by_ : Bool) (pc : Nat) (S : ai_S) : Option (List ai_O) := match S.2.2.1 with
  | .inl (false, v) :: .inl (false, i) :: .inr (some (.ref a)) :: r => match ex_at S.2.2.2 a with
    | some (_, some (.inl (ty, s))) => match ex_aty by_ ty && (ai_le 0 (ai_eff S.1 i).1 && ai_le ((ai_eff S.1 i).2.1 + 1) (ai_sn s)) with
      | true => ai_1 (pc + 1) (S.1, S.2.1, r, ex_put S.2.2.2 a (true, some (.inl (ty, ai_sw (ai_nar ty (ai_eff S.1 v)) s (ai_eff S.1 i).1 (ai_eff S.1 i).2.1 0))))
      | false => none
    | _ => none
  | _ => none
theorem ai_ast_s {by_ : Bool} (h : ai_ast by_ pc S = some outs) (H : ai_g ρ w0 S lo st w) : ai_sd ρ w0 w (ex_ast by_ pc lo st w) outs := by
  unfold ai_ast at h
  split at h
  · next v i a r hs =>
    have hst := H.2.2.1
    rw [hs] at hst
    obtain ⟨v0, r0, rfl, h9, h10⟩ := hst.cons
    obtain ⟨v1, r', rfl, h1, h2⟩ := h10.cons
    obtain ⟨v2, r2, rfl, h3, h4⟩ := h2.cons
    cases (show some v2 = some (.ref a) from h3)
    obtain ⟨j, rfl, h5⟩ := h1.int
    obtain ⟨y, rfl, h11⟩ := h9.int
    have h6 := ai_eff_g H.1 h5
    obtain ⟨h7, h8, -⟩ := h6
    split at h
    · next ch ty s hc =>
      obtain ⟨x, g1, g2, g3⟩ := ai_cell H hc
      obtain ⟨l, rfl, g4⟩ := g2.arr
      split at h
      · next hb =>
        rw [Bool.and_eq_true, Bool.and_eq_true, ai_le_iff, ai_le_iff] at hb
        obtain ⟨b1, b2, b3⟩ := hb
        have hl := g4.len
        obtain ⟨i1, i2, i3⟩ := ai_ixN (j := j) (n := l.length) (by omega) (by omega)
        unfold ex_ast
        dsimp only
        rw [show ex_at w a = some (.inl (ty, l)) by rw [ex_at_eq]; exact g1]
        dsimp only
        rw [if_pos ⟨b1, i1⟩]
        refine ai_1_s h (List.prefix_refl ρ) ⟨H.1, H.2.1, h4, H.2.2.2.put ⟨rfl, ?_⟩⟩
        rw [ex_put_eq]
        exact ai_sw_g (ai_nar_g (ai_eff_g H.1 h11)) g4 (by omega) (by omega)
      · cases h
    · cases h
  · cases h
noncomputable def ai_aln (pc : Nat) (S : ai_S) : Option (List ai_O) := match S.2.2.1 with
  | .inr (some (.ref a)) :: r => match ex_at S.2.2.2 a with
    | some (_, some (.inl (ty, s))) => match (decide (ty = .int) || (decide (ty = .byte) || decide (ty = .boolean))) && Nat.blt (ai_sn s) 2147483648 with
      | true => ai_1 (pc + 1) (S.1, S.2.1, .inl (false, (ai_sn s : Int), (ai_sn s : Int), []) :: r, S.2.2.2)
      | false => none
    | _ => none
  | _ => none
theorem ai_aln_s {X : List Int32} {isL : Bool} (h : ai_aln pc S = some outs) (H : ai_g ρ w0 S lo st w) : ai_sd ρ w0 w (ex_aln X isL pc lo st w) outs := by
  unfold ai_aln at h
  split at h
  · next a r hs =>
    have hst := H.2.2.1
    rw [hs] at hst
    obtain ⟨v2, r2, rfl, h3, h4⟩ := hst.cons
    cases (show some v2 = some (.ref a) from h3)
    split at h
    · next ch ty s hc =>
      obtain ⟨x, g1, g2, g3⟩ := ai_cell H hc
      obtain ⟨l, rfl, g4⟩ := g2.arr
      split at h
      · next hb =>
        rw [Bool.and_eq_true, Bool.or_eq_true, Bool.or_eq_true] at hb
        obtain ⟨b1, b2⟩ := hb
        have b2 := Nat.blt_eq.mp b2
        have hl := g4.len
        unfold ex_aln
        dsimp only
        rw [show ex_at w a = some (.inl (ty, l)) by rw [ex_at_eq]; exact g1]
        dsimp only
        rw [if_pos (by
          rcases b1 with b1 | b1 | b1
          · exact Or.inl (of_decide_eq_true b1)
          · exact Or.inr (Or.inl (of_decide_eq_true b1))
          · exact Or.inr (Or.inr (of_decide_eq_true b1)))]
        have e : (Int32.ofNat l.length).toInt = (ai_sn s : Int) := by
          rw [hl]
          exact nI_toInt (by omega)
        refine ai_1_s h (List.prefix_refl ρ) ⟨H.1, H.2.1, ⟨ai_gv.ofI ?_, h4⟩, H.2.2.2⟩
        rw [e]
        exact ⟨Int.le_refl _, Int.le_refl _, ai_gr.no⟩
      · cases h
    · cases h
  · cases h
/-- rows of references, at a known place -/
noncomputable def ai_alq (pc : Nat) (S : ai_S) : Option (List ai_O) := match S.2.2.1 with
  | .inl (false, i) :: .inr (some (.ref a)) :: r => match ex_at S.2.2.2 a with
    | some (_, some (.inr (.inl (ci, l)))) => match ai_le (ai_eff S.1 i).2.1 (ai_eff S.1 i).1 && (ai_le 0 (ai_eff S.1 i).1 && (ai_le ((ai_eff S.1 i).2.1 + 1) l.length && Nat.blt (ex_qix ci) 100)) with
      | true => match ex_at l (ai_eff S.1 i).1.toNat with
        | some (some k) => ai_1 (pc + 1) (S.1, S.2.1, .inr (some (.ref k)) :: r, S.2.2.2)
        | _ => none
      | false => none
    | _ => none
  | _ => none
theorem ai_alq_s (h : ai_alq pc S = some outs) (H : ai_g ρ w0 S lo st w) : ai_sd ρ w0 w (ex_alq pc lo st w) outs := by
  unfold ai_alq at h
  split at h
  · next i a r hs =>
    have hst := H.2.2.1
    rw [hs] at hst
    obtain ⟨v, r', rfl, h1, h2⟩ := hst.cons
    obtain ⟨v2, r2, rfl, h3, h4⟩ := h2.cons
    cases (show some v2 = some (.ref a) from h3)
    obtain ⟨j, rfl, h5⟩ := h1.int
    have h6 := ai_eff_g H.1 h5
    obtain ⟨h7, h8, -⟩ := h6
    split at h
    · next ch ci l hc =>
      obtain ⟨x, g1, g2, g3⟩ := ai_cell H hc
      obtain rfl := g2.row
      split at h
      · next hb =>
        rw [Bool.and_eq_true, Bool.and_eq_true, Bool.and_eq_true, ai_le_iff, ai_le_iff, ai_le_iff] at hb
        obtain ⟨b1, b2, b3, b4⟩ := hb
        have b4 := Nat.blt_eq.mp b4
        obtain ⟨i1, i2, i3⟩ := ai_ixN (j := j) (n := l.length) (by omega) (by omega)
        have e : (ai_eff S.1 i).1.toNat = j.toNatClampNeg := by omega
        rw [e] at h
        unfold ex_alq
        dsimp only
        rw [show ex_at w a = some (.inr (.inl (ci, l))) by rw [ex_at_eq]; exact g1]
        dsimp only
        rw [if_pos ⟨i1, b4⟩]
        split at h
        · next k hk =>
          rw [hk]
          exact ai_1_s h (List.prefix_refl ρ) ⟨H.1, H.2.1, ⟨rfl, h4⟩, H.2.2.2⟩
        · cases h
      · cases h
    · cases h
  · cases h
/-- the stack -/
noncomputable def ai_one1 (v : ai_V) : Bool := match v with
  | .inl (false, _) => true
  | .inr (some x) => !(ex_two x)
  | _ => false
theorem ai_one1_g {a : ai_V} {v : Value} (h : ai_one1 a = true) (g : ai_gv ρ a (some v)) : ex_two v = false := by
  unfold ai_one1 at h
  split at h
  · obtain ⟨i, rfl, -⟩ := g.int; rfl
  · next x => cases (show some v = some x from g); rw [Bool.not_eq_true'] at h; exact h
  · cases h
noncomputable def ai_dup (pc : Nat) (S : ai_S) : Option (List ai_O) := match S.2.2.1 with
  | v :: r => match ai_one1 v with
    | true => ai_1 (pc + 1) (S.1, S.2.1, v :: v :: r, S.2.2.2)
    | false => none
  | _ => none
noncomputable def ai_pop (pc : Nat) (S : ai_S) : Option (List ai_O) := match S.2.2.1 with
  | v :: r => match ai_one1 v with
    | true => ai_1 (pc + 1) (S.1, S.2.1, r, S.2.2.2)
    | false => none
  | _ => none
noncomputable def ai_dup2 (pc : Nat) (S : ai_S) : Option (List ai_O) := match S.2.2.1 with
  | u :: v :: r => match ai_one1 u && ai_one1 v with
    | true => ai_1 (pc + 1) (S.1, S.2.1, u :: v :: u :: v :: r, S.2.2.2)
    | false => none
  | _ => none
theorem ai_dup_s (h : ai_dup pc S = some outs) (H : ai_g ρ w0 S lo st w) : ai_sd ρ w0 w (ex_dup pc lo st w) outs := by
  unfold ai_dup at h
  split at h
  · next a r hs =>
    have hst := H.2.2.1
    rw [hs] at hst
    obtain ⟨v, r2, rfl, h3, h4⟩ := hst.cons
    split at h
    · next hb =>
      have := ai_one1_g hb h3
      unfold ex_dup
      dsimp only
      rw [if_neg (by rw [this]; decide)]
      exact ai_1_s h (List.prefix_refl ρ) ⟨H.1, H.2.1, ⟨h3, h3, h4⟩, H.2.2.2⟩
    · cases h
  · cases h
theorem ai_pop_s (h : ai_pop pc S = some outs) (H : ai_g ρ w0 S lo st w) : ai_sd ρ w0 w (ex_pop pc lo st w) outs := by
  unfold ai_pop at h
  split at h
  · next a r hs =>
    have hst := H.2.2.1
    rw [hs] at hst
    obtain ⟨v, r2, rfl, h3, h4⟩ := hst.cons
    split at h
    · next hb =>
      have := ai_one1_g hb h3
      unfold ex_pop
      dsimp only
      rw [if_neg (by rw [this]; decide)]
      exact ai_1_s h (List.prefix_refl ρ) ⟨H.1, H.2.1, h4, H.2.2.2⟩
    · cases h
  · cases h
theorem ai_dup2_s (h : ai_dup2 pc S = some outs) (H : ai_g ρ w0 S lo st w) : ai_sd ρ w0 w (ex_dup2 pc lo st w) outs := by
  unfold ai_dup2 at h
  split at h
  · next a b r hs =>
    have hst := H.2.2.1
    rw [hs] at hst
    obtain ⟨v, r2, rfl, h3, h4⟩ := hst.cons
    obtain ⟨v2, r3, rfl, h5, h6⟩ := h4.cons
    split at h
    · next hb =>
      rw [Bool.and_eq_true] at hb
      have q1 := ai_one1_g hb.1 h3
      have q2 := ai_one1_g hb.2 h5
      unfold ex_dup2
      dsimp only
      rw [if_neg (by rw [q1, q2]; decide)]
      exact ai_1_s h (List.prefix_refl ρ) ⟨H.1, H.2.1, ⟨h3, h5, h3, h5, h6⟩, H.2.2.2⟩
    · cases h
  · cases h
/-- how many words -/
noncomputable def ai_ct (v : ai_V) : Nat := match v with
  | .inl (false, _) => 1
  | .inl (true, _) => 2
  | .inr (some x) => x.category
  | .inr none => 100
theorem ai_ct_g {a : ai_V} {v : Value} (g : ai_gv ρ a (some v)) : v.category ≤ ai_ct a := by
  unfold ai_ct
  split
  · obtain ⟨i, rfl, -⟩ := g.int; exact Nat.le_refl 1
  · obtain ⟨i, rfl, -⟩ := g.long; exact Nat.le_refl 2
  · next x => cases (show some v = some x from g); exact Nat.le_refl _
  · rcases lv_cat v with h | h <;> rw [h] <;> decide
noncomputable def ai_cats (l : List ai_V) : Nat := List.rec (motive := fun _ => Nat) 0 (fun v _ ih => ai_ct v + ih) l
theorem ai_cats_g : ∀ {l : List ai_V} {vs : List Value}, ai_gst ρ l vs → ex_cats vs ≤ ai_cats l
  | [], [], _ => Nat.le_refl _
  | a :: l, v :: vs, h => by
    have h1 := ai_ct_g h.1
    have h2 := ai_cats_g h.2
    have e : ex_cats (v :: vs) = v.category + ex_cats vs := by simp [ex_cats]
    have e2 : ai_cats (a :: l) = ai_ct a + ai_cats l := rfl
    omega
noncomputable def ai_min (x y : ai_N) : ai_N := (ai_mn x.1 y.1, ai_mn x.2.1 y.2.1, [])
noncomputable def ai_max (x y : ai_N) : ai_N := (ai_mx x.1 y.1, ai_mx x.2.1 y.2.1, [])
theorem ai_min_g {x y : ai_N} {u v : Int32} (hx : ai_gn ρ x u.toInt) (hy : ai_gn ρ y v.toInt) : ai_gn ρ (ai_min x y) (if v < u then v else u).toInt := by
  have hx1 := hx.1; have hx2 := hx.2.1; have hy1 := hy.1; have hy2 := hy.2.1
  have m1 := ai_mn_le (a := x.1) (b := y.1)
  split
  · next h =>
    rw [Int32.lt_iff_toInt_lt] at h
    exact ⟨by show ai_mn x.1 y.1 ≤ _; omega, ai_le_mn.mpr ⟨by omega, by omega⟩, ai_gr.no⟩
  · next h =>
    rw [Int32.lt_iff_toInt_lt] at h
    exact ⟨by show ai_mn x.1 y.1 ≤ _; omega, ai_le_mn.mpr ⟨by omega, by omega⟩, ai_gr.no⟩
theorem ai_max_g {x y : ai_N} {u v : Int32} (hx : ai_gn ρ x u.toInt) (hy : ai_gn ρ y v.toInt) : ai_gn ρ (ai_max x y) (if u < v then v else u).toInt := by
  have hx1 := hx.1; have hx2 := hx.2.1; have hy1 := hy.1; have hy2 := hy.2.1
  have m1 := ai_le_mx (a := x.2.1) (b := y.2.1)
  split
  · next h =>
    rw [Int32.lt_iff_toInt_lt] at h
    exact ⟨ai_mx_le.mpr ⟨by omega, by omega⟩, by show _ ≤ ai_mx x.2.1 y.2.1; omega, ai_gr.no⟩
  · next h =>
    rw [Int32.lt_iff_toInt_lt] at h
    exact ⟨ai_mx_le.mpr ⟨by omega, by omega⟩, by show _ ≤ ai_mx x.2.1 y.2.1; omega, ai_gr.no⟩
noncomputable def ai_mm (g : ai_N → ai_N → ai_N) (kd pc : Nat) (S : ai_S) : Option (List ai_O) := match S.2.2.1 with
  | .inl (false, y) :: .inl (false, x) :: r => match Nat.beq kd 1 && Nat.ble (ai_cats r) 8 with
    | true => ai_1 (pc + 3) (S.1, S.2.1, .inl (false, g (ai_eff S.1 x) (ai_eff S.1 y)) :: r, S.2.2.2)
    | false => none
  | _ => none
/-- a whole row copied -/
noncomputable def ai_cpy (kd pc : Nat) (S : ai_S) : Option (List ai_O) := match S.2.2.1 with
  | .inl (false, n) :: .inl (false, dp) :: .inr (some (.ref b)) :: .inl (false, sp) :: .inr (some (.ref a)) :: r => match ex_at S.2.2.2 a, ex_at S.2.2.2 b with
    | some (_, some (.inl (ty, f))), some (_, some (.inl (ty', g))) => match Nat.beq kd 1 && (Nat.ble (ai_cats r) 8 && (decide (ty = .int) && (decide (ty' = .int) && (ai_le 0 sp.1 && (ai_le sp.2.1 0 && (ai_le 0 dp.1 && (ai_le dp.2.1 0 && (ai_le (ai_sn f) n.1 && (ai_le n.2.1 (ai_sn f) && Nat.beq (ai_sn f) (ai_sn g)))))))))) with
      | true => ai_1 (pc + 3) (S.1, S.2.1, r, ex_put S.2.2.2 b (true, some (.inl (.int, f))))
      | false => none
    | _, _ => none
  | _ => none
noncomputable def ai_int (kd k pc : Nat) (S : ai_S) : Option (List ai_O) := match k with
  | 1 => ai_mm ai_min kd pc S
  | 2 => ai_mm ai_max kd pc S
  | 3 => ai_cpy kd pc S
  | _ => none
theorem ai_int_s {kd k : Nat} (h : ai_int kd k pc S = some outs) (H : ai_g ρ w0 S lo st w) : ai_sd ρ w0 w (ex_int kd k pc lo st w) outs := by
  unfold ai_int at h
  split at h
  · unfold ai_mm at h
    split at h
    · next y x r hs =>
      have hst := H.2.2.1
      rw [hs] at hst
      obtain ⟨v, r', rfl, h1, h2⟩ := hst.cons
      obtain ⟨v2, r2, rfl, h3, h4⟩ := h2.cons
      obtain ⟨b, rfl, h5⟩ := h1.int
      obtain ⟨a, rfl, h6⟩ := h3.int
      split at h
      · next hb =>
        rw [Bool.and_eq_true] at hb
        have hk : kd = 1 := Nat.eq_of_beq_eq_true hb.1
        have hc := Nat.le_of_ble_eq_true hb.2
        have hc2 := ai_cats_g h4
        have e : ex_int kd 1 pc lo (.int b :: .int a :: r2) w = ex_go (pc + 3) lo (.int (if b < a then b else a) :: r2) w := by
          show (if kd = 1 ∧ ex_cats r2 ≤ 8 then _ else _) = _
          rw [if_pos ⟨hk, by omega⟩]
        rw [e]
        exact ai_1_s h (List.prefix_refl ρ) ⟨H.1, H.2.1, ⟨ai_gv.ofI (ai_min_g (ai_eff_g H.1 h6) (ai_eff_g H.1 h5)), h4⟩, H.2.2.2⟩
      · cases h
    · cases h
  · unfold ai_mm at h
    split at h
    · next y x r hs =>
      have hst := H.2.2.1
      rw [hs] at hst
      obtain ⟨v, r', rfl, h1, h2⟩ := hst.cons
      obtain ⟨v2, r2, rfl, h3, h4⟩ := h2.cons
      obtain ⟨b, rfl, h5⟩ := h1.int
      obtain ⟨a, rfl, h6⟩ := h3.int
      split at h
      · next hb =>
        rw [Bool.and_eq_true] at hb
        have hk : kd = 1 := Nat.eq_of_beq_eq_true hb.1
        have hc := Nat.le_of_ble_eq_true hb.2
        have hc2 := ai_cats_g h4
        have e : ex_int kd 2 pc lo (.int b :: .int a :: r2) w = ex_go (pc + 3) lo (.int (if a < b then b else a) :: r2) w := by
          show (if kd = 1 ∧ ex_cats r2 ≤ 8 then _ else _) = _
          rw [if_pos ⟨hk, by omega⟩]
        rw [e]
        exact ai_1_s h (List.prefix_refl ρ) ⟨H.1, H.2.1, ⟨ai_gv.ofI (ai_max_g (ai_eff_g H.1 h6) (ai_eff_g H.1 h5)), h4⟩, H.2.2.2⟩
      · cases h
    · cases h
  · unfold ai_cpy at h
    split at h
    · next n dp b sp a r hs =>
      have hst := H.2.2.1
      rw [hs] at hst
      obtain ⟨v1, r1, rfl, h1, k1⟩ := hst.cons
      obtain ⟨v2, r2, rfl, h2, k2⟩ := k1.cons
      obtain ⟨v3, r3, rfl, h3, k3⟩ := k2.cons
      obtain ⟨v4, r4, rfl, h4, k4⟩ := k3.cons
      obtain ⟨v5, r5, rfl, h5, k5⟩ := k4.cons
      cases (show some v3 = some (.ref b) from h3)
      cases (show some v5 = some (.ref a) from h5)
      obtain ⟨n', rfl, u1⟩ := h1.int
      obtain ⟨dp', rfl, u2⟩ := h2.int
      obtain ⟨sp', rfl, u4⟩ := h4.int
      split at h
      · next ch ty f ch' ty' g ha hb =>
        obtain ⟨x, g1, g2, g3⟩ := ai_cell H ha
        obtain ⟨lf, rfl, g4⟩ := g2.arr
        obtain ⟨x', g1', g2', g3'⟩ := ai_cell H hb
        obtain ⟨lg, rfl, g4'⟩ := g2'.arr
        split at h
        · next hc =>
          simp only [Bool.and_eq_true, ai_le_iff] at hc
          obtain ⟨c1, c2, c3, c4, c5, c6, c7, c8, c9, c10, c11⟩ := hc
          have hk : kd = 1 := Nat.eq_of_beq_eq_true c1
          have hcc := Nat.le_of_ble_eq_true c2
          have hc2 := ai_cats_g k5
          obtain rfl := of_decide_eq_true c3
          obtain rfl := of_decide_eq_true c4
          have c11 : ai_sn f = ai_sn g := Nat.eq_of_beq_eq_true c11
          have l1 := g4.len
          have l2 := g4'.len
          have m1 : n.1 ≤ n'.toInt := u1.1
          have m2 : n'.toInt ≤ n.2.1 := u1.2.1
          have m3 : dp.1 ≤ dp'.toInt := u2.1
          have m4 : dp'.toInt ≤ dp.2.1 := u2.2.1
          have m5 : sp.1 ≤ sp'.toInt := u4.1
          have m6 : sp'.toInt ≤ sp.2.1 := u4.2.1
          have esp : sp' = 0 := Int32.toInt_inj.mp (by show sp'.toInt = 0; omega)
          have edp : dp' = 0 := Int32.toInt_inj.mp (by show dp'.toInt = 0; omega)
          have en : (n'.toNatClampNeg : Int) = n'.toInt := Int.toNat_of_nonneg (by omega)
          have en2 : n'.toNatClampNeg = lf.length := by omega
          have hn0 : ¬ n' < 0 := by
            intro q
            rw [Int32.lt_iff_toInt_lt] at q
            have : (0 : Int32).toInt = 0 := rfl
            omega
          subst esp
          subst edp
          have z0 : (0 : Int32).toNatClampNeg = 0 := rfl
          have e0 : ex_int kd 3 pc lo (.int n' :: .int 0 :: .ref b :: .int 0 :: .ref a :: r5) w = ex_go (pc + 3) lo r5 (ex_put w b (.inl (.int, ex_cpy lf lg (0 : Int32).toNatClampNeg (0 : Int32).toNatClampNeg n'.toNatClampNeg))) := by
            have f1 : ex_at w a = some (.inl (.int, lf)) := by rw [ex_at_eq]; exact g1
            have f2 : ex_at w b = some (.inl (.int, lg)) := by rw [ex_at_eq]; exact g1'
            show (match ex_at w a, ex_at w b with
              | some (.inl (ty, f)), some (.inl (ty', g)) => if kd = 1 ∧ ex_cats r5 ≤ 8 ∧ ty = FieldType.int ∧ ty' = FieldType.int ∧ ¬ (0 : Int32) < 0 ∧ ¬ (0 : Int32) < 0 ∧ ¬ n' < 0 ∧ (0 : Int32).toNatClampNeg + n'.toNatClampNeg ≤ f.length ∧ (0 : Int32).toNatClampNeg + n'.toNatClampNeg ≤ g.length then ex_go (pc + 3) lo r5 (ex_put w b (.inl (FieldType.int, ex_cpy f g (0 : Int32).toNatClampNeg (0 : Int32).toNatClampNeg n'.toNatClampNeg))) else none
              | _, _ => none) = _
            rw [f1, f2]
            dsimp only
            rw [if_pos ⟨hk, by omega, rfl, rfl, by decide, by decide, hn0, by rw [z0]; omega, by rw [z0]; omega⟩]
          rw [e0]
          have e : ex_cpy lf lg (0 : Int32).toNatClampNeg (0 : Int32).toNatClampNeg n'.toNatClampNeg = lf := by
            unfold ex_cpy
            rw [z0, en2]
            simp
            omega
          rw [e]
          exact ai_1_s h (List.prefix_refl ρ) ⟨H.1, H.2.1, k5, H.2.2.2.put (c := .inl (.int, f)) (x := .inl (.int, lf)) ⟨rfl, g4⟩⟩
        · cases h
      · cases h
    · cases h
  · cases h
/-- calls -/
noncomputable def ai_rcv (k rc : Nat) (as : List ai_V) (W : ai_W) : Bool := match k with
  | 0 => match as with
    | .inr (some (.ref a)) :: _ => match ex_at W a with
      | some (_, some (.inr (.inr (c, _)))) => Nat.beq c rc
      | _ => false
    | .inr (some (.retAddr a)) :: _ => Nat.beq rc 100 && ex_sk a
    | _ => false
  | 1 => true
  | 2 => match as with
    | .inr (some (.ref _)) :: _ => true
    | _ => false
  | _ => false
noncomputable def ai_cl (kd : Nat) (t : Option (Nat × Nat × Nat × Nat × Nat × Nat × Nat)) (pc : Nat) (S : ai_S) : Option (List ai_O) := match t with
  | some (cal, n, k, rc, _, _, _) => match Nat.beq k kd && (Nat.ble n S.2.2.1.length && (Nat.ble (ai_cats (S.2.2.1.drop n)) 8 && ai_rcv k rc (S.2.2.1.take n).reverse S.2.2.2)) with
    | true => some [.inr (.inl (cal, (S.2.2.1.take n).reverse, pc + 3, (S.1, S.2.1, S.2.2.1.drop n, S.2.2.2)))]
    | false => none
  | none => none
theorem ai_rcv_s {cal n k rc p1 p2 p3 : Nat} {as : List ai_V} (hq : ai_rcv k rc as S.2.2.2 = true) (H : ai_g ρ w0 S lo st w) (hn : n ≤ st.length) (hc : ex_cats (st.drop n) ≤ 8) (ht : ai_gst ρ as (st.take n).reverse) : ex_cl k (some (cal, n, k, rc, p1, p2, p3)) pc lo st w = some (.inr (.inl (cal, (st.take n).reverse, (pc + 3, lo, st.drop n)))) := by
  unfold ex_cl
  dsimp only
  rw [if_pos ⟨rfl, hn, hc⟩]
  unfold ai_rcv at hq
  generalize (st.take n).reverse = vs at ht ⊢
  split at hq
  · split at hq
    · next a tl =>
      obtain ⟨v, r, rfl, e2, -⟩ := ht.cons
      cases (show some v = some (.ref a) from e2)
      split at hq
      · next ch c vs hcc =>
        obtain ⟨x, g1, g2, g3⟩ := ai_cell H hcc
        obtain ⟨fs, rfl, g4⟩ := g2.obj
        have f1 : ex_at w a = some (.inr (.inr (c, fs))) := by rw [ex_at_eq]; exact g1
        simp only [f1]
        rw [if_pos (Nat.eq_of_beq_eq_true hq)]
      · cases hq
    · next a tl =>
      obtain ⟨v, r, rfl, e2, -⟩ := ht.cons
      cases (show some v = some (.retAddr a) from e2)
      rw [Bool.and_eq_true] at hq
      dsimp only
      rw [if_pos ⟨Nat.eq_of_beq_eq_true hq.1, hq.2⟩]
      rfl
    · cases hq
  · rfl
  · split at hq
    · next a tl =>
      obtain ⟨v, r, rfl, e2, -⟩ := ht.cons
      cases (show some v = some (.ref a) from e2)
      rfl
    · cases hq
  · cases hq
theorem ai_cl_s {kd : Nat} {t : Option (Nat × Nat × Nat × Nat × Nat × Nat × Nat)} (h : ai_cl kd t pc S = some outs) (H : ai_g ρ w0 S lo st w) : ai_sd ρ w0 w (ex_cl kd t pc lo st w) outs := by
  unfold ai_cl at h
  split at h
  · next cal n k rc p1 p2 p3 =>
    split at h
    · next hb =>
      simp only [Bool.and_eq_true] at hb
      obtain ⟨b1, b2, b3, b4⟩ := hb
      obtain rfl : k = kd := Nat.eq_of_beq_eq_true b1
      have b2 := Nat.le_of_ble_eq_true b2
      have b3 := Nat.le_of_ble_eq_true b3
      have hst := H.2.2.1
      have hn : n ≤ st.length := by rw [← hst.len]; exact b2
      have hd := hst.drop n
      have ht := (hst.take n).rev
      have hc := ai_cats_g hd
      cases h
      exact ai_sd.one (List.prefix_refl ρ) ⟨_, lo, _, ai_rcv_s b4 H hn (by omega) ht, ht, H.1, H.2.1, hd, H.2.2.2⟩
    · cases h
  · cases h
noncomputable def ai_iv (kd : Nat) (it : Option (Nat × Nat)) (t : Option (Nat × Nat × Nat × Nat × Nat × Nat × Nat)) (pc : Nat) (S : ai_S) : Option (List ai_O) := match it with
  | some (k, _) => ai_int kd k pc S
  | none => ai_cl kd t pc S
theorem ai_iv_s {kd : Nat} {it : Option (Nat × Nat)} {t : Option (Nat × Nat × Nat × Nat × Nat × Nat × Nat)} (h : ai_iv kd it t pc S = some outs) (H : ai_g ρ w0 S lo st w) : ai_sd ρ w0 w (ex_iv kd it t pc lo st w) outs := by
  unfold ai_iv at h
  unfold ex_iv
  split at h
  · exact ai_int_s h H
  · exact ai_cl_s h H
/-- returns -/
noncomputable def ai_rok (ty : FieldType) (n : ai_N) : Bool := match ty with
  | .int => true
  | .boolean => ai_le 0 n.1 && ai_le n.2.1 1
  | .byte => ai_le (-128) n.1 && ai_le n.2.1 127
  | .char => ai_le 0 n.1 && ai_le n.2.1 65535
  | _ => false
noncomputable def ai_ret (t : Option FieldType) (S : ai_S) : Option (List ai_O) := match t, S.2.2.1 with
  | some ty, [.inl (false, n)] => match ai_rok ty (ai_eff S.1 n) with
    | true => some [.inr (.inr (some (.inl (false, ai_eff S.1 n)), S))]
    | false => none
  | _, _ => none
noncomputable def ai_lret (t : Option FieldType) (S : ai_S) : Option (List ai_O) := match t, S.2.2.1 with
  | some .long, [.inl (true, n)] => some [.inr (.inr (some (.inl (true, ai_eff S.1 n)), S))]
  | _, _ => none
noncomputable def ai_vret (t : Option FieldType) (S : ai_S) : Option (List ai_O) := match t, S.2.2.1 with
  | none, [] => some [.inr (.inr (none, S))]
  | _, _ => none
theorem ai_char {x : Int32} (h1 : 0 ≤ x.toInt) (h2 : x.toInt ≤ 65535) : narrow .char (.int x) = .int x := by
  obtain ⟨k, hk⟩ : ∃ k : Nat, x.toInt = (k : Int) := ⟨x.toInt.toNat, by omega⟩
  have e : x = Int32.ofNat k := Int32.toInt_inj.mp (by rw [hk]; exact (nI_toInt (n := k) (by omega)).symm)
  have hx : x.toUInt32.toNat = k := by
    rw [e]
    show (BitVec.ofNat 32 k).toNat = k
    rw [BitVec.toNat_ofNat]
    omega
  show Value.int x.toUInt32.toUInt16.toUInt32.toInt32 = Value.int x
  have e2 : x.toUInt32.toUInt16.toUInt32 = x.toUInt32 := by
    apply UInt32.toNat_inj.mp
    rw [UInt16.toNat_toUInt32, UInt32.toNat_toUInt16, hx]
    omega
  rw [e2]
  rfl
theorem ai_rok_g {ty : FieldType} {n : ai_N} {x : Int32} (h : ai_rok ty n = true) (g : ai_gn ρ n x.toInt) : ex_ok ty x = true := by
  obtain ⟨g1, g2, -⟩ := g
  unfold ai_rok at h
  unfold ex_ok
  refine decide_eq_true ?_
  split at h
  · rfl
  · rw [Bool.and_eq_true, ai_le_iff, ai_le_iff] at h
    rcases ai_01 (x := x) (by omega) (by omega) with rfl | rfl <;> rfl
  · rw [Bool.and_eq_true, ai_le_iff, ai_le_iff] at h
    show Value.int x.toInt8.toInt32 = Value.int x
    congr 1
    apply Int32.toInt_inj.mp
    rw [Int8.toInt_toInt32, Int32.toInt_toInt8, Int.bmod_def]
    omega
  · rw [Bool.and_eq_true, ai_le_iff, ai_le_iff] at h
    exact ai_char (by omega) (by omega)
  · cases h
theorem ai_ret_s {t : Option FieldType} (h : ai_ret t S = some outs) (H : ai_g ρ w0 S lo st w) : ai_sd ρ w0 w (ex_ret t st) outs := by
  unfold ai_ret at h
  split at h
  · next ty n hs =>
    have hst := H.2.2.1
    rw [hs] at hst
    obtain ⟨v, r2, rfl, h3, h4⟩ := hst.cons
    obtain rfl := h4.nil
    obtain ⟨x, rfl, h5⟩ := h3.int
    have h6 := ai_eff_g H.1 h5
    split at h
    · next hb =>
      cases h
      unfold ex_ret
      dsimp only
      rw [if_pos (ai_rok_g hb h6)]
      exact ai_sd.one (List.prefix_refl ρ) ⟨_, lo, _, rfl, ai_gv.ofI h6, H⟩
    · cases h
  · cases h
theorem ai_lret_s {t : Option FieldType} (h : ai_lret t S = some outs) (H : ai_g ρ w0 S lo st w) : ai_sd ρ w0 w (ex_lret t st) outs := by
  unfold ai_lret at h
  split at h
  · next n hs =>
    have hst := H.2.2.1
    rw [hs] at hst
    obtain ⟨v, r2, rfl, h3, h4⟩ := hst.cons
    obtain rfl := h4.nil
    obtain ⟨x, rfl, h5⟩ := h3.long
    cases h
    exact ai_sd.one (List.prefix_refl ρ) ⟨_, lo, _, rfl, ai_gv.ofL (ai_eff_g H.1 h5), H⟩
  · cases h
theorem ai_vret_s {t : Option FieldType} (h : ai_vret t S = some outs) (H : ai_g ρ w0 S lo st w) : ai_sd ρ w0 w (ex_vret t st) outs := by
  unfold ai_vret at h
  split at h
  · next hs =>
    have hst := H.2.2.1
    rw [hs] at hst
    obtain rfl := hst.nil
    cases h
    exact ai_sd.one (List.prefix_refl ρ) ⟨none, lo, _, rfl, trivial, H⟩
  · cases h
end AIH
