/-! A METHOD'S RUN, from pattern to pattern. -/
/-- a pattern: its place, its state, where its symbols lie (behind the ghosts), its rank -/
abbrev ai_Nd : Type := Nat × ai_S × List ai_L × List ai_D
noncomputable def ai_hit (g : Nat) (rA : List ai_D) (pc : Nat) (S : ai_S) (N : ai_Nd) : Bool := match Nat.beq N.1 pc with
  | false => false
  | true => match ai_T g S N.2.2.1 with
    | none => false
    | some T => match ai_lex T rA N.2.2.2 with
      | false => false
      | true => ai_sbS true g N.2.2.1 T S N.2.1
noncomputable def ai_fw (f : Nat → Bool × Option ai_C → Bool) (W : ai_W) : Nat → Bool := List.rec (motive := fun _ => Nat → Bool) (fun _ => true) (fun q _ ih p => match f p q with
  | true => ih (p + 1)
  | false => false) W
theorem ai_fw_c (f : Nat → Bool × Option ai_C → Bool) (q : Bool × Option ai_C) (W : ai_W) (p : Nat) : ai_fw f (q :: W) p = match f p q with
  | true => ai_fw f W (p + 1)
  | false => false := rfl
theorem ai_fw_g {f : Nat → Bool × Option ai_C → Bool} : ∀ {W : ai_W} {p : Nat}, ai_fw f W p = true → ∀ (j : Nat) (q : Bool × Option ai_C), W[j]? = some q → f (p + j) q = true
  | [], _, _, j, q, h => by cases h
  | q0 :: W, p, h, j, q, hq => by
    rw [ai_fw_c] at h
    split at h
    · next hf =>
      cases j with
      | zero => cases hq; exact hf
      | succ j =>
        have := ai_fw_g h j q (by simpa using hq)
        rw [show p + (j + 1) = p + 1 + j by omega]
        exact this
    · cases h
/-- an end that holds the state -/
noncomputable def ai_fin (g : Nat) (r : Option ai_V) (S : ai_S) (P : ai_P) : Bool := match ai_sbe (ai_Tg S.1 g) P.2.1 with
  | false => false
  | true => match (match r, P.1 with
      | none, none => true
      | some a, some t => ai_sbv g [] (ai_Tg S.1 g) S.1 none a t
      | _, _ => false) with
    | false => false
    | true => ai_fw (fun p q => match ai_get P.2.2 p with
      | none => !q.1
      | some c => match q.2 with
        | none => false
        | some c' => ai_sbc g [] (ai_Tg S.1 g) S.1 p c' c) S.2.2.2 0
section AIR
variable {ρ ρ0 ρA : List Int} {w0 w : ex_W} {S : ai_S} {lo : ex_L} {st : List Value}
theorem ai_fin_g {r : Option ai_V} {P : ai_P} {v : Option Value} (hp : ρ0 <+: ρ) (H : ai_g ρ w0 S lo st w) (hr : ai_gret ρ r v) (h : ai_fin ρ0.length r S P = true) : ai_end ρ0 w0 P v w := by
  have e0 : cn_rho ρ0 lo w [] = ρ0 := by simp [cn_rho]
  have hT : ∀ (k : Nat) (n : ai_N), (ai_Tg S.1 ρ0.length)[k]? = some n → ∃ y, (cn_rho ρ0 lo w [])[k]? = some y ∧ ai_gn ρ n y := by
    rw [e0]
    exact ai_Tg_g H.1 hp _ (Nat.le_refl _)
  unfold ai_fin at h
  split at h
  · cases h
  · next he =>
    obtain ⟨e1, e2⟩ := ai_sbe_g he
    split at h
    · cases h
    · next hv =>
      refine ⟨⟨by rw [← e1, ai_Tg_len], fun k q hk => ?_⟩, ?_, H.2.2.2.2.1, fun p x hx => ?_⟩
      · obtain ⟨n, q1, q2, q3⟩ := e2 k q hk
        obtain ⟨y, q4, q5⟩ := hT k n q1
        rw [e0] at q4
        have := q5.1; have := q5.2.1
        exact ⟨y, q4, by omega, by omega⟩
      · split at hv
        · next hP =>
          rw [hP]
          cases v with
          | none => trivial
          | some x => exact absurd hr (fun q => q)
        · next a t hP =>
          rw [hP]
          cases v with
          | none => exact absurd hr (fun q => q)
          | some x =>
            have := ai_sbv_g (lo := lo) (w := w) H.1 hT (fun L' u z r => by cases r) hr hv
            rw [e0] at this
            exact this
        · cases hv
      · have hl : p < S.2.2.2.length := by rw [H.2.2.2.1]; exact (List.getElem?_eq_some_iff.mp hx).1
        have hq := List.getElem?_eq_getElem hl
        have hf := ai_fw_g h p _ hq
        rw [Nat.zero_add] at hf
        obtain ⟨x', b1, b2, b3⟩ := H.2.2.2.2.2 p _ hq
        obtain rfl : x = x' := Option.some.inj (hx.symm.trans b1)
        refine ⟨fun hn => ?_, fun c hc => ?_⟩
        · rw [hn] at hf
          dsimp only at hf
          rw [Bool.not_eq_true'] at hf
          exact b2 hf
        · rw [hc] at hf
          dsimp only at hf
          split at hf
          · cases hf
          · next c' hc' =>
            have := ai_sbc_g (lo := lo) H.1 hT hx (b3 c' hc') hf
            rw [e0] at this
            exact this
/-- symbols for the numbers at a contract's places -/
noncomputable def ai_sw1 (S : ai_S) (L : ai_L) : ai_S := match L with
  | .inl _ => S
  | .inr (p, k) => match ex_at S.2.2.2 p with
    | some (ch, some (.inr (.inr (c, vs)))) => match ex_at vs k with
      | some (.inl (b, n)) => ((ai_sym S.1 n).1, S.2.1, S.2.2.1, ex_put S.2.2.2 p (ch, some (.inr (.inr (c, ex_put vs k (.inl (b, (ai_sym S.1 n).2)))))))
      | _ => S
    | some (ch, some (.inl (ty, s))) => match Nat.blt k (ai_sn s) with
      | true => match ai_s1 s k with
        | some n => ((ai_sym S.1 n).1, S.2.1, S.2.2.1, ex_put S.2.2.2 p (ch, some (.inl (ty, ai_p1 (ai_sym S.1 n).2 s k))))
        | none => S
      | false => S
    | _ => S
theorem ai_sw1_g {L : ai_L} (H : ai_g ρ w0 S lo st w) : ∃ ρ', ρ <+: ρ' ∧ ai_g ρ' w0 (ai_sw1 S L) lo st w := by
  have K0 : ∃ ρ', ρ <+: ρ' ∧ ai_g ρ' w0 S lo st w := ⟨ρ, List.prefix_refl ρ, H⟩
  unfold ai_sw1
  split
  · exact K0
  · next p k =>
    split
    · next ch c vs hc =>
      obtain ⟨x, g1, g2, g3⟩ := ai_cell H hc
      obtain ⟨fs, rfl, g4⟩ := g2.obj
      split
      · next b n hn =>
        obtain ⟨v, f1, f2⟩ := ai_fld g4 hn
        obtain ⟨v', y, e1, e2, e3⟩ := f2
        cases e1
        obtain ⟨ρ', q1, q2, q3⟩ := ai_sym_g H.1 e3
        have hv : ai_gv ρ' (.inl (b, (ai_sym S.1 n).2)) (some v) := ⟨v, y, rfl, e2, q3⟩
        refine ⟨ρ', q1, q2, H.2.1.up q1, H.2.2.1.up q1, (H.2.2.2.up q1).know g3 g1 ⟨rfl, ?_⟩⟩
        exact (g4.up q1).same (x := some v) (by rw [List.getElem?_map, f1]; rfl) hv
      · exact K0
    · next ch ty s hc =>
      obtain ⟨x, g1, g2, g3⟩ := ai_cell H hc
      obtain ⟨l, rfl, g4⟩ := g2.arr
      split
      · next hb =>
        have hb := Nat.blt_eq.mp hb
        rw [← g4.len] at hb
        have hx := List.getElem?_eq_getElem hb
        split
        · next n hn =>
          have g5 := ai_s1_g g4 hx hn
          obtain ⟨ρ', p1, p2, p3⟩ := ai_sym_g H.1 g5
          exact ⟨ρ', p1, p2, H.2.1.up p1, H.2.2.1.up p1, (H.2.2.2.up p1).know g3 g1 ⟨rfl, ai_p1_g (g4.up p1) hx hn p3⟩⟩
        · exact K0
      · exact K0
    · exact K0
noncomputable def ai_swS (ls : List ai_L) : ai_S → ai_S := List.rec (motive := fun _ => ai_S → ai_S) (fun S => S) (fun L _ ih S => ih (ai_sw1 S L)) ls
theorem ai_swS_g : ∀ {ls : List ai_L} {ρ : List Int} {S : ai_S}, ai_g ρ w0 S lo st w → ∃ ρ', ρ <+: ρ' ∧ ai_g ρ' w0 (ai_swS ls S) lo st w
  | [], ρ, S, H => ⟨ρ, List.prefix_refl ρ, H⟩
  | L :: ls, ρ, S, H => by
    obtain ⟨ρ1, h1, h2⟩ := ai_sw1_g (L := L) H
    obtain ⟨ρ2, h3, h4⟩ := ai_swS_g (ls := ls) h2
    exact ⟨ρ2, h1.trans h3, h4⟩
/-- a call: the first contract that fits -/
noncomputable def ai_pick (D cal : Nat) (M : ex_M) (as : List ai_V) (S : ai_S) (Γ : List ai_K) : Option (List ai_S) := List.rec (motive := fun _ => Option (List ai_S)) none (fun K _ ih => match Nat.beq K.1 cal && Nat.blt K.2.1 D with
  | false => ih
  | true => match ai_T 0 (ai_ent M as (ai_swS K.2.2.2.1 S)) K.2.2.2.1 with
    | none => ih
    | some T => match ai_sbS false 0 K.2.2.2.1 T (ai_ent M as (ai_swS K.2.2.2.1 S)) K.2.2.1 with
      | false => ih
      | true => some (K.2.2.2.2.filterMap (ai_aft T (ai_swS K.2.2.2.1 S)))) Γ
theorem ai_pick_c (D cal : Nat) (M : ex_M) (as : List ai_V) (S : ai_S) (K : ai_K) (Γ : List ai_K) : ai_pick D cal M as S (K :: Γ) = match Nat.beq K.1 cal && Nat.blt K.2.1 D with
  | false => ai_pick D cal M as S Γ
  | true => match ai_T 0 (ai_ent M as (ai_swS K.2.2.2.1 S)) K.2.2.2.1 with
    | none => ai_pick D cal M as S Γ
    | some T => match ai_sbS false 0 K.2.2.2.1 T (ai_ent M as (ai_swS K.2.2.2.1 S)) K.2.2.1 with
      | false => ai_pick D cal M as S Γ
      | true => some (K.2.2.2.2.filterMap (ai_aft T (ai_swS K.2.2.2.1 S))) := rfl
noncomputable def ai_call (Γ : List ai_K) (D cal : Nat) (as : List ai_V) (S : ai_S) : Option (List ai_S) := match ex_at ex_lst cal with
  | none => none
  | some M => match ai_notop as && Nat.ble (ai_lay as).length M.2.2.2.2.1 with
    | false => none
    | true => ai_pick D cal M as S Γ
theorem ai_pick_s {X : List Int32} {D cal d : Nat} {Ss : List ai_S} {M : ex_M} {as : List ai_V} {vs : List Value} (hM : ex_at ex_lst cal = some M) (hd : D ≤ d + 1) (H : ai_g ρ w0 S lo st w) (hno : ai_notop as = true) (hv : ai_gst ρ as vs) : ∀ {Γ : List ai_K}, (∀ K ∈ Γ, ai_holds K) → ai_pick D cal M as S Γ = some Ss → ∃ r w', Go X d M (ex_ent M vs) w (r, w') ∧ ∃ S', S' ∈ Ss ∧ ∃ ρ', ρ <+: ρ' ∧ ai_g ρ' w0 S' lo (r.toList ++ st) w'
  | [], _, h => by cases h
  | K :: Γ, hΓ, h => by
    have ih := ai_pick_s (X := X) (Ss := Ss) hM hd H hno hv (Γ := Γ) (fun K hK => hΓ K (List.mem_cons_of_mem _ hK))
    rw [ai_pick_c] at h
    split at h
    · exact ih h
    · next hb =>
      rw [Bool.and_eq_true] at hb
      have hc : K.1 = cal := Nat.eq_of_beq_eq_true hb.1
      have hD := Nat.blt_eq.mp hb.2
      split at h
      · exact ih h
      · next T hT =>
        split at h
        · exact ih h
        · next hs =>
          cases h
          obtain ⟨ρ', g1, H'⟩ := ai_swS_g (ls := K.2.2.2.1) H
          have hl := ai_lay_g hno (hv.up g1)
          have e : (ex_lay vs).length = (ai_lay as).length := hl.1.symm
          have Hc : ai_g ρ' w0 (ai_ent M as (ai_swS K.2.2.2.1 S)) (ex_lay vs ++ List.replicate (M.2.2.2.2.1 - (ex_lay vs).length) none) [] w := by
            refine ⟨H'.1, ?_, trivial, H'.2.2.2⟩
            rw [e]
            exact ai_gl_app hl (ai_gl_rep _)
          have hp : ([] : List Int) <+: ρ' := List.nil_prefix
          have h1 := ai_sbS_g (ρ0 := []) (fl := false) (w1 := w) hp Hc hT hs (Or.inr rfl)
          obtain ⟨t1, t2⟩ := ai_T_g (ρ0 := []) hp Hc hT
          obtain ⟨r, w', k1, P, k2, k3⟩ := hΓ K List.mem_cons_self M (by rw [hc]; exact hM) X d (by omega) _ _ w h1
          obtain ⟨S', k4, k5⟩ := ai_aft_g t2 H' k3
          exact ⟨r, w', k1, S', List.mem_filterMap.mpr ⟨P, k2, k4⟩, ρ', g1, k5⟩
theorem ai_call_s {X : List Int32} {Γ : List ai_K} {D cal d : Nat} {as : List ai_V} {vs : List Value} {Ss : List ai_S} (hΓ : ∀ K ∈ Γ, ai_holds K) (hd : D ≤ d + 1) (h : ai_call Γ D cal as S = some Ss) (H : ai_g ρ w0 S lo st w) (hv : ai_gst ρ as vs) : ∃ M, ex_at ex_lst cal = some M ∧ (ex_lay vs).length ≤ M.2.2.2.2.1 ∧ ∃ r w', Go X d M (ex_ent M vs) w (r, w') ∧ ∃ S', S' ∈ Ss ∧ ∃ ρ', ρ <+: ρ' ∧ ai_g ρ' w0 S' lo (r.toList ++ st) w' := by
  unfold ai_call at h
  split at h
  · cases h
  · next M hM =>
    split at h
    · cases h
    · next hb =>
      rw [Bool.and_eq_true] at hb
      have hl := ai_lay_g hb.1 hv
      have hn := Nat.le_of_ble_eq_true hb.2
      have e : (ex_lay vs).length = (ai_lay as).length := hl.1.symm
      exact ⟨M, hM, by rw [e]; exact hn, ai_pick_s hM hd H hb.1 hv hΓ h⟩
/-- a number's symbol, wherever it lies -/
noncomputable def ai_sl (S : ai_S) (L : ai_L) : ai_S := match L with
  | .inl i => match ex_at S.2.1 i with
    | some (.inl (b, n)) => ((ai_sym S.1 n).1, ex_put S.2.1 i (.inl (b, (ai_sym S.1 n).2)), S.2.2.1, S.2.2.2)
    | _ => S
  | .inr q => ai_sw1 S (.inr q)
theorem ai_sl_g {L : ai_L} (H : ai_g ρ w0 S lo st w) : ∃ ρ', ρ <+: ρ' ∧ ai_g ρ' w0 (ai_sl S L) lo st w := by
  unfold ai_sl
  split
  · next i =>
    split
    · next b n hn =>
      rw [ex_at_eq] at hn
      obtain ⟨x, h1, h2⟩ := H.2.1.2 i _ hn
      obtain ⟨v, z, rfl, h3, h4⟩ := h2
      obtain ⟨ρ', g, g1, g2⟩ := ai_sym_g H.1 h4
      have hv : ai_gv ρ' (.inl (b, (ai_sym S.1 n).2)) (some v) := ⟨v, z, rfl, h3, g2⟩
      exact ⟨ρ', g, g1, (H.2.1.up g).same h1 hv, H.2.2.1.up g, H.2.2.2.up g⟩
    · exact ⟨ρ, List.prefix_refl ρ, H⟩
  · exact ai_sw1_g H
/-- the pieces of a state by where a number lies -/
noncomputable def ai_pcs (S : ai_S) (n : ai_N) (cs : List Int) : Int → List ai_S := List.rec (motive := fun _ => Int → List ai_S) (fun l => match ai_lrn S.1 n l n.2.1 with
  | some e => [(e, S.2.1, S.2.2.1, S.2.2.2)]
  | none => []) (fun c _ ih l => match ai_lrn S.1 n l (c - 1) with
  | some e => (e, S.2.1, S.2.2.1, S.2.2.2) :: ih c
  | none => ih c) cs
theorem ai_pcs_c (S : ai_S) (n : ai_N) (c : Int) (cs : List Int) (l : Int) : ai_pcs S n (c :: cs) l = match ai_lrn S.1 n l (c - 1) with
  | some e => (e, S.2.1, S.2.2.1, S.2.2.2) :: ai_pcs S n cs c
  | none => ai_pcs S n cs c := rfl
theorem ai_pcs_g {n : ai_N} {z : Int} (H : ai_g ρ w0 S lo st w) (hn : ai_gn ρ n z) : ∀ {cs : List Int} {l : Int}, l ≤ z → ∃ S', S' ∈ ai_pcs S n cs l ∧ ai_g ρ w0 S' lo st w
  | [], l, hl => by
    obtain ⟨e, h1, h2⟩ := ai_lrn_g H.1 hn hl hn.2.1
    refine ⟨(e, S.2.1, S.2.2.1, S.2.2.2), ?_, h2, H.2⟩
    show _ ∈ (match ai_lrn S.1 n l n.2.1 with
      | some e => [(e, S.2.1, S.2.2.1, S.2.2.2)]
      | none => [])
    rw [h1]
    exact List.mem_singleton.mpr rfl
  | c :: cs, l, hl => by
    rw [ai_pcs_c]
    by_cases hz : z ≤ c - 1
    · obtain ⟨e, h1, h2⟩ := ai_lrn_g H.1 hn hl hz
      refine ⟨(e, S.2.1, S.2.2.1, S.2.2.2), ?_, h2, H.2⟩
      rw [h1]
      exact List.mem_cons_self
    · obtain ⟨S', h1, h2⟩ := ai_pcs_g H hn (cs := cs) (l := c) (by omega)
      refine ⟨S', ?_, h2⟩
      split
      · exact List.mem_cons_of_mem _ h1
      · exact h1
noncomputable def ai_cuts (C : List (Nat × ai_L × List Int)) (pc : Nat) (S : ai_S) : List ai_S := List.rec (motive := fun _ => List ai_S) [S] (fun q _ ih => match Nat.beq q.1 pc with
  | false => ih
  | true => match ai_look (ai_sl S q.2.1) q.2.1 with
    | some n => ai_pcs (ai_sl S q.2.1) (ai_eff (ai_sl S q.2.1).1 n) q.2.2 (ai_eff (ai_sl S q.2.1).1 n).1
    | none => ih) C
theorem ai_cuts_c (q : Nat × ai_L × List Int) (C : List (Nat × ai_L × List Int)) (pc : Nat) (S : ai_S) : ai_cuts (q :: C) pc S = match Nat.beq q.1 pc with
  | false => ai_cuts C pc S
  | true => match ai_look (ai_sl S q.2.1) q.2.1 with
    | some n => ai_pcs (ai_sl S q.2.1) (ai_eff (ai_sl S q.2.1).1 n) q.2.2 (ai_eff (ai_sl S q.2.1).1 n).1
    | none => ai_cuts C pc S := rfl
theorem ai_cuts_g {pc : Nat} (H : ai_g ρ w0 S lo st w) : ∀ {C : List (Nat × ai_L × List Int)}, ∃ S', S' ∈ ai_cuts C pc S ∧ ∃ ρ', ρ <+: ρ' ∧ ai_g ρ' w0 S' lo st w
  | [] => ⟨S, List.mem_singleton.mpr rfl, ρ, List.prefix_refl ρ, H⟩
  | q :: C => by
    rw [ai_cuts_c]
    split
    · exact ai_cuts_g H
    · split
      · next n hn =>
        obtain ⟨ρ', g, H'⟩ := ai_sl_g (L := q.2.1) H
        obtain ⟨z, -, hz⟩ := ai_look_g hn H'
        have hz := ai_eff_g H'.1 hz
        obtain ⟨S', h1, h2⟩ := ai_pcs_g H' hz (cs := q.2.2) hz.1
        exact ⟨S', h1, ρ', g, h2⟩
      · exact ai_cuts_g H
noncomputable def ai_run (Γ : List ai_K) (D : Nat) (M : ex_M) (C : List (Nat × ai_L × List Int)) (nodes : List ai_Nd) (posts : List ai_P) (g : Nat) (rA : List ai_D) (n : Nat) : Bool → Nat → ai_S → Bool := Nat.rec (motive := fun _ => Bool → Nat → ai_S → Bool) (fun _ _ _ => false) (fun _ ih first pc S => match !first && nodes.any (fun N => Nat.beq N.1 pc) with
  | true => (ai_cuts C pc S).all (fun S' => nodes.any (ai_hit g rA pc S'))
  | false => match ai_step M pc S with
    | none => false
    | some outs => outs.all (fun o => match o with
      | .inl (pc', S') => ih false pc' S'
      | .inr (.inl (cal, as, pc', S')) => match ai_call Γ D cal as S' with
        | none => false
        | some Ss => Ss.all (fun S'' => ih false pc' S'')
      | .inr (.inr (r, S')) => posts.any (ai_fin g r S'))) n
theorem ai_run_c (Γ : List ai_K) (D : Nat) (M : ex_M) (C : List (Nat × ai_L × List Int)) (nodes : List ai_Nd) (posts : List ai_P) (g : Nat) (rA : List ai_D) (n : Nat) (first : Bool) (pc : Nat) (S : ai_S) : ai_run Γ D M C nodes posts g rA (n + 1) first pc S = match !first && nodes.any (fun N => Nat.beq N.1 pc) with
  | true => (ai_cuts C pc S).all (fun S' => nodes.any (ai_hit g rA pc S'))
  | false => match ai_step M pc S with
    | none => false
    | some outs => outs.all (fun o => match o with
      | .inl (pc', S') => ai_run Γ D M C nodes posts g rA n false pc' S'
      | .inr (.inl (cal, as, pc', S')) => match ai_call Γ D cal as S' with
        | none => false
        | some Ss => Ss.all (fun S'' => ai_run Γ D M C nodes posts g rA n false pc' S'')
      | .inr (.inr (r, S')) => posts.any (ai_fin g r S')) := rfl
def ai_good (X : List Int32) (d : Nat) (M : ex_M) (posts : List ai_P) (ρ0 : List Int) (w0 : ex_W) (pc : Nat) (lo : ex_L) (st : List Value) (w : ex_W) : Prop := ∃ r w', Go X d M (pc, lo, st) w (r, w') ∧ ∃ P, P ∈ posts ∧ ai_end ρ0 w0 P r w'
theorem ai_run_s {X : List Int32} {Γ : List ai_K} {D d : Nat} {M : ex_M} {C : List (Nat × ai_L × List Int)} {nodes : List ai_Nd} {posts : List ai_P} {rA : List ai_D} (hΓ : ∀ K ∈ Γ, ai_holds K) (hd : D ≤ d) (hp0 : ρ0 <+: ρA) (hrA : ∀ q ∈ rA, ∀ u bd k, q = .inr (u, bd, k) → k < ρA.length) (hv : ∀ N ∈ nodes, N.2.2.2.length = rA.length ∧ ∀ q ∈ N.2.2.2, ai_dok N.2.1.1 q = true)
    (IH : ∀ N ∈ nodes, ∀ (ρn : List Int) (lo : ex_L) (st : List Value) (w : ex_W), ρ0 <+: ρn → ai_g ρn w0 N.2.1 lo st w → ai_rv ρn N.2.2.2 < ai_rv ρA rA → ai_good X d M posts ρ0 w0 N.1 lo st w) :
    ∀ (n : Nat) (first : Bool) (pc : Nat) (S : ai_S) (ρ : List Int) (lo : ex_L) (st : List Value) (w : ex_W), ai_run Γ D M C nodes posts ρ0.length rA n first pc S = true → ρA <+: ρ → ai_g ρ w0 S lo st w → ai_good X d M posts ρ0 w0 pc lo st w := by
  intro n
  induction n with
  | zero => intro first pc S ρ lo st w h; cases h
  | succ n ih =>
    intro first pc S ρ lo st w h hp H
    rw [ai_run_c] at h
    split at h
    · rw [List.all_eq_true] at h
      obtain ⟨Sc, hSc, ρc, hρc, H⟩ := ai_cuts_g (C := C) (pc := pc) H
      have h := h Sc hSc
      have hp := hp.trans hρc
      rw [List.any_eq_true] at h
      obtain ⟨N, hN, hh⟩ := h
      unfold ai_hit at hh
      split at hh
      · cases hh
      · next hpc =>
        obtain rfl : N.1 = pc := Nat.eq_of_beq_eq_true hpc
        split at hh
        · cases hh
        · next T hT =>
          split at hh
          · cases hh
          · next hx =>
            have hp1 : ρ0 <+: ρc := hp0.trans hp
            have Hn := ai_sbS_g (fl := true) (w1 := w0) hp1 H hT hh (Or.inl ⟨rfl, rfl⟩)
            obtain ⟨t1, t2⟩ := ai_T_g hp1 H hT
            obtain ⟨v1, v2⟩ := hv N hN
            refine IH N hN _ lo st w (List.prefix_append _ _) Hn ?_
            exact ai_lex_g hp t2 v1.symm (fun q hq => ai_dok_g Hn.1 (v2 q hq)) hrA hx
    · split at h
      · cases h
      · next outs ho =>
        rw [List.all_eq_true] at h
        obtain ⟨o, hm, ρ', g1, g2⟩ := ai_step_s (X := X) ho H
        have h := h o hm
        have hp' := hp.trans g1
        match o, h, g2 with
        | .inl (pc', S'), h, ⟨lo', st', w', e, H'⟩ =>
          obtain ⟨r, w2, k1, k2⟩ := ih false pc' S' ρ' lo' st' w' h hp' H'
          exact ⟨r, w2, Go.next e k1, k2⟩
        | .inr (.inr (r, S')), h, ⟨v, lo', st', e, hr, H'⟩ =>
          have h : posts.any (ai_fin ρ0.length r S') = true := h
          rw [List.any_eq_true] at h
          obtain ⟨P, hP, hf⟩ := h
          exact ⟨v, w, Go.ret e, P, hP, ai_fin_g (hp0.trans hp') H' hr hf⟩
        | .inr (.inl (cal, as, pc', S')), h, ⟨vs, lo', st', e, ha, H'⟩ =>
          have h : (match ai_call Γ D cal as S' with
            | none => false
            | some Ss => Ss.all (fun S'' => ai_run Γ D M C nodes posts ρ0.length rA n false pc' S'')) = true := h
          split at h
          · cases h
          · next Ss hS =>
            rw [List.all_eq_true] at h
            by_cases hd0 : d = 0
            · -- no depth is left: no contract could have been taken
              exfalso
              subst hd0
              have hD0 : D = 0 := by omega
              subst hD0
              unfold ai_call at hS
              split at hS
              · cases hS
              · next M' hM' =>
                split at hS
                · cases hS
                · have : ∀ Γ : List ai_K, ai_pick 0 cal M' as S' Γ = none := by
                    intro Γ
                    induction Γ with
                    | nil => rfl
                    | cons K Γ ihΓ =>
                      rw [ai_pick_c]
                      have : (Nat.beq K.1 cal && Nat.blt K.2.1 0) = false := by
                        cases hb : (Nat.beq K.1 cal && Nat.blt K.2.1 0) with
                        | false => rfl
                        | true =>
                          rw [Bool.and_eq_true] at hb
                          have := Nat.blt_eq.mp hb.2
                          omega
                      rw [this]
                      exact ihΓ
                  rw [this] at hS
                  cases hS
            · obtain ⟨d', rfl⟩ : ∃ e, d = e + 1 := ⟨d - 1, by omega⟩
              obtain ⟨M', hM', hl, r, w1, k1, S'', hS'', ρ2, g3, H''⟩ := ai_call_s (X := X) (d := d') hΓ hd hS H' ha
              obtain ⟨r2, w2, k2, k3⟩ := ih false pc' S'' ρ2 lo' _ w1 (h S'' hS'') (hp'.trans g3) H''
              exact ⟨r2, w2, Go.call e hM' hl k1 k2, k3⟩
/-- the check of a contract -/
noncomputable def ai_ck (Γ : List ai_K) (C : List (Nat × ai_L × List Int)) (K : ai_K) (r0 : List ai_D) (rest : List ai_Nd) (n : Nat) : Bool := match ex_at ex_lst K.1 with
  | none => false
  | some M => match ((0, K.2.2.1, [], r0) :: rest).all (fun N => Nat.beq N.2.2.2.length r0.length && N.2.2.2.all (ai_dok N.2.1.1)) with
    | false => false
    | true => ((0, K.2.2.1, [], r0) :: rest).all (fun N => (ai_cuts C N.1 N.2.1).all (fun S => ai_run Γ K.2.1 M C ((0, K.2.2.1, [], r0) :: rest) K.2.2.2.2 K.2.2.1.1.length N.2.2.2 n true N.1 S))
theorem ai_thm {Γ : List ai_K} {C : List (Nat × ai_L × List Int)} {K : ai_K} {r0 : List ai_D} {rest : List ai_Nd} {n : Nat} (h : ai_ck Γ C K r0 rest n = true) (hΓ : ∀ K ∈ Γ, ai_holds K) : ai_holds K := by
  intro M hM X d hd ρ0 lo w H
  unfold ai_ck at h
  rw [hM] at h
  dsimp only at h
  split at h
  · cases h
  · next hv =>
    rw [List.all_eq_true] at hv h
    have hg : K.2.2.1.1.length = ρ0.length := H.1.1.symm
    have key : ∀ (m : Nat), ∀ N ∈ ((0, K.2.2.1, [], r0) :: rest : List ai_Nd), ∀ (ρn : List Int) (lo : ex_L) (st : List Value) (w' : ex_W), ρ0 <+: ρn → ai_g ρn w N.2.1 lo st w' → ai_rv ρn N.2.2.2 < m → ai_good X d M K.2.2.2.2 ρ0 w N.1 lo st w' := by
      intro m
      induction m with
      | zero => intro N hN ρn lo st w' _ _ hm; omega
      | succ m ih =>
        intro N hN ρn lo st w' hp HN hm
        have hvN := hv N hN
        rw [Bool.and_eq_true, List.all_eq_true] at hvN
        have hrun := h N hN
        rw [List.all_eq_true] at hrun
        obtain ⟨Sc, hSc, ρc, hρc, Hc⟩ := ai_cuts_g (C := C) (pc := N.1) HN
        have hrun := hrun Sc hSc
        rw [hg] at hrun
        refine ai_run_s hΓ hd hp ?_ ?_ ?_ n true N.1 Sc ρc lo st w' hrun hρc Hc
        · intro q hq u bd k e
          have := hvN.2 q hq
          subst e
          have hk : ∃ y, ex_at N.2.1.1 k = some y := by
            cases u with
            | true =>
              have this : (match ex_at N.2.1.1 k with
                | some q => ai_le (bd - q.1) 4294967295
                | none => false) = true := this
              split at this
              · next y hy => exact ⟨y, hy⟩
              · cases this
            | false =>
              have this : (match ex_at N.2.1.1 k with
                | some q => ai_le (q.2 - bd) 4294967295
                | none => false) = true := this
              split at this
              · next y hy => exact ⟨y, hy⟩
              · cases this
          obtain ⟨y, hy⟩ := hk
          rw [ex_at_eq] at hy
          rw [HN.1.1]
          exact (List.getElem?_eq_some_iff.mp hy).1
        · intro N' hN'
          have := hv N' hN'
          rw [Bool.and_eq_true, List.all_eq_true] at this
          exact ⟨(Nat.eq_of_beq_eq_true this.1).trans (Nat.eq_of_beq_eq_true hvN.1).symm, this.2⟩
        · intro N' hN' ρ' lo' st' w'' hp' HN' hlt
          exact ih N' hN' ρ' lo' st' w'' hp' HN' (by omega)
    exact key _ _ List.mem_cons_self ρ0 lo [] w (List.prefix_refl _) H (Nat.lt_succ_self _)
end AIR
