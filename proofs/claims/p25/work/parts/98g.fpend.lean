/-! findPlan: its contract out of those of rowNow and tellsIt. -/
noncomputable def fp_U (W : ai_W) (us : List ai_V) : ai_W := ex_put (ex_put (ex_put W 59 (true, some (.inr (.inr (8, us))))) 67 (true, some fp_c67)) 69 (true, some fp_c69)
noncomputable def fp_as : List ai_V := [.inr (some (.ref 59)), .inl (false, .ofNat 1, .ofNat 16, []), .inl (false, ai_lo false, ai_hi false, [])]
noncomputable def fp_rt (P : ai_P) : Bool := match P.1, P.2.2 with
  | some (.inl (false, n)), [] => ai_le 0 n.1 && ai_le n.2.1 1
  | _, _ => false
noncomputable def fp_tck (Kt : ai_K) (S : ai_S) : Bool := Nat.beq Kt.1 166 && (Kt.2.2.2.2.all fp_rt && (match ai_T 0 (ai_ent mt_166 fp_as (ai_swS Kt.2.2.2.1 S)) Kt.2.2.2.1 with
  | none => false
  | some T => ai_sbS false 0 Kt.2.2.2.1 T (ai_ent mt_166 fp_as (ai_swS Kt.2.2.2.1 S)) Kt.2.2.1))
theorem fp_tell {X : List Int32} {d : Nat} {ρ : List Int} {w0 : ex_W} {U : ai_W} {e : ai_E} {Kt : ai_K} (hK : ai_holds Kt) (hd : Kt.2.1 ≤ d) (h : fp_tck Kt (e, [], [], U) = true) (he : ai_ge ρ e) : fp_tl X d ρ w0 U := by
  intro w x y H hx1 hx2
  unfold fp_tck at h
  rw [Bool.and_eq_true, Bool.and_eq_true] at h
  obtain ⟨h1, h2, h3⟩ := h
  have h1 : Kt.1 = 166 := Nat.eq_of_beq_eq_true h1
  split at h3
  · cases h3
  · next T hT =>
    have H0 : ai_g ρ w0 (e, [], [], U) [] [] w := ⟨he, ⟨rfl, fun i a ha => by simp at ha⟩, trivial, H⟩
    obtain ⟨ρ', g1, H'⟩ := ai_swS_g (ls := Kt.2.2.2.1) H0
    have hv : ai_gst ρ' fp_as [.ref 59, .int x, .int y] := ⟨rfl, ai_gv.ofI ⟨hx1, hx2, ai_gr.no⟩, ai_gv.ofI ⟨(ai_okI y).1, (ai_okI y).2, ai_gr.no⟩, trivial⟩
    have hl := ai_lay_g (as := fp_as) rfl hv
    have e1 : (ex_lay [Value.ref 59, .int x, .int y]).length = (ai_lay fp_as).length := hl.1.symm
    have Hc : ai_g ρ' w0 (ai_ent mt_166 fp_as (ai_swS Kt.2.2.2.1 (e, [], [], U))) (ex_lay [Value.ref 59, .int x, .int y] ++ List.replicate (mt_166.2.2.2.2.1 - (ex_lay [Value.ref 59, .int x, .int y]).length) none) [] w := by
      refine ⟨H'.1, ?_, trivial, H'.2.2.2⟩
      rw [e1]
      exact ai_gl_app hl (ai_gl_rep _)
    have k1 := ai_sbS_g (ρ0 := []) (fl := false) (w1 := w) List.nil_prefix Hc hT h3 (Or.inr rfl)
    obtain ⟨r, w', k2, P, k3, k4, k5, k6, k7⟩ := hK mt_166 (by rw [h1]; rfl) X d hd _ _ w k1
    rw [List.all_eq_true] at h2
    have h2 := h2 P k3
    unfold fp_rt at h2
    split at h2
    · next n hP hu =>
      rw [Bool.and_eq_true, ai_le_iff, ai_le_iff] at h2
      rw [hP] at k5
      have ew : w' = w := by
        apply List.ext_getElem?
        intro p
        cases hp : w'[p]? with
        | none =>
          have h9 := List.getElem?_eq_none_iff.mp hp
          rw [List.getElem?_eq_none_iff.mpr (by omega)]
        | some z => exact ((k7 p z hp).1 (by rw [hu]; rfl)).symm
      subst ew
      cases r with
      | none => exact absurd k5 (fun q => q)
      | some v =>
        have k5 : ai_gv _ (.inl (false, n)) (some v) := k5
        obtain ⟨c, rfl, g⟩ := k5.int
        have q1 := g.1
        have q2 := g.2.1
        exact ⟨c, ai_01 (by omega) (by omega), k2⟩
    · cases h2
noncomputable def fp_n60 : ai_V := .inl (false, .ofNat 0, .ofNat 60, [])
noncomputable def fp_rck (Kr : ai_K) (D : Nat) (e : ai_E) (W : ai_W) (us : List ai_V) : Bool := match ai_call [Kr] D 105 [.inr (some (.ref 59))] (e, [], [], W) with
  | none => false
  | some Ss => Ss.all (fun S' => match S'.2.2.1, ai_T e.length (S'.1, [], [], S'.2.2.2) [] with
    | [], some T => ai_sbS true e.length [] T (S'.1, [], [], S'.2.2.2) (e, [], [], ex_put (fp_U W us) 59 (true, some (.inr (.inr (8, ex_put us 23 fp_n60)))))
    | _, _ => false)
theorem fp_put2 {α : Type} (l : List α) (i : Nat) (a b : α) : ex_put (ex_put l i a) i b = ex_put l i b := by
  rw [ex_put_eq, ex_put_eq, ex_put_eq, List.set_set]
theorem fp_row {X : List Int32} {D d : Nat} {ρ : List Int} {w0 : ex_W} {W : ai_W} {us : List ai_V} {e : ai_E} {Kr : ai_K} (hK : ai_holds Kr) (hd : D ≤ d + 1) (h : fp_rck Kr D e W us = true) (he : ai_ge ρ e) (H : ai_gw ρ w0 W w0) (e59 : ex_at (fp_U W us) 59 = some (true, some (.inr (.inr (8, us))))) (u23 : ex_at us 23 = some fp_a) : ∃ w1 fs b, Go X d mt_105 (ex_ent mt_105 [.ref 59]) w0 (none, w1) ∧ ai_gw ρ w0 (fp_U W us) w1 ∧ ex_at w1 59 = some (.inr (.inr (8, fs))) ∧ ai_gl ρ us (fs.map some) ∧ ex_at fs 23 = some (.int (nI b)) ∧ b ≤ 60 := by
  unfold fp_rck at h
  split at h
  · cases h
  · next Ss hSs =>
    have H0 : ai_g ρ w0 (e, [], [], W) [] [] w0 := ⟨he, ⟨rfl, fun i a ha => by simp at ha⟩, trivial, H⟩
    obtain ⟨M, hM, -, r, w1, g1, S', m1, ρ', q1, H1⟩ := ai_call_s (X := X) (d := d) (ai_cons hK ai_nil) hd hSs H0 (vs := [.ref 59]) ⟨rfl, trivial⟩
    obtain rfl : M = mt_105 := Option.some.inj (hM.symm.trans rfl)
    rw [List.all_eq_true] at h
    have h := h S' m1
    split at h
    · next T hst hT =>
      have hr : r = none := by
        have h2 := H1.2.2.1
        rw [hst] at h2
        have h3 := h2.nil
        cases r with
        | none => rfl
        | some v => cases h3
      subst hr
      have H2 : ai_g ρ' w0 (S'.1, [], [], S'.2.2.2) [] [] w1 := ⟨H1.1, ⟨rfl, fun i a ha => by simp at ha⟩, trivial, H1.2.2.2⟩
      have hT' : ai_T ρ.length (S'.1, [], [], S'.2.2.2) [] = some T := by rw [he.1]; exact hT
      have h' : ai_sbS true ρ.length [] T (S'.1, [], [], S'.2.2.2) (e, [], [], ex_put (fp_U W us) 59 (true, some (.inr (.inr (8, ex_put us 23 fp_n60))))) = true := by rw [he.1]; exact h
      have H3 := ai_sbS_g (ρ0 := ρ) (fl := true) (w1 := w0) q1 H2 hT' h' (Or.inl ⟨rfl, rfl⟩)
      have er : cn_rho ρ [] w1 [] = ρ := by
        unfold cn_rho
        simp
      rw [er] at H3
      have H4 : ai_gw ρ w0 (ex_put (fp_U W us) 59 (true, some (.inr (.inr (8, ex_put us 23 fp_n60))))) w1 := H3.2.2.2
      obtain ⟨fs, a1, a2⟩ := fp_o H4 (vg_at_put e59)
      obtain ⟨v, b1, b2⟩ := fp_f a2 (vg_at_put u23)
      obtain ⟨z, rfl, b3⟩ := b2.int
      have z1 : (0 : Int) ≤ z.toInt := b3.1
      have z2 : z.toInt ≤ (60 : Int) := b3.2.1
      have hz : z = nI z.toInt.toNat := by
        apply Int32.toInt_inj.mp
        rw [nI_toInt (by omega)]
        omega
      have hg : ai_gl ρ us (fs.map some) := by
        have h5 := a2.same (i := 23) (a := fp_a) (x := some (.int z)) (by rw [List.getElem?_map, ← ex_at_eq, b1]; rfl) (ai_gv.ofI ⟨z1, by show z.toInt ≤ (130 : Int); omega, ai_gr.no⟩)
        rw [fp_put2, fp_put_id u23] at h5
        exact h5
      have H5 : ai_gw ρ w0 (fp_U W us) w1 := by
        have h6 := H4.put (p := 59) (c := .inr (.inr (8, us))) (x := .inr (.inr (8, fs))) ⟨rfl, hg⟩
        rw [fp_put2, fp_put_id e59, fp_put_id a1] at h6
        exact h6
      refine ⟨w1, fs, z.toInt.toNat, g1, H5, a1, hg, ?_, by omega⟩
      rw [b1, ← hz]
    · cases h
noncomputable def fp_K (D : Nat) (e : ai_E) (rn : List (Nat × Int × Int)) (W : ai_W) (ls : List ai_L) (us : List ai_V) : ai_K := (124, D, (e, [.inr (some (.ref 59)), .inl (false, .ofNat 0, .ofNat 5, rn), .inr none, .inr none, .inr none, .inr none], [], W), ls, [(none, e, [(59, .inr (.inr (8, us))), (67, fp_c67), (69, fp_c69)])])
noncomputable def fp_nof (W : ai_W) : Bool := List.rec (motive := fun _ => Bool) true (fun q _ ih => !q.1 && ih) W
theorem fp_nof_g : ∀ {W : ai_W}, fp_nof W = true → ∀ q ∈ W, q.1 = false
  | [], _, q, hq => by cases hq
  | a :: W, h, q, hq => by
    have h : (!a.1 && fp_nof W) = true := h
    rw [Bool.and_eq_true] at h
    rcases List.mem_cons.mp hq with rfl | hq
    · simpa using h.1
    · exact fp_nof_g h.2 q hq
theorem fp_thm {D : Nat} {e : ai_E} {rn : List (Nat × Int × Int)} {W : ai_W} {ls : List ai_L} {us : List ai_V} {Kr Kt : ai_K} {ch : Bool} {wn : ai_N} {r2 : List (Nat × Int × Int)} (hr : ai_holds Kr) (ht : ai_holds Kt) (cr : fp_rck Kr D e W us = true) (ct : fp_tck Kt (e, [], [], fp_U W us) = true) (hD : Nat.blt Kt.2.1 D = true) (hW : fp_nof W = true)
    (e59 : ex_at (fp_U W us) 59 = some (true, some (.inr (.inr (8, us))))) (e67 : ex_at (fp_U W us) 67 = some (true, some fp_c67)) (e68 : ex_at (fp_U W us) 68 = some (ch, some (.inl (.int, [(5, wn)])))) (e69 : ex_at (fp_U W us) 69 = some (true, some fp_c69)) (u2 : ex_at us 2 = some (.inl (false, .ofNat 4, .ofNat 16, r2))) (u22 : ex_at us 22 = some (.inr (some (.ref 67)))) (u23 : ex_at us 23 = some fp_a) (u24 : ex_at us 24 = some (.inr (some (.ref 68)))) (u25 : ex_at us 25 = some (.inr (some (.ref 69)))) (u26 : ex_at us 26 = some fp_b) {gs : List ai_V} (w59 : ex_at W 59 = some (false, some (.inr (.inr (8, gs))))) : ai_holds (fp_K D e rn W ls us) := by
  intro M hM X d hd ρ lo w H
  obtain rfl : M = mt_124 := Option.some.inj (hM.symm.trans rfl)
  have hd : D ≤ d := hd
  have hD := Nat.blt_eq.mp hD
  obtain ⟨d, rfl⟩ : ∃ q, d = q + 1 := ⟨d - 1, by omega⟩
  have H1 := H.1
  have H2 := H.2.1
  have Hw : ai_gw ρ w W w := H.2.2.2
  -- the locals
  have g0 := H2.2 0 _ rfl
  have g1 := H2.2 1 _ rfl
  have hlen : 6 = lo.length := H2.1
  obtain ⟨x0, p0, q0⟩ := g0
  obtain ⟨x1, p1, q1⟩ := g1
  obtain rfl : x0 = some (.ref 59) := q0
  obtain ⟨v1, z1, rfl, q2, q3⟩ := q1
  obtain ⟨n, rfl, rfl⟩ := ai_nzI q2
  have n0 : (0 : Int) ≤ n.toInt := q3.1
  have n5 : n.toInt ≤ (5 : Int) := q3.2.1
  have hn : n = nI n.toInt.toNat := by
    apply Int32.toInt_inj.mp
    rw [nI_toInt (by omega)]
    omega
  obtain ⟨w1, fs, b, c1, hU, h59, hg, f23, hb⟩ := fp_row (X := X) (d := d) hr (by omega) cr H1 Hw e59 u23
  obtain ⟨v26, a26, b26⟩ := fp_f hg u26
  obtain ⟨z, rfl, -⟩ := b26.int
  obtain ⟨hs, h590⟩ := pr_obj Hw w59
  obtain ⟨hU2, hg2⟩ := fp_w59 e59 hU hg u26 (v := .int 1000000) (ai_gv.ofI ⟨(ai_okI _).1, (ai_okI _).2, ai_gr.no⟩)
  have tl := fp_tell (X := X) (d := d) (ρ := ρ) (w0 := w) ht (by omega) ct H1
  -- the end
  have fin : ∀ w', ai_gw ρ w (fp_U W us) w' → ∃ P, P ∈ (fp_K D e rn W ls us).2.2.2.2 ∧ ai_end ρ w P none w' := by
    intro w' hw'
    refine ⟨_, List.mem_singleton.mpr rfl, H1, trivial, hw'.2.1, fun p x hx => ?_⟩
    have hl : p < (fp_U W us).length := by
      rw [hw'.1]
      exact (List.getElem?_eq_some_iff.mp hx).1
    obtain ⟨x', y1, y2, y3⟩ := hw'.2.2 p _ (List.getElem?_eq_getElem hl)
    obtain rfl : x = x' := Option.some.inj (hx.symm.trans y1)
    refine ⟨fun hget => y2 ?_, fun c hc => y3 c ?_⟩
    · have n1 : Nat.beq 59 p = false := by
        cases h9 : Nat.beq 59 p with
        | false => rfl
        | true => exact absurd hget (by show (match Nat.beq 59 p with | true => _ | false => _) ≠ none; rw [h9]; exact (fun q => by cases q))
      have n2 : Nat.beq 67 p = false := by
        cases h9 : Nat.beq 67 p with
        | false => rfl
        | true => exact absurd hget (by show (match Nat.beq 59 p with | true => _ | false => (match Nat.beq 67 p with | true => _ | false => _)) ≠ none; rw [n1, h9]; exact (fun q => by cases q))
      have n3 : Nat.beq 69 p = false := by
        cases h9 : Nat.beq 69 p with
        | false => rfl
        | true => exact absurd hget (by show (match Nat.beq 59 p with | true => _ | false => (match Nat.beq 67 p with | true => _ | false => (match Nat.beq 69 p with | true => _ | false => _))) ≠ none; rw [n1, n2, h9]; exact (fun q => by cases q))
      have e1 : ex_at (fp_U W us) p = ex_at W p := by
        unfold fp_U
        rw [vg_at_ne n3, vg_at_ne n2, vg_at_ne n1]
      have e2 : ex_at (fp_U W us) p = some ((fp_U W us)[p]) := by rw [ex_at_eq, List.getElem?_eq_getElem hl]
      rw [e1, ex_at_eq] at e2
      exact fp_nof_g hW _ (List.mem_of_getElem? e2)
    · have e2 : ex_at (fp_U W us) p = some ((fp_U W us)[p]) := by rw [ex_at_eq, List.getElem?_eq_getElem hl]
      have hc : (match Nat.beq 59 p with | true => some (.inr (.inr (8, us))) | false => (match Nat.beq 67 p with | true => some fp_c67 | false => (match Nat.beq 69 p with | true => some fp_c69 | false => none))) = some c := hc
      cases k1 : Nat.beq 59 p with
      | true =>
        rw [k1] at hc
        obtain rfl := Nat.eq_of_beq_eq_true k1
        rw [e59] at e2
        rw [← Option.some.inj e2]
        exact hc
      | false =>
        rw [k1] at hc
        cases k2 : Nat.beq 67 p with
        | true =>
          rw [k2] at hc
          obtain rfl := Nat.eq_of_beq_eq_true k2
          rw [e67] at e2
          rw [← Option.some.inj e2]
          exact hc
        | false =>
          rw [k2] at hc
          cases k3 : Nat.beq 69 p with
          | true =>
            rw [k3] at hc
            obtain rfl := Nat.eq_of_beq_eq_true k3
            rw [e69] at e2
            rw [← Option.some.inj e2]
            exact hc
          | false => rw [k3] at hc; cases hc
  have hlo : ∃ o2 o3 o4 o5, lo = [some (.ref 59), some (.int n), o2, o3, o4, o5] := by
    match lo, hlen, p0, p1 with
    | [a0, a1, a2, a3, a4, a5], _, p0, p1 => cases p0; cases p1; exact ⟨a2, a3, a4, a5, rfl⟩
  obtain ⟨o2, o3, o4, o5, rfl⟩ := hlo
  by_cases hz : n.toInt.toNat = 0
  · have en : n = nI 0 := by rw [hn, hz]
    obtain ⟨l, h67, gl⟩ := fp_r hU2 e67
    obtain ⟨w2, t1, t2, -, -, -⟩ := fp_tp (X := X) (d := d) (s := 0) (b := b) (nn := 0) e59 e69 u22 u25 u26 (by omega) (by omega) hU2 (vg_at_put h59) hg2 h67 gl
    refine ⟨none, w2, fp_n' h590 c1 h59 f23 a26 (by rw [en]; decide) t1 (fp_e0 (by rw [en]; decide)), fin w2 t2⟩
  · obtain ⟨l, h67, gl⟩ := fp_r hU2 e67
    have HH : fp_H ρ w (fp_U W us) (ex_put w1 59 (.inr (.inr (8, ex_put fs 26 (.int 1000000))))) b 0 (fun _ => 0) := ⟨hU2, _, l, vg_at_put h59, by rw [vg_at_o rfl f23]; rfl, h67, fun j hj => by omega⟩
    obtain ⟨w', g1, g2⟩ := fp_loop (nn := n.toInt.toNat) (b := b) e59 e67 e68 e69 u2 u22 u23 u24 u25 u26 tl (by omega) (by omega) hb (fp_mu (fun _ => 0) 0 1 + 1) _ 0 1 (fun _ => 0) 0 (by omega) HH (by omega) (by omega) (by omega)
    refine ⟨none, w', fp_0' h590 c1 h59 f23 a26 ?_ ?_, fin w' g2⟩
    · rw [hn, k0_k2, kc_ne, nI_toInt (by omega)]
      exact decide_eq_true (by show ¬ ((n.toInt.toNat : Nat) : Int) = 0; omega)
    · rw [hn]
      exact g1
