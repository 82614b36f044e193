/-! findPlan OF THE REFERENCE comes to its end: its numbers, read as figures, go up. By hand. -/
noncomputable def fp_c67 : ai_C := .inl (.int, [(130, .negSucc 3, .ofNat 16, [])])
noncomputable def fp_c69 : ai_C := .inl (.int, [(5, .negSucc 3, .ofNat 16, [])])
noncomputable def fp_a : ai_V := .inl (false, .ofNat 0, .ofNat 130, [])
noncomputable def fp_b : ai_V := .inl (false, ai_lo false, ai_hi false, [])
theorem fp_m1 : (Int32.ofInt (-1) : Int32) = -1 := by decide
theorem fp_put_id {α : Type} {l : List α} {i : Nat} {x : α} (h : ex_at l i = some x) : ex_put l i x = l := by
  rw [ex_at_eq] at h
  rw [ex_put_eq]
  apply List.ext_getElem?
  intro j
  rw [List.getElem?_set]
  by_cases hj : i = j
  · subst hj
    rw [if_pos rfl, if_pos (List.getElem?_eq_some_iff.mp h).1, h]
  · rw [if_neg hj]
theorem fp_seg {ρ : List Int} {m j : Nat} {n : ai_N} {l : List Int32} {x : Int32} (h : ai_gs ρ [(m, n)] l) (hx : ai_gn ρ n x.toInt) : ai_gs ρ [(m, n)] (ex_put l j x) := by
  obtain ⟨h1, h2, h3⟩ := h
  have h1 : m ≤ l.length := h1
  have h3 : l.drop m = [] := h3
  rw [ex_put_eq]
  refine ⟨by show m ≤ (l.set j x).length; rw [List.length_set]; exact h1, fun y hy => ?_, ?_⟩
  · have hy : y ∈ (l.set j x).take m := hy
    rw [List.take_set] at hy
    rcases List.mem_or_eq_of_mem_set hy with hy | hy
    · exact h2 y hy
    · subst hy
      exact hx
  · show (l.set j x).drop m = []
    rw [List.drop_eq_nil_iff] at h3 ⊢
    rw [List.length_set]
    exact h3
theorem fp_rd {ρ : List Int} {m k : Nat} {n : ai_N} {l : List Int32} (h : ai_gs ρ [(m, n)] l) (hk : k < m) : k < l.length ∧ ai_gn ρ n (l.getD k 0).toInt := by
  obtain ⟨h1, h2, h3⟩ := h
  have h1 : m ≤ l.length := h1
  have hl : k < l.length := by omega
  refine ⟨hl, h2 _ ?_⟩
  rw [List.getD_eq_getElem?_getD, List.getElem?_eq_getElem hl]
  refine List.mem_of_getElem? (i := k) ?_
  show (l.take m)[k]? = _
  rw [List.getElem?_take_of_lt hk, List.getElem?_eq_getElem hl]
  rfl
theorem fp_len {ρ : List Int} {m : Nat} {n : ai_N} {l : List Int32} (h : ai_gs ρ [(m, n)] l) : l.length = m := by
  have := h.len
  rw [this]
  show m + 0 = m
  omega
section FP
variable {X : List Int32} {d : Nat} {ρ : List Int} {w0 : ex_W} {U : ai_W} {us : List ai_V}
theorem fp_o {w : ex_W} {p c : Nat} {ch : Bool} {vs : List ai_V} (H : ai_gw ρ w0 U w) (h : ex_at U p = some (ch, some (.inr (.inr (c, vs))))) : ∃ fs, ex_at w p = some (.inr (.inr (c, fs))) ∧ ai_gl ρ vs (fs.map some) := by
  rw [ex_at_eq] at h
  obtain ⟨x, h1, -, h3⟩ := H.2.2 p _ h
  obtain ⟨fs, rfl, h4⟩ := (h3 _ rfl).obj
  exact ⟨fs, by rw [ex_at_eq]; exact h1, h4⟩
theorem fp_r {w : ex_W} {p : Nat} {ch : Bool} {ty : FieldType} {s : List (Nat × ai_N)} (H : ai_gw ρ w0 U w) (h : ex_at U p = some (ch, some (.inl (ty, s)))) : ∃ l, ex_at w p = some (.inl (ty, l)) ∧ ai_gs ρ s l := by
  rw [ex_at_eq] at h
  obtain ⟨x, h1, -, h3⟩ := H.2.2 p _ h
  obtain ⟨l, rfl, h4⟩ := (h3 _ rfl).arr
  exact ⟨l, by rw [ex_at_eq]; exact h1, h4⟩
theorem fp_f {vs : List ai_V} {fs : List Value} {k : Nat} {a : ai_V} (h : ai_gl ρ vs (fs.map some)) (hk : ex_at vs k = some a) : ∃ v, ex_at fs k = some v ∧ ai_gv ρ a (some v) := by
  obtain ⟨v, h1, h2⟩ := ai_fld h hk
  exact ⟨v, by rw [ex_at_eq]; exact h1, h2⟩
theorem fp_w59 {w : ex_W} {fs : List Value} {k : Nat} {a : ai_V} {v : Value} (e59 : ex_at U 59 = some (true, some (.inr (.inr (8, us))))) (H : ai_gw ρ w0 U w) (hf : ai_gl ρ us (fs.map some)) (hk : ex_at us k = some a) (hv : ai_gv ρ a (some v)) : ai_gw ρ w0 U (ex_put w 59 (.inr (.inr (8, ex_put fs k v)))) ∧ ai_gl ρ us ((ex_put fs k v).map some) := by
  have hg : ai_gl ρ us ((ex_put fs k v).map some) := by
    rw [ai_mput]
    have := hf.put (i := k) hv
    rw [fp_put_id hk] at this
    exact this
  refine ⟨?_, hg⟩
  have h1 : ai_gw ρ w0 (ex_put U 59 (true, some (.inr (.inr (8, us))))) (ex_put w 59 (.inr (.inr (8, ex_put fs k v)))) := H.put ⟨rfl, hg⟩
  rw [fp_put_id e59] at h1
  exact h1
theorem fp_wr {w : ex_W} {p m j : Nat} {n : ai_N} {l : List Int32} {x : Int32} (e : ex_at U p = some (true, some (.inl (.int, [(m, n)])))) (H : ai_gw ρ w0 U w) (hl : ai_gs ρ [(m, n)] l) (hx : ai_gn ρ n x.toInt) : ai_gw ρ w0 U (ex_put w p (.inl (.int, ex_put l j x))) := by
  have h1 : ai_gw ρ w0 (ex_put U p (true, some (.inl (.int, [(m, n)])))) (ex_put w p (.inl (.int, ex_put l j x))) := H.put ⟨rfl, fp_seg hl hx⟩
  rw [fp_put_id e] at h1
  exact h1
theorem fp_ix {a m : Nat} (h : a < m) (hm : m < 2 ^ 31) : ex_ix (nI a) m = true := decide_eq_true (nI_in h hm)
theorem fp_gd {l : List Int32} {a : Nat} (h : a < 2 ^ 31) : ex_gd l (nI a).toNatClampNeg = l.getD a 0 := by rw [nI_clamp h, ex_gd_eq]
/-- takesPlan -/
theorem fp_tp1 {fs : List Value} {l : List Int32} {b nn : Nat} {s : Int32} (e69 : ex_at U 69 = some (true, some fp_c69)) (f25 : ex_at fs 25 = some (.ref 69)) (f22 : ex_at fs 22 = some (.ref 67)) (hl : ai_gs ρ [(130, .negSucc 3, .ofNat 16, [])] l) (hn : nn ≤ 5) (hb : b + nn ≤ 130) : ∀ (f k : Nat) (w : ex_W), nn - k ≤ f → k ≤ nn → ai_gw ρ w0 U w → ex_at w 59 = some (.inr (.inr (8, fs))) → ex_at w 67 = some (.inl (.int, l)) → ∃ w2, Go X d mt_169 (8, [some (.ref 59), some (.int (nI b)), some (.int (nI nn)), some (.int s), some (.int (nI k))], []) w (none, w2) ∧ ai_gw ρ w0 U w2 ∧ ex_at w2 59 = some (.inr (.inr (8, fs))) ∧ ex_at w2 67 = some (.inl (.int, l)) := by
  intro f
  induction f with
  | zero =>
    intro k w hf hk H h59 h67
    exact ⟨w, fq_2 (by rw [kc_ge, nI_toInt (by omega), nI_toInt (by omega)]; exact decide_eq_true (by omega)), H, h59, h67⟩
  | succ f ih =>
    intro k w hf hk H h59 h67
    by_cases hkn : nn ≤ k
    · exact ⟨w, fq_2 (by rw [kc_ge, nI_toInt (by omega), nI_toInt (by omega)]; exact decide_eq_true (by omega)), H, h59, h67⟩
    · obtain ⟨m, h69, gm⟩ := fp_r H e69
      have lm := fp_len gm
      have ll := fp_len hl
      obtain ⟨-, gx⟩ := fp_rd hl (k := b + k) (by omega)
      have ex : ex_gd l (nI b + nI k).toNatClampNeg = l.getD (b + k) 0 := by rw [nI_add, fp_gd (by omega)]
      have H2 : ai_gw ρ w0 U (ex_put w 69 (.inl (.int, ex_put m (nI k).toNatClampNeg (ex_gd l (nI b + nI k).toNatClampNeg)))) := fp_wr e69 H gm (by rw [ex]; exact gx)
      obtain ⟨w2, g1, g2, g3, g4⟩ := ih (k + 1) _ (by omega) (by omega) H2 (vg_at_o rfl h59) (vg_at_o rfl h67)
      rw [nI_succ] at g1
      exact ⟨w2, fq_1 (by rw [nI_add, ll]; exact fp_ix (by omega) (by omega)) (by rw [lm]; exact fp_ix (by omega) (by omega)) h59 f25 f22 h67 h69 (by rw [kc_ge, nI_toInt (by omega), nI_toInt (by omega)]; exact decide_eq_false (by omega)) g1, g2, g3, g4⟩
theorem fp_tp {w : ex_W} {fs : List Value} {l : List Int32} {b nn : Nat} {s : Int32} (e59 : ex_at U 59 = some (true, some (.inr (.inr (8, us))))) (e69 : ex_at U 69 = some (true, some fp_c69)) (u22 : ex_at us 22 = some (.inr (some (.ref 67)))) (u25 : ex_at us 25 = some (.inr (some (.ref 69)))) (u26 : ex_at us 26 = some fp_b) (hn : nn ≤ 5) (hb : b + nn ≤ 130) (H : ai_gw ρ w0 U w) (h59 : ex_at w 59 = some (.inr (.inr (8, fs)))) (hf : ai_gl ρ us (fs.map some)) (h67 : ex_at w 67 = some (.inl (.int, l))) (hl : ai_gs ρ [(130, .negSucc 3, .ofNat 16, [])] l) : ∃ w2, Go X d mt_169 (ex_ent mt_169 [.ref 59, .int (nI b), .int (nI nn), .int s]) w (none, w2) ∧ ai_gw ρ w0 U w2 ∧ ex_at w2 59 = some (.inr (.inr (8, ex_put fs 26 (.int s)))) ∧ ex_at w2 67 = some (.inl (.int, l)) ∧ ai_gl ρ us ((ex_put fs 26 (.int s)).map some) := by
  obtain ⟨H1, hf1⟩ := fp_w59 e59 H hf u26 (v := .int s) (ai_gv.ofI ⟨(ai_okI s).1, (ai_okI s).2, ai_gr.no⟩)
  obtain ⟨v25, a25, b25⟩ := fp_f hf1 u25
  obtain ⟨v22, a22, b22⟩ := fp_f hf1 u22
  cases (show some v25 = some (.ref 69) from b25)
  cases (show some v22 = some (.ref 67) from b22)
  obtain ⟨v26, a26, b26⟩ := fp_f hf u26
  obtain ⟨z, rfl, -⟩ := b26.int
  obtain ⟨w2, g1, g2, g3, g4⟩ := fp_tp1 (X := X) (d := d) (s := s) (b := b) e69 a25 a22 hl hn hb nn 0 _ (by omega) (by omega) H1 (vg_at_put h59) (vg_at_o rfl h67)
  exact ⟨w2, fq_0 h59 a26 g1, g2, g3, g4, hf1⟩
/-- the figures, as one number that falls -/
def fp_mu (D : Nat → Nat) (i x : Nat) : Nat := match i with
  | 0 => (18 - x) * 104976
  | 1 => (17 - D 0) * 104976 + (18 - x) * 5832
  | 2 => (17 - D 0) * 104976 + (17 - D 1) * 5832 + (18 - x) * 324
  | 3 => (17 - D 0) * 104976 + (17 - D 1) * 5832 + (17 - D 2) * 324 + (18 - x) * 18
  | _ => (17 - D 0) * 104976 + (17 - D 1) * 5832 + (17 - D 2) * 324 + (17 - D 3) * 18 + (18 - x)
theorem fp_mu_n {D : Nat → Nat} {i x : Nat} (h : x ≤ 17) : fp_mu D i (x + 1) < fp_mu D i x := by
  match i with
  | 0 => simp only [fp_mu]; omega
  | 1 => simp only [fp_mu]; omega
  | 2 => simp only [fp_mu]; omega
  | 3 => simp only [fp_mu]; omega
  | _ + 4 => simp only [fp_mu]; omega
theorem fp_mu_d {D D' : Nat → Nat} {i x : Nat} (hi : i < 4) (h : x ≤ 16) (hD : ∀ j, j < i → D' j = D j) (hx : D' i = x) : fp_mu D' (i + 1) 1 < fp_mu D i x := by
  match i, hi with
  | 0, _ => simp only [fp_mu]; omega
  | 1, _ => have := hD 0 (by omega); simp only [fp_mu]; omega
  | 2, _ => have := hD 0 (by omega); have := hD 1 (by omega); simp only [fp_mu]; omega
  | 3, _ => have := hD 0 (by omega); have := hD 1 (by omega); have := hD 2 (by omega); simp only [fp_mu]; omega
theorem fp_mu_b {D : Nat → Nat} {i x : Nat} (hi : i < 4) (h : x ≤ 17) : fp_mu D i (D i + 1) < fp_mu D (i + 1) x := by
  match i, hi with
  | 0, _ => simp only [fp_mu]; omega
  | 1, _ => simp only [fp_mu]; omega
  | 2, _ => simp only [fp_mu]; omega
  | 3, _ => simp only [fp_mu]; omega
def fp_H (ρ : List Int) (w0 : ex_W) (U : ai_W) (w : ex_W) (b i : Nat) (D : Nat → Nat) : Prop := ai_gw ρ w0 U w ∧ ∃ fs l, ex_at w 59 = some (.inr (.inr (8, fs))) ∧ ex_at fs 23 = some (.int (nI (b + i))) ∧ ex_at w 67 = some (.inl (.int, l)) ∧ ∀ j, j < i → 1 ≤ D j ∧ D j ≤ 16 ∧ l.getD (b + j) 0 = nI (D j)
/-- what tellsIt is asked for -/
def fp_tl (X : List Int32) (d : Nat) (ρ : List Int) (w0 : ex_W) (U : ai_W) : Prop := ∀ (w : ex_W) (x y : Int32), ai_gw ρ w0 U w → 1 ≤ x.toInt → x.toInt ≤ 16 → ∃ c : Int32, (c = 0 ∨ c = 1) ∧ Go X d mt_166 (ex_ent mt_166 [.ref 59, .int x, .int y]) w (some (.int c), w)
theorem fp_loop {nn b : Nat} {ch : Bool} {wn : ai_N} {r2 : List (Nat × Int × Int)} (e59 : ex_at U 59 = some (true, some (.inr (.inr (8, us))))) (e67 : ex_at U 67 = some (true, some fp_c67)) (e68 : ex_at U 68 = some (ch, some (.inl (.int, [(5, wn)])))) (e69 : ex_at U 69 = some (true, some fp_c69)) (u2 : ex_at us 2 = some (.inl (false, .ofNat 4, .ofNat 16, r2))) (u22 : ex_at us 22 = some (.inr (some (.ref 67)))) (u23 : ex_at us 23 = some fp_a) (u24 : ex_at us 24 = some (.inr (some (.ref 68)))) (u25 : ex_at us 25 = some (.inr (some (.ref 69)))) (u26 : ex_at us 26 = some fp_b) (ht : fp_tl X d ρ w0 U) (hn1 : 1 ≤ nn) (hn5 : nn ≤ 5) (hb : b ≤ 60) :
    ∀ (f : Nat) (w : ex_W) (i x : Nat) (D : Nat → Nat) (s : Int32), fp_mu D i x < f → fp_H ρ w0 U w b i D → i < nn → 1 ≤ x → x ≤ 17 → ∃ w', Go X (d + 1) mt_124 (34, [some (.ref 59), some (.int (nI nn)), some (.int (nI b)), some (.int (nI i)), some (.int (nI x)), some (.int s)], []) w (none, w') ∧ ai_gw ρ w0 U w' := by
  intro f
  induction f with
  | zero => intro w i x D s hf; omega
  | succ f ih =>
    intro w i x D s hf HH hi hx1 hx2
    obtain ⟨H, fs, l, h59, f23, h67, hD⟩ := HH
    obtain ⟨fs', h59', hg⟩ := fp_o H e59
    obtain rfl : fs' = fs := by
      have := h59'.symm.trans h59
      cases this
      rfl
    obtain ⟨l', h67', gl⟩ := fp_r H e67
    obtain rfl : l' = l := by
      have := h67'.symm.trans h67
      cases this
      rfl
    have ll := fp_len gl
    obtain ⟨v2, a2, b2⟩ := fp_f hg u2
    obtain ⟨mo, rfl, gmo⟩ := b2.int
    have m1 : (4 : Int) ≤ mo.toInt := gmo.1
    have m2 : mo.toInt ≤ (16 : Int) := gmo.2.1
    obtain ⟨v26, a26, b26⟩ := fp_f hg u26
    obtain ⟨be, rfl, -⟩ := b26.int
    obtain ⟨v22, a22, b22⟩ := fp_f hg u22
    cases (show some v22 = some (.ref 67) from b22)
    obtain ⟨v24, a24, b24⟩ := fp_f hg u24
    cases (show some v24 = some (.ref 68) from b24)
    obtain ⟨mm, h68, gm⟩ := fp_r H e68
    have lm := fp_len gm
    have ex : (nI x).toInt = (x : Int) := nI_toInt (by omega)
    have c1 : ex_c0 .le (nI nn) = false := by rw [k0_k2, kc_le, nI_toInt (by omega)]; exact decide_eq_false (by show ¬ (nn : Int) ≤ 0; omega)
    have c2 : ex_c0 .lt (nI i) = false := by rw [k0_k2, kc_lt, nI_toInt (by omega)]; exact decide_eq_false (by show ¬ (i : Int) < 0; omega)
    have ei : ex_ix (nI i) mm.length = true := by rw [lm]; exact fp_ix (by omega) (by omega)
    -- back by one
    have back : (ex_c2 .gt (nI x) mo = true ∨ (ex_c2 .gt (nI x) mo = false ∧ ex_c2 .lt (s + nI x) be = false)) → ∃ w', Go X (d + 1) mt_124 (34, [some (.ref 59), some (.int (nI nn)), some (.int (nI b)), some (.int (nI i)), some (.int (nI x)), some (.int s)], []) w (none, w') ∧ ai_gw ρ w0 U w' := by
      intro hc
      match i, hi, hD, hf, f23, c2 with
      | 0, hi, hD, hf, f23, c2 =>
        have e1 : nI 0 + (Int32.ofInt (-1)) = (-1 : Int32) := by decide
        have c4 : ex_c0 .ge (nI 0 + (Int32.ofInt (-1))) = false := by rw [e1]; decide
        obtain ⟨H1, -⟩ := fp_w59 e59 H hg u23 (v := .int (nI b + 0)) (ai_gv.ofI ⟨by show (0 : Int) ≤ (nI b + nI 0).toInt; rw [nI_add, nI_toInt (by omega)]; omega, by show (nI b + nI 0).toInt ≤ (130 : Int); rw [nI_add, nI_toInt (by omega)]; omega, ai_gr.no⟩)
        have k : Go X (d + 1) mt_124 (34, [some (.ref 59), some (.int (nI nn)), some (.int (nI b)), some (.int (nI 0 + (Int32.ofInt (-1)))), some (.int 0), some (.int (s - 0))], []) (ex_put w 59 (.inr (.inr (8, ex_put fs' 23 (.int (nI b + 0)))))) (none, _) := fp_e c1 (by rw [e1]; decide)
        rcases hc with hc | ⟨hc, hc2⟩
        · exact ⟨_, fp_za h59 a2 a26 f23 a22 a24 c1 c2 hc c4 c4 c4 k, H1⟩
        · exact ⟨_, fp_zb h59 a2 a26 f23 a22 a24 c1 c2 hc hc2 c4 c4 c4 k, H1⟩
      | i + 1, hi, hD, hf, f23, c2 =>
        obtain ⟨d1, d2, d3⟩ := hD i (by omega)
        have e1 : nI (i + 1) + (Int32.ofInt (-1)) = nI i := by
          rw [fp_m1, ← Int32.sub_eq_add_neg]
          exact nI_pred i
        have e2 : ex_gd l' (nI b + (nI (i + 1) + (Int32.ofInt (-1)))).toNatClampNeg = nI (D i) := by rw [e1, nI_add, fp_gd (by omega), d3]
        have c4 : ex_c0 .ge (nI (i + 1) + (Int32.ofInt (-1))) = true := by rw [e1, k0_k2, kc_ge, nI_toInt (by omega)]; exact decide_eq_true (by show (0 : Int) ≤ (i : Int); omega)
        have i1 : ex_ix (nI b + (nI (i + 1) + (Int32.ofInt (-1)))) l'.length = true := by rw [e1, nI_add, ll]; exact fp_ix (by omega) (by omega)
        have e3 : nI b + (nI (i + 1) + (Int32.ofInt (-1))) = nI (b + i) := by rw [e1, nI_add]
        obtain ⟨H1, -⟩ := fp_w59 e59 H hg u23 (v := .int (nI b + (nI (i + 1) + (Int32.ofInt (-1))))) (ai_gv.ofI ⟨by show (0 : Int) ≤ (nI b + (nI (i + 1) + (Int32.ofInt (-1)))).toInt; rw [e3, nI_toInt (by omega)]; omega, by show (nI b + (nI (i + 1) + (Int32.ofInt (-1)))).toInt ≤ (130 : Int); rw [e3, nI_toInt (by omega)]; omega, ai_gr.no⟩)
        have HH' : fp_H ρ w0 U (ex_put w 59 (.inr (.inr (8, ex_put fs' 23 (.int (nI b + (nI (i + 1) + (Int32.ofInt (-1))))))))) b i D := ⟨H1, _, l', vg_at_put h59, by rw [vg_at_put f23, e3], vg_at_o rfl h67, fun j hj => hD j (by omega)⟩
        obtain ⟨w', g1, g2⟩ := ih _ i (D i + 1) D (s - nI (D i)) (by have := fp_mu_b (D := D) (i := i) (x := x) (by omega) (by omega); omega) HH' (by omega) (by omega) (by omega)
        have k : Go X (d + 1) mt_124 (34, [some (.ref 59), some (.int (nI nn)), some (.int (nI b)), some (.int (nI (i + 1) + (Int32.ofInt (-1)))), some (.int ((ex_gd l' (nI b + (nI (i + 1) + (Int32.ofInt (-1)))).toNatClampNeg) + 1)), some (.int (s - (ex_gd l' (nI b + (nI (i + 1) + (Int32.ofInt (-1)))).toNatClampNeg)))], []) (ex_put w 59 (.inr (.inr (8, ex_put fs' 23 (.int (nI b + (nI (i + 1) + (Int32.ofInt (-1))))))))) (none, w') := by
          rw [e2, nI_1]
          rw [e1] at g1 ⊢
          exact g1
        rcases hc with hc | ⟨hc, hc2⟩
        · exact ⟨w', fp_ka i1 h59 a2 a26 f23 a22 a24 h67 c1 c2 hc c4 c4 c4 k, g2⟩
        · exact ⟨w', fp_kb i1 h59 a2 a26 f23 a22 a24 h67 c1 c2 hc hc2 c4 c4 c4 k, g2⟩
    cases hg1 : ex_c2 .gt (nI x) mo with
    | true => exact back (Or.inl hg1)
    | false =>
      cases hg2 : ex_c2 .lt (s + nI x) be with
      | false => exact back (Or.inr ⟨hg1, hg2⟩)
      | true =>
        have hx16 : x ≤ 16 := by
          rw [kc_gt, ex] at hg1
          have := of_decide_eq_false hg1
          omega
        obtain ⟨c, hc, g⟩ := ht w (nI x) (ex_gd mm (nI i).toNatClampNeg) H (by rw [ex]; omega) (by rw [ex]; omega)
        rcases hc with rfl | rfl
        · obtain ⟨w', g1, g2⟩ := ih w i (x + 1) D s (by have := fp_mu_n (D := D) (i := i) (x := x) (by omega); omega) ⟨H, fs', l', h59, f23, h67, hD⟩ hi (by omega) (by omega)
          rw [nI_succ] at g1
          exact ⟨w', fp_3 ei h59 a2 a26 f23 a22 a24 h68 c1 c2 hg1 hg2 g (by decide) g1, g2⟩
        · -- it tells: the number is added
          have r1 : ex_ix (nI (b + i)) l'.length = true := by rw [ll]; exact fp_ix (by omega) (by omega)
          have ga := fa_1 (X := X) (d := d) (x := nI x) h59 a22 r1 f23 h67
          have H1 : ai_gw ρ w0 U (ex_put w 67 (.inl (.int, ex_put l' (nI (b + i)).toNatClampNeg (nI x)))) := fp_wr e67 H gl ⟨by show (-4 : Int) ≤ (nI x).toInt; rw [ex]; omega, by show (nI x).toInt ≤ (16 : Int); rw [ex]; omega, ai_gr.no⟩
          have e4 : nI (b + i) + 1 = nI (b + i + 1) := nI_1 _
          obtain ⟨H2, hg2'⟩ := fp_w59 e59 H1 hg u23 (v := .int (nI (b + i) + 1)) (ai_gv.ofI ⟨by show (0 : Int) ≤ (nI (b + i) + 1).toInt; rw [e4, nI_toInt (by omega)]; omega, by show (nI (b + i) + 1).toInt ≤ (130 : Int); rw [e4, nI_toInt (by omega)]; omega, ai_gr.no⟩)
          have h59a : ex_at (ex_put w 67 (.inl (.int, ex_put l' (nI (b + i)).toNatClampNeg (nI x)))) 59 = some (.inr (.inr (8, fs'))) := vg_at_o rfl h59
          have h67a : ex_at (ex_put (ex_put w 67 (.inl (.int, ex_put l' (nI (b + i)).toNatClampNeg (nI x)))) 59 (.inr (.inr (8, ex_put fs' 23 (.int (nI (b + i) + 1)))))) 67 = some (.inl (.int, ex_put l' (nI (b + i)).toNatClampNeg (nI x))) := vg_at_o rfl (vg_at_put h67)
          have gl2 : ai_gs ρ [(130, .negSucc 3, .ofNat 16, [])] (ex_put l' (nI (b + i)).toNatClampNeg (nI x)) := fp_seg gl ⟨by show (-4 : Int) ≤ (nI x).toInt; rw [ex]; omega, by show (nI x).toInt ≤ (16 : Int); rw [ex]; omega, ai_gr.no⟩
          have eq : ∀ j, (ex_put l' (nI (b + i)).toNatClampNeg (nI x)).getD (b + j) 0 = if j = i then nI x else l'.getD (b + j) 0 := by
            intro j
            rw [nI_clamp (by omega), ex_put_eq, List.getD_eq_getElem?_getD, List.getElem?_set]
            by_cases hj : j = i
            · subst hj
              rw [if_pos rfl, if_pos (by omega), if_pos rfl]
              rfl
            · rw [if_neg (by omega), if_neg hj, List.getD_eq_getElem?_getD]
          by_cases hl : i + 1 = nn
          · -- the last one
            obtain ⟨w2, t1, t2, t3, t4, t5⟩ := fp_tp (X := X) (d := d) (s := s + nI x) (b := b) (nn := nn) e59 e69 u22 u25 u26 hn5 (by omega) H2 (vg_at_put h59a) hg2' h67a gl2
            have f23b : ex_at (ex_put (ex_put fs' 23 (.int (nI (b + i) + 1))) 26 (.int (s + nI x))) 23 = some (.int (nI (b + i) + 1)) := vg_at_o rfl (vg_at_put f23)
            have e5 : nI (b + i) + 1 - 1 = nI (b + i) := by rw [e4]; exact nI_pred _
            obtain ⟨H3, -⟩ := fp_w59 e59 t2 t5 u23 (v := .int (nI (b + i) + 1 - 1)) (ai_gv.ofI ⟨by show (0 : Int) ≤ (nI (b + i) + 1 - 1).toInt; rw [e5, nI_toInt (by omega)]; omega, by show (nI (b + i) + 1 - 1).toInt ≤ (130 : Int); rw [e5, nI_toInt (by omega)]; omega, ai_gr.no⟩)
            have HH' : fp_H ρ w0 U (ex_put w2 59 (.inr (.inr (8, ex_put (ex_put (ex_put fs' 23 (.int (nI (b + i) + 1))) 26 (.int (s + nI x))) 23 (.int (nI (b + i) + 1 - 1)))))) b i D := ⟨H3, _, _, vg_at_put t3, by rw [vg_at_put f23b, e5], vg_at_o rfl t4, fun j hj => by rw [eq j, if_neg (by omega)]; exact hD j hj⟩
            obtain ⟨w', g1, g2⟩ := ih _ i (x + 1) D (s + nI x - nI x) (by have := fp_mu_n (D := D) (i := i) (x := x) (by omega); omega) HH' hi (by omega) (by omega)
            rw [nI_succ] at g1
            refine ⟨w', fp_4 ei h59 a2 a26 f23 a22 a24 h68 c1 c2 hg1 hg2 g (by decide) ga (vg_at_put h59a) ?_ t1 t3 f23b g1, g2⟩
            rw [kc_ne, ← hl, show nI (i + 1) - 1 = nI i from nI_pred i]
            exact decide_eq_false (fun q => q rfl)
          · -- one more
            have HH' : fp_H ρ w0 U (ex_put (ex_put w 67 (.inl (.int, ex_put l' (nI (b + i)).toNatClampNeg (nI x)))) 59 (.inr (.inr (8, ex_put fs' 23 (.int (nI (b + i) + 1)))))) b (i + 1) (fun j => if j = i then x else D j) := by
              refine ⟨H2, _, _, vg_at_put h59a, by rw [vg_at_put f23, e4]; rfl, h67a, fun j hj => ?_⟩
              rw [eq j]
              by_cases hj2 : j = i
              · rw [if_pos hj2]
                show 1 ≤ (if j = i then x else D j) ∧ (if j = i then x else D j) ≤ 16 ∧ nI x = nI (if j = i then x else D j)
                rw [if_pos hj2]
                exact ⟨hx1, hx16, rfl⟩
              · rw [if_neg hj2]
                show 1 ≤ (if j = i then x else D j) ∧ (if j = i then x else D j) ≤ 16 ∧ l'.getD (b + j) 0 = nI (if j = i then x else D j)
                rw [if_neg hj2]
                exact hD j (by omega)
            obtain ⟨w', g1, g2⟩ := ih _ (i + 1) 1 (fun j => if j = i then x else D j) (s + nI x) (by
              have := fp_mu_d (D := D) (D' := fun j => if j = i then x else D j) (i := i) (x := x) (by omega) hx16 (fun j hj => by show (if j = i then x else D j) = D j; rw [if_neg (by omega)]) (by show (if i = i then x else D i) = x; rw [if_pos rfl])
              omega) HH' (by omega) (by omega) (by omega)
            rw [nI_succ] at g1
            refine ⟨w', fp_5 ei h59 a2 a26 f23 a22 a24 h68 c1 c2 hg1 hg2 g (by decide) ga (vg_at_put h59a) ?_ g1, g2⟩
            rw [kc_ne, show nI nn - 1 = nI (nn - 1) by rw [← nI_pred (nn - 1), show nn - 1 + 1 = nn by omega], nI_toInt (by omega), nI_toInt (by omega)]
            exact decide_eq_true (by omega)
end FP
