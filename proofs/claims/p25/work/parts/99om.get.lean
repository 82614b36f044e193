/-! CELLS out of a pattern. -/
section TV
variable {ρ : List Int} {w : ex_W}
theorem gI {vs : List ai_V} {fs : List Value} {k : Nat} {n : ai_N} (G : ai_gl ρ vs (fs.map some)) (hk : ex_at vs k = some (.inl (false, n))) : ∃ v, ex_at fs k = some (.int v) ∧ ai_gn ρ n v.toInt := by
  obtain ⟨v, h1, h2⟩ := fp_f G hk
  obtain ⟨i, rfl, h3⟩ := h2.int
  exact ⟨i, h1, h3⟩
theorem gR {vs : List ai_V} {fs : List Value} {k r : Nat} (G : ai_gl ρ vs (fs.map some)) (hk : ex_at vs k = some (.inr (some (.ref r)))) : ex_at fs k = some (.ref r) := by
  obtain ⟨v, h1, h2⟩ := fp_f G hk
  cases (show some v = some (.ref r) from h2)
  exact h1
theorem gL {vs : List ai_V} {fs : List Value} {m : Nat} (G : ai_gl ρ vs (fs.map some)) (h : vs.length = m) : fs.length = m := by
  have := G.1
  rw [List.length_map] at this
  omega
theorem gA {U : ai_W} {w0 : ex_W} {p m : Nat} {ch : Bool} {ty : FieldType} {s : List (Nat × ai_N)} (H : ai_gw ρ w0 U w) (h : ex_at U p = some (ch, some (.inl (ty, s)))) (hm : ai_sn s = m) : ∃ l, ex_at w p = some (.inl (ty, l)) ∧ l.length = m := by
  obtain ⟨l, h1, h2⟩ := fp_r H h
  exact ⟨l, h1, h2.len.trans hm⟩
theorem ex_ext {a b : List Value} {m : Nat} (ha : a.length = m) (hb : b.length = m) (h : ∀ i, i < m → ex_at a i = ex_at b i) : a = b := by
  apply List.ext_getElem?
  intro i
  by_cases hi : i < m
  · have := h i hi
    rw [ex_at_eq, ex_at_eq] at this
    exact this
  · rw [List.getElem?_eq_none (by omega), List.getElem?_eq_none (by omega)]
/-- told, draft or an image, out of a pattern -/
theorem tA_of {w0 : ex_W} {U : ai_W} {p : Nat} {ch c0 c1 c2 c3 c4 c5 : Bool} {b0 b1 b2 b3 b4 b5 b6 b7 : ai_N} {s0 s1 s2 s3 s4 s5 : List (Nat × ai_N)} (H : ai_gw ρ w0 U w) (h : ex_at U p = some (ch, some (.inr (.inr (6, [.inr (some (.ref (p + 1))), .inr (some (.ref (p + 2))), .inr (some (.ref (p + 3))), .inr (some (.ref (p + 4))), .inr (some (.ref (p + 5))), .inr (some (.ref (p + 6))), .inl (false, b0), .inl (false, b1), .inl (false, b2), .inl (false, b3), .inl (false, b4), .inl (false, b5), .inl (false, b6), .inl (false, b7)]))))) (h0 : ex_at U (p + 1 + 0) = some (c0, some (.inl (.int, s0)))) (h1 : ex_at U (p + 1 + 1) = some (c1, some (.inl (.int, s1)))) (h2 : ex_at U (p + 1 + 2) = some (c2, some (.inl (.int, s2)))) (h3 : ex_at U (p + 1 + 3) = some (c3, some (.inl (.int, s3)))) (h4 : ex_at U (p + 1 + 4) = some (c4, some (.inl (.int, s4)))) (h5 : ex_at U (p + 1 + 5) = some (c5, some (.inl (.int, s5)))) (m0 : ai_sn s0 = 4) (m1 : ai_sn s1 = 17) (m2 : ai_sn s2 = 60) (m3 : ai_sn s3 = 5) (m4 : ai_sn s4 = 4) (m5 : ai_sn s5 = 4) : ∃ tf ta, tA w p tf ta ∧ tL ta ∧ (b0.1 ≤ (tf 0).toInt ∧ (tf 0).toInt ≤ b0.2.1) ∧ (b1.1 ≤ (tf 1).toInt ∧ (tf 1).toInt ≤ b1.2.1) := by
  obtain ⟨fs, hp, G⟩ := fp_o H h
  obtain ⟨v0, e0, r0⟩ := gI G (k := 6) rfl
  obtain ⟨v1, e1, r1⟩ := gI G (k := 7) rfl
  obtain ⟨v2, e2, r2⟩ := gI G (k := 8) rfl
  obtain ⟨v3, e3, r3⟩ := gI G (k := 9) rfl
  obtain ⟨v4, e4, r4⟩ := gI G (k := 10) rfl
  obtain ⟨v5, e5, r5⟩ := gI G (k := 11) rfl
  obtain ⟨v6, e6, r6⟩ := gI G (k := 12) rfl
  obtain ⟨v7, e7, r7⟩ := gI G (k := 13) rfl
  obtain ⟨l0, a0, n0⟩ := gA H h0 m0
  obtain ⟨l1, a1, n1⟩ := gA H h1 m1
  obtain ⟨l2, a2, n2⟩ := gA H h2 m2
  obtain ⟨l3, a3, n3⟩ := gA H h3 m3
  obtain ⟨l4, a4, n4⟩ := gA H h4 m4
  obtain ⟨l5, a5, n5⟩ := gA H h5 m5
  have hfs : fs = td p v0 v1 v2 v3 v4 v5 v6 v7 := ex_ext (m := 14) (gL G rfl) rfl (fun i hi => match i, hi with
    | 0, _ => gR G (k := 0) rfl
    | 1, _ => gR G (k := 1) rfl
    | 2, _ => gR G (k := 2) rfl
    | 3, _ => gR G (k := 3) rfl
    | 4, _ => gR G (k := 4) rfl
    | 5, _ => gR G (k := 5) rfl
    | 6, _ => e0
    | 7, _ => e1
    | 8, _ => e2
    | 9, _ => e3
    | 10, _ => e4
    | 11, _ => e5
    | 12, _ => e6
    | 13, _ => e7)
  subst hfs
  exact ⟨up (up (up (up (up (up (up (up (fun _ => 0) 0 v0) 1 v1) 2 v2) 3 v3) 4 v4) 5 v5) 6 v6) 7 v7, up (up (up (up (up (up (fun _ => []) 0 l0) 1 l1) 2 l2) 3 l3) 4 l4) 5 l5, ⟨hp, fun k hk => match k, hk with
    | 0, _ => a0
    | 1, _ => a1
    | 2, _ => a2
    | 3, _ => a3
    | 4, _ => a4
    | 5, _ => a5
    | k + 6, hk => absurd hk (by omega)⟩, ⟨n0, n1, n2, n3, n4, n5⟩, ⟨r0.1, r0.2.1⟩, ⟨r1.1, r1.2.1⟩⟩
end TV
section AT
variable {w : ex_W} {p c : Nat} {fs fs' : List Value}
theorem at_obj (h : ex_at w p = some (.inr (.inr (c, fs)))) (h' : ex_at w p = some (.inr (.inr (c, fs')))) : fs = fs' := by
  cases (show some (Sum.inr (Sum.inr (c, fs))) = some (.inr (.inr (c, fs'))) from h.symm.trans h')
  rfl
theorem at_arr {ty : FieldType} {l l' : List Int32} (h : ex_at w p = some (.inl (ty, l))) (h' : ex_at w p = some (.inl (ty, l'))) : l = l' := by
  cases (show (some (Sum.inl (ty, l)) : Option ex_E) = some (.inl (ty, l')) from h.symm.trans h')
  rfl
end AT
/-- a number at a place -/
def fd (w : ex_W) (p i : Nat) : Option Int := cn_look [] w (.inr (p, i))
section FD
variable {w w' : ex_W} {p i c t : Nat} {fs fs' : List Value} {v : Int32}
theorem fd_obj (h : ex_at w p = some (.inr (.inr (c, fs)))) (hi : ex_at fs i = some (.int v)) : fd w p i = some v.toInt := by
  rw [ex_at_eq] at h hi
  unfold fd cn_look
  simp only [h, hi]
  rfl
theorem fd_eq (i : Nat) (h : ex_at w' p = ex_at w p) : fd w' p i = fd w p i := by
  rw [ex_at_eq, ex_at_eq] at h
  unfold fd cn_look
  simp only [h]
theorem fd_int {z : Int32} (h : ex_at w p = some (.inr (.inr (c, fs)))) (hi : ex_at fs i = some (.int v)) (e : fd w p i = some z.toInt) : v = z := Int32.toInt_inj.mp (Option.some.inj ((fd_obj h hi).symm.trans e))
theorem fd_f (h : ex_at w p = some (.inr (.inr (c, fs)))) (h' : ex_at w' p = some (.inr (.inr (c, fs')))) (e : ex_at fs' i = ex_at fs i) : fd w' p i = fd w p i := by
  rw [ex_at_eq] at h h'
  rw [ex_at_eq, ex_at_eq] at e
  unfold fd cn_look
  simp only [h, h', e]
end FD
