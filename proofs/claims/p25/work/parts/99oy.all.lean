/-! ALL THAT BOTH HOLD: the state and the images. -/
def shK (ST : List Int32) (k : Nat) : List Int32 := (List.range 288).map (fun j => ST.getD (96 * (k + 1) + j) 0)
theorem shK_len (ST : List Int32) (k : Nat) : (shK ST k).length = 288 := by
  unfold shK
  rw [List.length_map, List.length_range]
theorem shK_get {ST : List Int32} {k j : Nat} (hj : j < 288) : (shK ST k).getD j 0 = ST.getD (96 * (k + 1) + j) 0 := by
  unfold shK
  rw [List.getD_eq_getElem?_getD, List.getElem?_map, List.getElem?_range hj]
  rfl
theorem Rs.cg {tf : Nat → Int32} {ta : Nat → List Int32} {ST ST' WE : List Int32} {dn an wn : Nat} (hR : Rs tf ta ST WE dn an wn) (hl : ST'.length = 288) (e : ∀ j, j < 96 → ST'.getD j 0 = ST.getD j 0) : Rs tf ta ST' WE dn an wn := by
  obtain ⟨⟨l0, l1, l2, l3, l4, l5, l6, l7⟩, hS, hW, hP, hD, hA, hV⟩ := hR
  obtain ⟨s1, s2, s3, s4, s5, s6, s7, s8, s9, s10, s11, s12, s13, s14, s15, s16, s17, s18⟩ := id hS
  exact ⟨⟨l0, l1, l2, l3, l4, l5, hl, l7⟩, ⟨s1, s2, (e 78 (by omega)).trans s3, (e 79 (by omega)).trans s4, (e 80 (by omega)).trans s5, s6, (e 0 (by omega)).trans s7, s8, (e 81 (by omega)).trans s9, s10, (e 87 (by omega)).trans s11, s12, s13, s14, s15, s16, s17, s18⟩, hW, fun i i1 i2 => ⟨(e (61 + i) (by omega)).trans (hP i i1 i2).1, (hP i i1 i2).2⟩, fun i i1 => (e (1 + i) (by omega)).trans (hD i i1), fun i i1 => ⟨(e (82 + i) (by omega)).trans (hA i i1).1, (hA i i1).2⟩, fun i i1 => ⟨(e (88 + 2 * i) (by omega)).trans (hV i i1).1, (e (89 + 2 * i) (by omega)).trans (hV i i1).2.1, (hV i i1).2.2⟩⟩
/-- an image -/
def imK (w : ex_W) (k : Nat) (mo ma : Int32) (ST WE : List Int32) : Prop := ∃ tf ta dn an wn, tA w (36 + 7 * k) tf ta ∧ Rs tf ta (shK ST k) WE dn an wn ∧ tf 0 = mo ∧ tf 1 = ma
/-- the images, as far as they are kept -/
def imP (w : ex_W) (mo ma : Int32) (ST WE : List Int32) : Prop := ∃ KE KM, ex_at w 34 = some (.inl (.boolean, KE)) ∧ ex_at w 61 = some (.inl (.boolean, KM)) ∧ KE.length = 2 ∧ KM.length = 2 ∧ (∀ k, k < 2 → KE.getD k 0 = KM.getD k 0) ∧ ∀ k, k < 2 → ¬ (KE.getD k 0).toInt = 0 → imK w k mo ma ST WE
/-- told and st alike, and the images -/
def bR (w : ex_W) (t : Nat) : Prop := ∃ tf ta ST WE dn an wn, stR w t tf ta ST WE dn an wn ∧ imP w (tf 0) (tf 1) ST WE
section AL
variable {w wm : ex_W} {t : Nat} {tf tf' : Nat → Int32} {ta ta' : Nat → List Int32} {ST ST' WE WE' : List Int32} {dn an wn dn' an' wn' : Nat} {mo ma x : Int32} {gs fs5 : List Value}
theorem imP.up (h : imP w mo ma ST WE) (e34 : ex_at wm 34 = ex_at w 34) (e61 : ex_at wm 61 = ex_at w 61) (eI : ∀ q, 36 ≤ q → q ≤ 49 → ex_at wm q = ex_at w q) (eS : ∀ j, 96 ≤ j → ST'.getD j 0 = ST.getD j 0) : imP wm mo ma ST' WE := by
  obtain ⟨KE, KM, a1, a2, a3, a4, a5, a6⟩ := h
  refine ⟨KE, KM, e34.trans a1, e61.trans a2, a3, a4, a5, fun k hk hK => ?_⟩
  obtain ⟨tfk, tak, dnk, ank, wnk, b1, b2, b3, b4⟩ := a6 k hk hK
  exact ⟨tfk, tak, dnk, ank, wnk, b1.off (fun q q1 q2 => eI q (by omega) (by omega)), b2.cg (shK_len _ _) (fun j hj => by rw [shK_get (by omega), shK_get (by omega)]; exact eS _ (by omega)), b3, b4⟩
/-- a step that leaves the images -/
theorem bR_step (hi : imP w (tf 0) (tf 1) ST WE) (h62 : ex_at w 62 = some (.inl (.int, WE))) (hs : stR wm t tf' ta' ST' WE' dn' an' wn') (e0 : tf' 0 = tf 0) (e1 : tf' 1 = tf 1) (eS : ∀ j, 96 ≤ j → ST'.getD j 0 = ST.getD j 0) (F : ∀ q, (34 ≤ q ∧ q ≤ 49 ∨ q = 61 ∨ q = 62) → ex_at wm q = ex_at w q) : bR wm t := by
  have k62 : ex_at wm 62 = some (.inl (.int, WE')) := hs.2.2.2.2.2.2.1
  obtain rfl := at_arr ((F 62 (by omega)).trans h62) k62
  exact ⟨tf', ta', ST', WE, dn', an', wn', hs, by rw [e0, e1]; exact hi.up (F 34 (by omega)) (F 61 (by omega)) (fun q a b => F q (by omega)) eS⟩
/-- out of two calls that leave all but told's cells and st -/
theorem bR_res {X : List Int32} {D : Nat} {Mx Mm : ex_M} {vs : List Value} (h : stR w t tf ta ST WE dn an wn) (hi : imP w (tf 0) (tf 1) ST WE) (hr : sRes X D Mx Mm vs w t ST) : ∃ r wx wm, Go X D Mx (ex_ent Mx (.ref 0 :: vs)) w (some (.int r), wx) ∧ Go X D Mm (ex_ent Mm (.ref 59 :: vs)) wx (some (.int r), wm) ∧ bR wm t := by
  obtain ⟨r, wx, wm, tf', ta', ST', WE', dn', an', wn', g1, g2, hs, F, eS⟩ := hr
  obtain ⟨t0, t6, -, -, ⟨fs5, h59, f0, f2, f3, f4⟩, -, h62, -⟩ := id h
  obtain ⟨-, -, -, -, ⟨gs5, k59, -, k2, k3, -⟩, -⟩ := id hs
  obtain rfl := at_obj ((F 59 (by omega) (by omega)).trans h59) k59
  have e0 : tf' 0 = tf 0 := Value.int.inj (Option.some.inj (k2.symm.trans f2))
  have e1 : tf' 1 = tf 1 := Value.int.inj (Option.some.inj (k3.symm.trans f3))
  exact ⟨r, wx, wm, g1, g2, bR_step hi h62 hs e0 e1 eS (fun q hq => F q (by omega) (by omega))⟩
/-- what stays -/
theorem bR_same {gs' fs5' : List Value} (h : bR w t) (k0 : ex_at wm 0 = some (.inr (.inr (7, gs')))) (k9 : ex_at gs' 9 = some (.ref t)) (k59 : ex_at wm 59 = some (.inr (.inr (8, fs5')))) (f0 : ex_at fs5' 0 = some (.ref 60)) (f4 : ex_at fs5' 4 = some (.ref 62)) (f2 : ∃ v, ex_at fs5' 2 = some (.int v)) (f3 : ∃ v, ex_at fs5' 3 = some (.int v)) (e2 : fd wm 59 2 = fd w 59 2) (e3 : fd wm 59 3 = fd w 59 3) (F : ∀ q, (t ≤ q ∧ q ≤ t + 6 ∨ 34 ≤ q ∧ q ≤ 49 ∨ q = 60 ∨ q = 61 ∨ q = 62) → ex_at wm q = ex_at w q) : bR wm t := by
  obtain ⟨tf, ta, ST, WE, dn, an, wn, ⟨t0, t6, ⟨gs, h0, g9⟩, hT, ⟨fs5, h59, g0, g2, g3, g4⟩, h60, h62, hR⟩, hi⟩ := h
  obtain ⟨v2, f2⟩ := f2
  obtain ⟨v3, f3⟩ := f3
  obtain rfl : v2 = tf 0 := fd_int k59 f2 (e2.trans (fd_obj h59 g2))
  obtain rfl : v3 = tf 1 := fd_int k59 f3 (e3.trans (fd_obj h59 g3))
  exact ⟨tf, ta, ST, WE, dn, an, wn, ⟨t0, t6, ⟨gs', k0, k9⟩, hT.off (fun q a b => F q (by omega)), ⟨fs5', k59, f0, f2, f3, f4⟩, (F 60 (by omega)).trans h60, (F 62 (by omega)).trans h62, hR⟩, hi.up (F 34 (by omega)) (F 61 (by omega)) (fun q a b => F q (by omega)) (fun _ _ => rfl)⟩
/-- text takes a draft -/
theorem bR_text {KX KM : List Int32} (hs : stR wm t tf ta ST WE dn an wn) (k34 : ex_at wm 34 = some (.inl (.boolean, KX))) (k61 : ex_at wm 61 = some (.inl (.boolean, KM))) (hX : KX.length = 2 ∧ ∀ k, k < 2 → KX.getD k 0 = 0) (hM : KM.length = 2 ∧ ∀ k, k < 2 → KM.getD k 0 = 0) : bR wm t :=
  ⟨tf, ta, ST, WE, dn, an, wn, hs, KX, KM, k34, k61, hX.1, hM.1, fun k hk => (hX.2 k hk).trans (hM.2 k hk).symm, fun k hk hK => absurd (by rw [hX.2 k hk]; decide) hK⟩
theorem bR_keep {KE KM ST' : List Int32} {k : Nat} (hk : k < 2) (h : stR w t tf ta ST WE dn an wn) (hi : imP w (tf 0) (tf 1) ST WE) (h34 : ex_at w 34 = some (.inl (.boolean, KE))) (h61 : ex_at w 61 = some (.inl (.boolean, KM))) (hA : tA wm (36 + 7 * k) tf ta) (k34 : ex_at wm 34 = some (.inl (.boolean, ex_put KE k 1))) (k61 : ex_at wm 61 = some (.inl (.boolean, ex_put KM k 1))) (k60 : ex_at wm 60 = some (.inl (.int, ST'))) (l6 : ST'.length = 288) (eS : ∀ j, ST'.getD j 0 = if 96 * (k + 1) ≤ j ∧ j < 96 * (k + 1) + 96 then ST.getD (0 + (j - 96 * (k + 1))) 0 else ST.getD j 0) (F : ∀ q, q ≠ 34 → ¬ (36 + 7 * k ≤ q ∧ q ≤ 36 + 7 * k + 6) → q ≠ 60 → q ≠ 61 → ex_at wm q = ex_at w q) : bR wm t := by
  obtain ⟨t0, t6, ⟨gs, h0, g9⟩, hT, ⟨fs5, h59, g0, g2, g3, g4⟩, h60, h62, hR⟩ := id h
  obtain ⟨KE', KM', a1, a2, a3, a4, a5, a6⟩ := hi
  obtain rfl := at_arr h34 a1
  obtain rfl := at_arr h61 a2
  have lo : ∀ j, j < 96 → ST'.getD j 0 = ST.getD j 0 := fun j hj => by rw [eS j, if_neg (by omega)]
  refine ⟨tf, ta, ST', WE, dn, an, wn, ⟨t0, t6, ⟨gs, (F 0 (by omega) (by omega) (by omega) (by omega)).trans h0, g9⟩, hT.off (fun q a b => F q (by omega) (by omega) (by omega) (by omega)), ⟨fs5, (F 59 (by omega) (by omega) (by omega) (by omega)).trans h59, g0, g2, g3, g4⟩, k60, (F 62 (by omega) (by omega) (by omega) (by omega)).trans h62, hR.cg l6 lo⟩, ex_put KE k 1, ex_put KM k 1, k34, k61, by rw [rl_len]; exact a3, by rw [rl_len]; exact a4, fun j hj => ?_, fun j hj hK => ?_⟩
  · by_cases e : j = k
    · rw [e, rl_x (by omega), rl_x (by omega)]
    · rw [rl_w e, rl_w e]
      exact a5 j hj
  · by_cases e : j = k
    · subst e
      exact ⟨tf, ta, dn, an, wn, hA, hR.cg (shK_len _ _) (fun i hi => by rw [shK_get (by omega), eS, if_pos (by omega)]; congr 1; omega), rfl, rfl⟩
    · rw [rl_w e] at hK
      obtain ⟨tfk, tak, dnk, ank, wnk, b1, b2, b3, b4⟩ := a6 j hj hK
      exact ⟨tfk, tak, dnk, ank, wnk, b1.off (fun q q1 q2 => F q (by omega) (by omega) (by omega) (by omega)), b2.cg (shK_len _ _) (fun i hi => by rw [shK_get (by omega), shK_get (by omega), eS, if_neg (by omega)]), b3, b4⟩
theorem bR_back {ST' : List Int32} {k : Nat} {tfk : Nat → Int32} {tak : Nat → List Int32} {dnk ank wnk : Nat} (hk : k < 2) (h : stR w t tf ta ST WE dn an wn) (hi : imP w (tf 0) (tf 1) ST WE) (hR : Rs tfk tak (shK ST k) WE dnk ank wnk) (e0 : tfk 0 = tf 0) (e1 : tfk 1 = tf 1) (hA : tA wm t tfk tak) (k60 : ex_at wm 60 = some (.inl (.int, ST'))) (l6 : ST'.length = 288) (eS : ∀ j, ST'.getD j 0 = if 0 ≤ j ∧ j < 0 + 96 then ST.getD (96 * (k + 1) + (j - 0)) 0 else ST.getD j 0) (F : ∀ q, ¬ (t ≤ q ∧ q ≤ t + 6) → q ≠ 60 → ex_at wm q = ex_at w q) : bR wm t := by
  obtain ⟨t0, t6, ⟨gs, h0, g9⟩, hT, ⟨fs5, h59, g0, g2, g3, g4⟩, h60, h62, -⟩ := id h
  refine ⟨tfk, tak, ST', WE, dnk, ank, wnk, ⟨t0, t6, ⟨gs, (F 0 (by omega) (by omega)).trans h0, g9⟩, hA, ⟨fs5, (F 59 (by omega) (by omega)).trans h59, g0, by rw [e0]; exact g2, by rw [e1]; exact g3, g4⟩, k60, (F 62 (by omega) (by omega)).trans h62, hR.cg l6 (fun j hj => by rw [shK_get (by omega), eS, if_pos (by omega)]; congr 1)⟩, ?_⟩
  rw [e0, e1]
  exact hi.up (F 34 (by omega) (by omega)) (F 61 (by omega) (by omega)) (fun q a b => F q (by omega) (by omega)) (fun j hj => by rw [eS, if_neg (by omega)])
theorem bk_keep0 {tfI : Nat → Int32} {taI : Nat → List Int32} (ht8 : t = 1 ∨ t = 8) (h : stR w t tf ta ST WE dn an wn) (hi : imP w (tf 0) (tf 1) ST WE) (h0 : ex_at w 0 = some (.inr (.inr (7, gs)))) (g5 : ex_at gs 5 = some (.ref 35)) (g6 : ex_at gs 6 = some (.ref 34)) (g9 : ex_at gs 9 = some (.ref t)) (h35 : ex_at w 35 = some (.inr (.inl (6, [some 36, some 43])))) (hI : tA w 36 tfI taI) (lI : tL taI) (lT : tL ta) (h59 : ex_at w 59 = some (.inr (.inr (8, fs5)))) (f0 : ex_at fs5 0 = some (.ref 60)) (f1 : ex_at fs5 1 = some (.ref 61)) (hb : ∀ KM, ex_at w 61 = some (.inl (.boolean, KM)) → ∀ k, k < 2 → (KM.getD k 0).toInt = 0 ∨ (KM.getD k 0).toInt = 1) : ∃ r wx wm, Go [] 39 mt_69 (ex_ent mt_69 [.ref 0, .int 0]) w (some (.int r), wx) ∧ Go [] 39 mt_70 (ex_ent mt_70 [.ref 59, .int 0]) wx (some (.int r), wm) ∧ bR wm t := by
  obtain ⟨KE, KM, a1, a2, a3, a4, a5, -⟩ := id hi
  obtain ⟨t0, t6, -, hT, -, h60, -, hR⟩ := id h
  obtain ⟨r, wx, k1, k0, k2, k3, k4⟩ := ik_0 (X := []) (d := 38) ht8 h0 g5 g6 g9 a1 a3 h35 hI hT lI lT
  obtain ⟨r', wm, ST', j1, j0, jl, js, j60, j61, j2⟩ := jk_0 (X := []) (d := 38) ((k4 59 (by omega) (by omega)).trans h59) f0 f1 ((k4 60 (by omega) (by omega)).trans h60) hR.1.2.2.2.2.2.2.1 ((k4 61 (by omega) (by omega)).trans a2) a4 (hb KM a2 0 (by omega))
  have er : r = r' := by
    rw [← a5 0 (by omega)] at j0
    rcases k0 with ⟨u1, u2⟩ | ⟨u1, u2⟩
    · rcases j0 with ⟨v1, v2⟩ | ⟨v1, v2⟩
      · exact u2.trans v2.symm
      · exact absurd u1 v1
    · rcases j0 with ⟨v1, v2⟩ | ⟨v1, v2⟩
      · exact absurd v1 u1
      · exact u2.trans v2.symm
  subst er
  exact ⟨r, wx, wm, k1, j1, bR_keep (k := 0) (by omega) h hi a1 a2 (k2.off (fun q a b => j2 q (by omega) (by omega))) ((j2 34 (by omega) (by omega)).trans k3) j61 j60 jl js (fun q a b c e => (j2 q c e).trans (k4 q a b))⟩
theorem bk_back0 {tfI : Nat → Int32} {taI : Nat → List Int32} (ht8 : t = 1 ∨ t = 8) (h : stR w t tf ta ST WE dn an wn) (hi : imP w (tf 0) (tf 1) ST WE) (h0 : ex_at w 0 = some (.inr (.inr (7, gs)))) (g5 : ex_at gs 5 = some (.ref 35)) (g6 : ex_at gs 6 = some (.ref 34)) (g9 : ex_at gs 9 = some (.ref t)) (h35 : ex_at w 35 = some (.inr (.inl (6, [some 36, some 43])))) (hI : tA w 36 tfI taI) (lI : tL taI) (lT : tL ta) (h59 : ex_at w 59 = some (.inr (.inr (8, fs5)))) (f0 : ex_at fs5 0 = some (.ref 60)) (f1 : ex_at fs5 1 = some (.ref 61)) : ∃ r wx wm, Go [] 39 mt_71 (ex_ent mt_71 [.ref 0, .int 0]) w (some (.int r), wx) ∧ Go [] 39 mt_72 (ex_ent mt_72 [.ref 59, .int 0]) wx (some (.int r), wm) ∧ bR wm t := by
  obtain ⟨KE, KM, a1, a2, a3, a4, a5, a6⟩ := id hi
  obtain ⟨t0, t6, -, hT, -, h60, -, hR⟩ := id h
  have hl := hR.1.2.2.2.2.2.2.1
  by_cases c : (KE.getD 0 0).toInt = 0
  · rcases ib_0 (X := []) (d := 38) ht8 h0 g5 g6 g9 a1 a3 h35 hI hT lI lT with ⟨-, k1⟩ | ⟨kk, -⟩
    · rcases jb_0 (X := []) (d := 38) h59 f0 f1 h60 hl a2 a4 with ⟨-, j1⟩ | ⟨jj, -⟩
      · exact ⟨_, w, w, k1, j1, tf, ta, ST, WE, dn, an, wn, h, hi⟩
      · rw [← a5 0 (by omega)] at jj
        exact absurd c jj
    · exact absurd c kk
  · obtain ⟨tfk, tak, dnk, ank, wnk, b1, b2, b3, b4⟩ := a6 0 (by omega) c
    obtain ⟨⟨m0, m1, m2, m3, m4, m5, -⟩, mS, -⟩ := id b2
    rcases ib_0 (X := []) (d := 38) ht8 h0 g5 g6 g9 a1 a3 h35 b1 hT ⟨m0, m1, m2, m3, m4, m5⟩ lT with ⟨kk, -⟩ | ⟨-, wx, k1, k2, k3⟩
    · exact absurd kk c
    · rcases jb_0 (X := []) (d := 38) ((k3 59 (by omega)).trans h59) f0 f1 ((k3 60 (by omega)).trans h60) hl ((k3 61 (by omega)).trans a2) a4 with ⟨jj, -⟩ | ⟨-, ST', j1, jl, js⟩
      · rw [← a5 0 (by omega)] at jj
        exact absurd jj c
      · have er : tfk 5 = ST'.getD 0 0 := by
          rw [js 0, if_pos (by omega)]
          have e7 : (shK ST 0).getD 0 0 = nI dnk := mS.2.2.2.2.2.2.1
          rw [shK_get (by omega)] at e7
          exact (mS.2.2.2.2.2.1).trans e7.symm
        rw [← er] at j1
        exact ⟨_, wx, _, k1, j1, bR_back (k := 0) (by omega) h hi b2 b3 b4 (k2.off (fun q a b => vg_at_ne (sh_beq (by omega)))) (vg_at_put ((k3 60 (by omega)).trans h60)) jl js (fun q a b => (vg_at_ne (sh_beq (fun e => b e.symm))).trans (k3 q a))⟩
theorem bk_keep1 {tfI : Nat → Int32} {taI : Nat → List Int32} (ht8 : t = 1 ∨ t = 8) (h : stR w t tf ta ST WE dn an wn) (hi : imP w (tf 0) (tf 1) ST WE) (h0 : ex_at w 0 = some (.inr (.inr (7, gs)))) (g5 : ex_at gs 5 = some (.ref 35)) (g6 : ex_at gs 6 = some (.ref 34)) (g9 : ex_at gs 9 = some (.ref t)) (h35 : ex_at w 35 = some (.inr (.inl (6, [some 36, some 43])))) (hI : tA w 43 tfI taI) (lI : tL taI) (lT : tL ta) (h59 : ex_at w 59 = some (.inr (.inr (8, fs5)))) (f0 : ex_at fs5 0 = some (.ref 60)) (f1 : ex_at fs5 1 = some (.ref 61)) (hb : ∀ KM, ex_at w 61 = some (.inl (.boolean, KM)) → ∀ k, k < 2 → (KM.getD k 0).toInt = 0 ∨ (KM.getD k 0).toInt = 1) : ∃ r wx wm, Go [] 39 mt_69 (ex_ent mt_69 [.ref 0, .int 1]) w (some (.int r), wx) ∧ Go [] 39 mt_70 (ex_ent mt_70 [.ref 59, .int 1]) wx (some (.int r), wm) ∧ bR wm t := by
  obtain ⟨KE, KM, a1, a2, a3, a4, a5, -⟩ := id hi
  obtain ⟨t0, t6, -, hT, -, h60, -, hR⟩ := id h
  obtain ⟨r, wx, k1, k0, k2, k3, k4⟩ := ik_1 (X := []) (d := 38) ht8 h0 g5 g6 g9 a1 a3 h35 hI hT lI lT
  obtain ⟨r', wm, ST', j1, j0, jl, js, j60, j61, j2⟩ := jk_1 (X := []) (d := 38) ((k4 59 (by omega) (by omega)).trans h59) f0 f1 ((k4 60 (by omega) (by omega)).trans h60) hR.1.2.2.2.2.2.2.1 ((k4 61 (by omega) (by omega)).trans a2) a4 (hb KM a2 1 (by omega))
  have er : r = r' := by
    rw [← a5 1 (by omega)] at j0
    rcases k0 with ⟨u1, u2⟩ | ⟨u1, u2⟩
    · rcases j0 with ⟨v1, v2⟩ | ⟨v1, v2⟩
      · exact u2.trans v2.symm
      · exact absurd u1 v1
    · rcases j0 with ⟨v1, v2⟩ | ⟨v1, v2⟩
      · exact absurd v1 u1
      · exact u2.trans v2.symm
  subst er
  exact ⟨r, wx, wm, k1, j1, bR_keep (k := 1) (by omega) h hi a1 a2 (k2.off (fun q a b => j2 q (by omega) (by omega))) ((j2 34 (by omega) (by omega)).trans k3) j61 j60 jl js (fun q a b c e => (j2 q c e).trans (k4 q a b))⟩
theorem bk_back1 {tfI : Nat → Int32} {taI : Nat → List Int32} (ht8 : t = 1 ∨ t = 8) (h : stR w t tf ta ST WE dn an wn) (hi : imP w (tf 0) (tf 1) ST WE) (h0 : ex_at w 0 = some (.inr (.inr (7, gs)))) (g5 : ex_at gs 5 = some (.ref 35)) (g6 : ex_at gs 6 = some (.ref 34)) (g9 : ex_at gs 9 = some (.ref t)) (h35 : ex_at w 35 = some (.inr (.inl (6, [some 36, some 43])))) (hI : tA w 43 tfI taI) (lI : tL taI) (lT : tL ta) (h59 : ex_at w 59 = some (.inr (.inr (8, fs5)))) (f0 : ex_at fs5 0 = some (.ref 60)) (f1 : ex_at fs5 1 = some (.ref 61)) : ∃ r wx wm, Go [] 39 mt_71 (ex_ent mt_71 [.ref 0, .int 1]) w (some (.int r), wx) ∧ Go [] 39 mt_72 (ex_ent mt_72 [.ref 59, .int 1]) wx (some (.int r), wm) ∧ bR wm t := by
  obtain ⟨KE, KM, a1, a2, a3, a4, a5, a6⟩ := id hi
  obtain ⟨t0, t6, -, hT, -, h60, -, hR⟩ := id h
  have hl := hR.1.2.2.2.2.2.2.1
  by_cases c : (KE.getD 1 0).toInt = 0
  · rcases ib_1 (X := []) (d := 38) ht8 h0 g5 g6 g9 a1 a3 h35 hI hT lI lT with ⟨-, k1⟩ | ⟨kk, -⟩
    · rcases jb_1 (X := []) (d := 38) h59 f0 f1 h60 hl a2 a4 with ⟨-, j1⟩ | ⟨jj, -⟩
      · exact ⟨_, w, w, k1, j1, tf, ta, ST, WE, dn, an, wn, h, hi⟩
      · rw [← a5 1 (by omega)] at jj
        exact absurd c jj
    · exact absurd c kk
  · obtain ⟨tfk, tak, dnk, ank, wnk, b1, b2, b3, b4⟩ := a6 1 (by omega) c
    obtain ⟨⟨m0, m1, m2, m3, m4, m5, -⟩, mS, -⟩ := id b2
    rcases ib_1 (X := []) (d := 38) ht8 h0 g5 g6 g9 a1 a3 h35 b1 hT ⟨m0, m1, m2, m3, m4, m5⟩ lT with ⟨kk, -⟩ | ⟨-, wx, k1, k2, k3⟩
    · exact absurd kk c
    · rcases jb_1 (X := []) (d := 38) ((k3 59 (by omega)).trans h59) f0 f1 ((k3 60 (by omega)).trans h60) hl ((k3 61 (by omega)).trans a2) a4 with ⟨jj, -⟩ | ⟨-, ST', j1, jl, js⟩
      · rw [← a5 1 (by omega)] at jj
        exact absurd jj c
      · have er : tfk 5 = ST'.getD 0 0 := by
          rw [js 0, if_pos (by omega)]
          have e7 : (shK ST 1).getD 0 0 = nI dnk := mS.2.2.2.2.2.2.1
          rw [shK_get (by omega)] at e7
          exact (mS.2.2.2.2.2.1).trans e7.symm
        rw [← er] at j1
        exact ⟨_, wx, _, k1, j1, bR_back (k := 1) (by omega) h hi b2 b3 b4 (k2.off (fun q a b => vg_at_ne (sh_beq (by omega)))) (vg_at_put ((k3 60 (by omega)).trans h60)) jl js (fun q a b => (vg_at_ne (sh_beq (fun e => b e.symm))).trans (k3 q a))⟩
/-- keep, back of both -/
theorem bk_keep {tf0 tf1 : Nat → Int32} {ta0 ta1 : Nat → List Int32} (ht8 : t = 1 ∨ t = 8) (h : stR w t tf ta ST WE dn an wn) (hi : imP w (tf 0) (tf 1) ST WE) (h0 : ex_at w 0 = some (.inr (.inr (7, gs)))) (g5 : ex_at gs 5 = some (.ref 35)) (g6 : ex_at gs 6 = some (.ref 34)) (g9 : ex_at gs 9 = some (.ref t)) (h35 : ex_at w 35 = some (.inr (.inl (6, [some 36, some 43])))) (hI0 : tA w 36 tf0 ta0) (l0 : tL ta0) (hI1 : tA w 43 tf1 ta1) (l1 : tL ta1) (h59 : ex_at w 59 = some (.inr (.inr (8, fs5)))) (f0 : ex_at fs5 0 = some (.ref 60)) (f1 : ex_at fs5 1 = some (.ref 61)) (hb : ∀ KM, ex_at w 61 = some (.inl (.boolean, KM)) → ∀ k, k < 2 → (KM.getD k 0).toInt = 0 ∨ (KM.getD k 0).toInt = 1) : ∃ r wx wm, Go [] 39 mt_69 (ex_ent mt_69 [.ref 0, .int x]) w (some (.int r), wx) ∧ Go [] 39 mt_70 (ex_ent mt_70 [.ref 59, .int x]) wx (some (.int r), wm) ∧ bR wm t := by
  obtain ⟨⟨m0, m1, m2, m3, m4, m5, -⟩, -⟩ := id h.2.2.2.2.2.2.2
  have out : Go [] 39 mt_70 (ex_ent mt_70 [.ref 59, .int x]) w (some (.int (Int32.ofInt (-1))), w) → Go [] 39 mt_69 (ex_ent mt_69 [.ref 0, .int x]) w (some (.int (Int32.ofInt (-1))), w) → ∃ r wx wm, Go [] 39 mt_69 (ex_ent mt_69 [.ref 0, .int x]) w (some (.int r), wx) ∧ Go [] 39 mt_70 (ex_ent mt_70 [.ref 59, .int x]) wx (some (.int r), wm) ∧ bR wm t := fun a b => ⟨_, w, w, b, a, tf, ta, ST, WE, dn, an, wn, h, hi⟩
  by_cases c1 : x.toInt < 0
  · exact out (jkeep_1 (d := 38) (sin_f rfl (l := 0) (h := 1) (by decide) (by decide) (by omega))) (ikeep_1 c1)
  · by_cases c2 : x.toInt ≥ 2
    · exact out (jkeep_1 (d := 38) (sin_f rfl (l := 0) (h := 1) (by decide) (by decide) (by omega))) (ikeep_2 (by omega) c2)
    · by_cases c3 : x.toInt = 0
      · obtain rfl : x = 0 := Int32.toInt_inj.mp (c3.trans (by decide))
        exact bk_keep0 ht8 h hi h0 g5 g6 g9 h35 hI0 l0 ⟨m0, m1, m2, m3, m4, m5⟩ h59 f0 f1 hb
      · obtain rfl : x = 1 := Int32.toInt_inj.mp ((show x.toInt = 1 by omega).trans (by decide))
        exact bk_keep1 ht8 h hi h0 g5 g6 g9 h35 hI1 l1 ⟨m0, m1, m2, m3, m4, m5⟩ h59 f0 f1 hb
theorem bk_back {tf0 tf1 : Nat → Int32} {ta0 ta1 : Nat → List Int32} (ht8 : t = 1 ∨ t = 8) (h : stR w t tf ta ST WE dn an wn) (hi : imP w (tf 0) (tf 1) ST WE) (h0 : ex_at w 0 = some (.inr (.inr (7, gs)))) (g5 : ex_at gs 5 = some (.ref 35)) (g6 : ex_at gs 6 = some (.ref 34)) (g9 : ex_at gs 9 = some (.ref t)) (h35 : ex_at w 35 = some (.inr (.inl (6, [some 36, some 43])))) (hI0 : tA w 36 tf0 ta0) (l0 : tL ta0) (hI1 : tA w 43 tf1 ta1) (l1 : tL ta1) (h59 : ex_at w 59 = some (.inr (.inr (8, fs5)))) (f0 : ex_at fs5 0 = some (.ref 60)) (f1 : ex_at fs5 1 = some (.ref 61)) : ∃ r wx wm, Go [] 39 mt_71 (ex_ent mt_71 [.ref 0, .int x]) w (some (.int r), wx) ∧ Go [] 39 mt_72 (ex_ent mt_72 [.ref 59, .int x]) wx (some (.int r), wm) ∧ bR wm t := by
  obtain ⟨⟨m0, m1, m2, m3, m4, m5, -⟩, -⟩ := id h.2.2.2.2.2.2.2
  have out : Go [] 39 mt_72 (ex_ent mt_72 [.ref 59, .int x]) w (some (.int (Int32.ofInt (-1))), w) → Go [] 39 mt_71 (ex_ent mt_71 [.ref 0, .int x]) w (some (.int (Int32.ofInt (-1))), w) → ∃ r wx wm, Go [] 39 mt_71 (ex_ent mt_71 [.ref 0, .int x]) w (some (.int r), wx) ∧ Go [] 39 mt_72 (ex_ent mt_72 [.ref 59, .int x]) wx (some (.int r), wm) ∧ bR wm t := fun a b => ⟨_, w, w, b, a, tf, ta, ST, WE, dn, an, wn, h, hi⟩
  by_cases c1 : x.toInt < 0
  · exact out (jback_1 (d := 38) (sin_f rfl (l := 0) (h := 1) (by decide) (by decide) (by omega))) (iback_1 c1)
  · by_cases c2 : x.toInt ≥ 2
    · exact out (jback_1 (d := 38) (sin_f rfl (l := 0) (h := 1) (by decide) (by decide) (by omega))) (iback_2 (by omega) c2)
    · by_cases c3 : x.toInt = 0
      · obtain rfl : x = 0 := Int32.toInt_inj.mp (c3.trans (by decide))
        exact bk_back0 ht8 h hi h0 g5 g6 g9 h35 hI0 l0 ⟨m0, m1, m2, m3, m4, m5⟩ h59 f0 f1
      · obtain rfl : x = 1 := Int32.toInt_inj.mp ((show x.toInt = 1 by omega).trans (by decide))
        exact bk_back1 ht8 h hi h0 g5 g6 g9 h35 hI1 l1 ⟨m0, m1, m2, m3, m4, m5⟩ h59 f0 f1
end AL
