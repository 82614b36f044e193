/-! read OF BOTH. -/
theorem up_up {α : Type} (f : Nat → α) (k : Nat) (a b : α) : up (up f k a) k b = up f k b := by
  funext i
  unfold up
  cases Nat.beq i k <;> rfl
theorem lg_lt0 (a b : Int64) : (lg_cmp a b).toInt < 0 ↔ a.toInt < b.toInt := decide_eq_decide.mp ((kz_lt _).symm.trans (lgc_lt a b))
theorem a64 (g i : Int32) : (Int32.toInt64 g + Int32.toInt64 i).toInt = g.toInt + i.toInt := by
  have h1 : -2147483648 ≤ g.toInt ∧ g.toInt ≤ 2147483647 := ai_okI g
  have h2 : -2147483648 ≤ i.toInt ∧ i.toInt ≤ 2147483647 := ai_okI i
  rw [Int64.toInt_add, Int32.toInt_toInt64, Int32.toInt_toInt64, Int.bmod_def]
  omega
theorem a32 {g : Int32} {i : Nat} (hi : i ≤ 20) : (g + nI i).toInt = g.toInt + i ∨ ((g + nI i).toInt = g.toInt + i - 4294967296 ∧ g.toInt + i > 2147483647) := by
  have h1 : -2147483648 ≤ g.toInt ∧ g.toInt ≤ 2147483647 := ai_okI g
  have ei : (nI i).toInt = (i : Int) := nI_toInt (by omega)
  rw [Int32.toInt_add, ei, Int.bmod_def]
  omega
/-- the fault of the i-th cell -/
def rdF (la le y g : Int) (i : Nat) : Int := if la = -1 then 1 else if ¬ la = y then 3 else if 0 ≤ g + i ∧ g + i < le then 0 else 2
/-- the number in the i-th cell -/
def rdZ (CL : List Int32) (g : Int) (i : Nat) : Int32 := CL.getD (g + i).toNat 0
/-- the days behind j cells -/
noncomputable def dlJ (l : List Int32) (dn : Nat) (Z : Nat → Int32) : Nat → List Int32
  | 0 => l
  | j + 1 => ex_put (dlJ l dn Z j) (dn + j) (Z j)
noncomputable def stJ (ST : List Int32) (dn : Nat) (Z : Nat → Int32) : Nat → List Int32
  | 0 => ST
  | j + 1 => ex_put (ex_put (stJ ST dn Z j) (1 + (dn + j)) (Z j)) 0 (nI (dn + j + 1))
theorem dlJ_len (l : List Int32) (dn : Nat) (Z : Nat → Int32) : ∀ j, (dlJ l dn Z j).length = l.length
  | 0 => rfl
  | j + 1 => by
    show (ex_put (dlJ l dn Z j) (dn + j) (Z j)).length = _
    rw [rl_len, dlJ_len l dn Z j]
theorem stJ_len (ST : List Int32) (dn : Nat) (Z : Nat → Int32) : ∀ j, (stJ ST dn Z j).length = ST.length
  | 0 => rfl
  | j + 1 => by
    show (ex_put (ex_put (stJ ST dn Z j) (1 + (dn + j)) (Z j)) 0 (nI (dn + j + 1))).length = _
    rw [rl_len, rl_len, stJ_len ST dn Z j]
theorem stJ_hi (ST : List Int32) (dn : Nat) (Z : Nat → Int32) : ∀ j q, dn + j ≤ 60 → 61 ≤ q → (stJ ST dn Z j).getD q 0 = ST.getD q 0
  | 0, _, _, _ => rfl
  | j + 1, q, h1, h2 => by
    show (ex_put (ex_put (stJ ST dn Z j) (1 + (dn + j)) (Z j)) 0 (nI (dn + j + 1))).getD q 0 = _
    rw [rl_w (by omega), rl_w (by omega), stJ_hi ST dn Z j q (by omega) h2]
/-- the state, days taken -/
theorem Rs.days {tf : Nat → Int32} {ta : Nat → List Int32} {ST WE : List Int32} {dn an wn : Nat} {Z : Nat → Int32} (hR : Rs tf ta ST WE dn an wn) (s6 : tf 5 = nI dn) : ∀ j, dn + j ≤ 60 → Rs (up tf 5 (nI (dn + j))) (up ta 2 (dlJ (ta 2) dn Z j)) (stJ ST dn Z j) WE (dn + j) an wn
  | 0, _ => by
    have e1 : up tf 5 (nI (dn + 0)) = tf := by
      funext i
      by_cases h : i = 5
      · rw [h, up_eq]
        exact s6.symm
      · rw [up_ne _ _ h]
    have e2 : up ta 2 (dlJ (ta 2) dn Z 0) = ta := by
      funext i
      by_cases h : i = 2
      · rw [h, up_eq]
        rfl
      · rw [up_ne _ _ h]
    rw [e1, e2]
    exact hR
  | j + 1, h => by
    have k := (Rs.days (Z := Z) hR s6 j (by omega)).day (x := Z j) (by omega)
    rw [up_up, up_up] at k
    exact k
theorem Rs.cut {tf : Nat → Int32} {ta : Nat → List Int32} {ST WE : List Int32} {dn an wn n : Nat} (hR : Rs tf ta ST WE dn an wn) (hn : n ≤ dn) : Rs (up tf 5 (nI n)) ta (ex_put ST 0 (nI n)) WE n an wn := by
  obtain ⟨⟨l0, l1, l2, l3, l4, l5, l6, l7⟩, hS, hW, hP, hD, hA, hV⟩ := hR
  obtain ⟨s1, s2, s3, s4, s5, s6, s7, s8, s9, s10, s11, s12, s13, s14, s15, s16, s17, s18⟩ := id hS
  exact ⟨⟨l0, l1, l2, l3, l4, l5, by rw [rl_len]; exact l6, l7⟩, ⟨rfl, rfl, (rl_w (by omega)).trans s3, (rl_w (by omega)).trans s4, (rl_w (by omega)).trans s5, rfl, rl_x (by omega), s8, (rl_w (by omega)).trans s9, s10, (rl_w (by omega)).trans s11, by omega, s13, s14, s15, s16, s17, s18⟩, hW, fun i i1 i2 => ⟨(rl_w (by omega)).trans (hP i i1 i2).1, (hP i i1 i2).2⟩, fun i i1 => (rl_w (by omega)).trans (hD i (by omega)), fun i i1 => ⟨(rl_w (by omega)).trans (hA i (by omega)).1, (hA i (by omega)).2⟩, fun i i1 => ⟨(rl_w (by omega)).trans (hV i i1).1, (rl_w (by omega)).trans (hV i i1).2.1, (hV i i1).2.2⟩⟩
section RE
variable {X : List Int32} {d t a : Nat} {w : ex_W} {tf : Nat → Int32} {ta : Nat → List Int32} {ST WE : List Int32} {dn an wn n : Nat} {la le y g : Int32} {gs fs4 : List Value} {CL : List Int32}
theorem qa_all {i : Nat} (ha : ex_at w a = some (.inr (.inr (4, fs4)))) (f1 : ex_at fs4 1 = some (.int la)) (f2 : ex_at fs4 2 = some (.int le)) (hle : la.toInt = -1 ∨ (0 ≤ le.toInt ∧ le.toInt ≤ 40)) (hi : i ≤ 20) : ∃ b : Int32, Go X (d + 1) mt_150 (ex_ent mt_150 [.ref a, .int y, .int (g + nI i)]) w (some (.int b), w) ∧ b.toInt = rdF la.toInt le.toInt y.toInt g.toInt i := by
  have o1 : (1 : Int32).toInt = 1 := by decide
  have o2 : (2 : Int32).toInt = 2 := by decide
  have o3 : (3 : Int32).toInt = 3 := by decide
  have o0 : (0 : Int32).toInt = 0 := by decide
  unfold rdF
  by_cases c1 : la.toInt = -1
  · rw [if_pos c1]
    exact ⟨1, qa_1 ha f1 c1 (qf_1 ha f1 c1), o1⟩
  · rw [if_neg c1]
    by_cases c2 : la.toInt = y.toInt
    · rw [if_neg (fun h => h c2)]
      have hw := a32 (g := g) hi
      have hgb : -2147483648 ≤ g.toInt ∧ g.toInt ≤ 2147483647 := ai_okI g
      by_cases c3 : (g + nI i).toInt < 0
      · rw [if_neg (by omega)]
        exact ⟨2, qa_3 ha f1 c1 c2 (qf_2 ha f1 c1 c3), o2⟩
      · by_cases c4 : (g + nI i).toInt < le.toInt
        · rw [if_pos (by omega)]
          exact ⟨0, qa_3 ha f1 c1 c2 (qf_4 ha f1 f2 c1 (by omega) c4), o0⟩
        · rw [if_neg (by omega)]
          exact ⟨2, qa_3 ha f1 c1 c2 (qf_3 ha f1 f2 c1 (by omega) (by omega)), o2⟩
    · rw [if_pos c2]
      exact ⟨3, (qa_2 ha f1 c1 c2).up, o3⟩
theorem rdF_0 {i : Nat} (h : rdF la.toInt le.toInt y.toInt g.toInt i = 0) : ¬ la.toInt = -1 ∧ la.toInt = y.toInt ∧ 0 ≤ g.toInt + i ∧ g.toInt + i < le.toInt := by
  unfold rdF at h
  by_cases c1 : la.toInt = -1
  · rw [if_pos c1] at h
    omega
  · rw [if_neg c1] at h
    by_cases c2 : la.toInt = y.toInt
    · rw [if_neg (fun h => h c2)] at h
      by_cases c3 : 0 ≤ g.toInt + i ∧ g.toInt + i < le.toInt
      · exact ⟨c1, c2, c3.1, c3.2⟩
      · rw [if_neg c3] at h
        omega
    · rw [if_pos c2] at h
      omega
theorem ce_all {i : Nat} (ha : ex_at w a = some (.inr (.inr (4, fs4)))) (f0 : ex_at fs4 0 = some (.ref (a + 1))) (f2 : ex_at fs4 2 = some (.int le)) (hc : ex_at w (a + 1) = some (.inl (.int, CL))) (lc : CL.length = 40) (h40 : le.toInt ≤ 40) (hi : i ≤ 20) (h0 : 0 ≤ g.toInt + i ∧ g.toInt + i < le.toInt) : Go X d mt_151 (ex_ent mt_151 [.ref a, .int (g + nI i)]) w (some (.int (rdZ CL g.toInt i)), w) := by
  have hw := a32 (g := g) hi
  have e : (g + nI i).toInt = g.toInt + i := by omega
  have ex : g + nI i = nI (g.toInt + i).toNat := tI_nI (by omega) (by omega)
  have k := ce_1 (X := X) (d := d) (i := g + nI i) ha f0 f2 hc (by omega) (by omega) (by omega) (by rw [ex, lc]; exact fp_ix (by omega) (by decide))
  rw [ex, nI_clamp (by omega), ex_gd_eq, ← ex] at k
  exact k
/-- the days behind j cells, as numbers -/
noncomputable def dJ (ta : Nat → List Int32) (dn : Nat) (Z : Nat → Int32) (j : Nat) : Nat → Int := fun s => ((dlJ (ta 2) dn Z j).getD s 0).toInt
/-- the j-th cell is read and its day taken -/
def rdG (tf : Nat → Int32) (ta : Nat → List Int32) (dn : Nat) (Z : Nat → Int32) (F : Nat → Int) (j : Nat) : Prop := F j = 0 ∧ acc (tf 0).toInt (tf 2).toInt (tf 3).toInt (dJ ta dn Z j) (dn + j) (Z j).toInt = true
theorem rd_one {n j j' : Nat} {P : Nat → Prop} (h1 : ∀ s, s < j → P s) (h2 : j ≤ n) (h3 : j = n ∨ ¬ P j) (k1 : ∀ s, s < j' → P s) (k2 : j' ≤ n) (k3 : j' = n ∨ ¬ P j') : j = j' := by
  by_cases c : j < j'
  · rcases h3 with h | h
    · omega
    · exact absurd (k1 j c) h
  · by_cases c2 : j' < j
    · rcases k3 with h | h
      · omega
      · exact absurd (h1 j' c2) h
    · omega
def m20 : Int32 := (Int8.ofInt (-20)).toInt32
theorem re_loop {e k : Int32} {F : Nat → Int} {Z : Nat → Int32} (hF : F = rdF la.toInt le.toInt y.toInt g.toInt) (hZ : Z = rdZ CL g.toInt) (t0 : 0 < t) (t6 : t + 6 < 15) (a50 : 50 < a) (hn : n ≤ 20) (hdn : dn ≤ 60) (s6 : tf 5 = nI dn) (s15 : 4 ≤ (tf 0).toInt) (s16 : (tf 0).toInt ≤ 16) (l2 : (ta 2).length = 60) (g1 : ex_at gs 1 = some (.ref 17)) (g9 : ex_at gs 9 = some (.ref t)) (g13 : ∃ m, ex_at gs 13 = some (.int m)) (f0 : ex_at fs4 0 = some (.ref (a + 1))) (f1 : ex_at fs4 1 = some (.int la)) (f2 : ex_at fs4 2 = some (.int le)) (lc : CL.length = 40) (hle : la.toInt = -1 ∨ (0 ≤ le.toInt ∧ le.toInt ≤ 40)) : ∀ (f i : Nat) (w : ex_W) (o1 : Option Value), n - i ≤ f → i ≤ n → dn + i ≤ 60 → ex_at w 0 = some (.inr (.inr (7, gs))) → ex_at w a = some (.inr (.inr (4, fs4))) → ex_at w (a + 1) = some (.inl (.int, CL)) → tA w t (up tf 5 (nI (dn + i))) (up ta 2 (dlJ (ta 2) dn Z i)) → alR w t (dn + i) (dJ ta dn Z i) → ∃ j r w', i ≤ j ∧ j ≤ n ∧ dn + j ≤ 60 ∧ (∀ s, i ≤ s → s < j → rdG tf ta dn Z F s) ∧ Go X (d + 2) mt_77 (70, [some (.ref 0), some (.int k), some (.int y), some (.int g), some (.int (nI n)), some (.ref a), some (.int (nI dn)), some (.int 0), some (.int (nI i)), some (.int (nI i)), o1], []) w (some (.int r), w') ∧ (∀ q, q ≠ 0 → ¬ (t ≤ q ∧ q ≤ t + 6) → ¬ (17 ≤ q ∧ q ≤ 20) → ex_at w' q = ex_at w q) ∧ (((j = n ∨ ¬ F j = 0) ∧ r = nI j ∧ tA w' t (up tf 5 (nI (dn + j))) (up ta 2 (dlJ (ta 2) dn Z j)) ∧ ∃ b : Int32, ex_at w' 0 = some (.inr (.inr (7, ex_put gs 13 (.int b)))) ∧ b.toInt = if j = n then 0 else F j) ∨ (j < n ∧ F j = 0 ∧ ¬ rdG tf ta dn Z F j ∧ r = m20 - nI j ∧ tA w' t (up tf 5 (nI dn)) (up ta 2 (dlJ (ta 2) dn Z j)) ∧ ex_at w' 0 = some (.inr (.inr (7, gs))))) := by
  have en : (nI n).toInt = (n : Int) := nI_toInt (by omega)
  obtain ⟨m13, g13⟩ := g13
  have stop : ∀ (i : Nat) (w : ex_W) (o1 : Option Value), i = n → dn + i ≤ 60 → ex_at w 0 = some (.inr (.inr (7, gs))) → tA w t (up tf 5 (nI (dn + i))) (up ta 2 (dlJ (ta 2) dn Z i)) → ∃ j r w', i ≤ j ∧ j ≤ n ∧ dn + j ≤ 60 ∧ (∀ s, i ≤ s → s < j → rdG tf ta dn Z F s) ∧ Go X (d + 2) mt_77 (70, [some (.ref 0), some (.int k), some (.int y), some (.int g), some (.int (nI n)), some (.ref a), some (.int (nI dn)), some (.int 0), some (.int (nI i)), some (.int (nI i)), o1], []) w (some (.int r), w') ∧ (∀ q, q ≠ 0 → ¬ (t ≤ q ∧ q ≤ t + 6) → ¬ (17 ≤ q ∧ q ≤ 20) → ex_at w' q = ex_at w q) ∧ (((j = n ∨ ¬ F j = 0) ∧ r = nI j ∧ tA w' t (up tf 5 (nI (dn + j))) (up ta 2 (dlJ (ta 2) dn Z j)) ∧ ∃ b : Int32, ex_at w' 0 = some (.inr (.inr (7, ex_put gs 13 (.int b)))) ∧ b.toInt = if j = n then 0 else F j) ∨ (j < n ∧ F j = 0 ∧ ¬ rdG tf ta dn Z F j ∧ r = m20 - nI j ∧ tA w' t (up tf 5 (nI dn)) (up ta 2 (dlJ (ta 2) dn Z j)) ∧ ex_at w' 0 = some (.inr (.inr (7, gs))))) := by
    intro i w o1 hi hd h0 hT
    subst hi
    exact ⟨i, nI i, _, Nat.le_refl _, Nat.le_refl _, hd, fun s h1 h2 => by omega, qe_1 h0 g13 (Int.le_refl _), fun q h1 _ _ => vg_at_ne (sh_beq (fun e => h1 e.symm)), Or.inl ⟨Or.inl rfl, rfl, hT.off (fun q h1 h2 => vg_at_ne (sh_beq (by omega))), 0, vg_at_put h0, by rw [if_pos rfl]; decide⟩⟩
  intro f
  induction f with
  | zero => exact fun i w o1 hf hi hd h0 _ _ hT _ => stop i w o1 (by omega) hd h0 hT
  | succ f ih =>
    intro i w o1 hf hi hd h0 ha hc hT hA
    by_cases ei : i = n
    · exact stop i w o1 ei hd h0 hT
    · have ein : (nI i).toInt = (i : Int) := nI_toInt (by omega)
      obtain ⟨b, q1, q2⟩ := qa_all (X := X) (d := d) (y := y) (g := g) (i := i) ha f1 f2 hle (by omega)
      have q3 : b.toInt = F i := by rw [hF]; exact q2
      by_cases cF : F i = 0
      · obtain rfl : b = 0 := Int32.toInt_inj.mp ((q3.trans cF).trans (by decide))
        obtain ⟨r1, r2, r3, r4⟩ := rdF_0 (la := la) (le := le) (y := y) (g := g) (i := i) (by rw [← hF]; exact cF)
        have h40 : le.toInt ≤ 40 := by omega
        have gc : Go X (d + 1) mt_151 (ex_ent mt_151 [.ref a, .int (g + nI i)]) w (some (.int (Z i)), w) := by
          rw [hZ]
          exact ce_all ha f0 f2 hc lc h40 (by omega) ⟨r3, r4⟩
        obtain ⟨bb, b1, b2⟩ := fb_all (X := X) (d := d) hA (by omega) hT.1 ⟨s15, s16⟩
        obtain ⟨RU, LB, LA, k17, -⟩ := id hA
        obtain ⟨y1, z1, z2⟩ := rf_all (X := X) (d := d) (x := Z i) (D := dJ ta dn Z i) (dn := dn + i) h0 g1 g9 hT.1 rfl hd s16 b2
        rcases z2 with ⟨za, rfl⟩ | ⟨za, -, zb⟩
        · have hdn' : dn + i < 60 := by
            by_cases c : dn + i < 60
            · exact c
            · rw [acc_d c] at za
              exact absurd za (by decide)
          have xr : 0 ≤ (Z i).toInt ∧ (Z i).toInt ≤ 16 := by
            by_cases c0 : (Z i).toInt = 0
            · omega
            · by_cases c1 : 1 ≤ (Z i).toInt ∧ (Z i).toInt ≤ (tf 0).toInt
              · omega
              · have := acc_n (mo := (tf 0).toInt) (g := (tf 2).toInt) (ne := (tf 3).toInt) (D := dJ ta dn Z i) (dn := dn + i) c0 c1
                have za : acc (tf 0).toInt (tf 2).toInt (tf 3).toInt (dJ ta dn Z i) (dn + i) (Z i).toInt = true := za
                rw [this] at za
                exact absurd za (by decide)
          obtain ⟨w1, a1, a2, a3⟩ := ad_all (X := X) (d := d + 1) (x := Z i) (dn := dn + i) t6 hT (by show (dlJ (ta 2) dn Z i).length = 60; rw [dlJ_len]; exact l2) rfl hdn'
          rw [up_up, up_up] at a2
          have hA1 : alR w1 t (dn + i) (dJ ta dn Z i) := by
            obtain ⟨RU, LB, LA, u1, u2, u3, u4, u5⟩ := hA
            exact ⟨RU, LB, LA, (a3 17 (by omega)).trans u1, (a3 18 (by omega)).trans u2, (a3 19 (by omega)).trans u3, (a3 20 (by omega)).trans u4, u5⟩
          obtain ⟨w2, p1, p2, p3⟩ := al_pass (X := X) (d := d + 1) (x := Z i) hA1 (by omega) xr.1 xr.2
          have hA2 : alR w2 t (dn + (i + 1)) (dJ ta dn Z (i + 1)) := p2.cg (fun s hs => by
            show up (dJ ta dn Z i) (dn + i) (Z i).toInt s = ((ex_put (dlJ (ta 2) dn Z i) (dn + i) (Z i)).getD s 0).toInt
            by_cases c : s = dn + i
            · rw [c, up_eq, rl_x (by rw [dlJ_len, l2]; omega)]
            · rw [up_ne _ _ c, rl_w c]
              rfl)
          obtain ⟨j, r, w', j1, j2, j3, j4, j5, j6, j7⟩ := ih (i + 1) w2 (some (.int (Z i))) (by omega) (by omega) (by omega) ((p3 0 (by omega)).trans ((a3 0 (by omega)).trans h0)) ((p3 a (by omega)).trans ((a3 a (by omega)).trans ha)) ((p3 (a + 1) (by omega)).trans ((a3 (a + 1) (by omega)).trans hc)) (a2.off (fun q h1 h2 => p3 q (by omega))) hA2
          rw [nI_succ] at j5
          refine ⟨j, r, w', by omega, j2, j3, fun s h1 h2 => ?_, qe_5 ha h0 g1 g9 hT.1 k17 (by rw [ein, en]; omega) q1 gc b1 z1 a1 ((a3 0 (by omega)).trans h0) g1 g9 ((a3 17 (by omega)).trans k17) p1 j5, fun q h1 h2 h3 => (j6 q h1 h2 h3).trans ((p3 q h3).trans (a3 q h2)), j7⟩
          by_cases c : s = i
          · rw [c]
            exact ⟨cF, za⟩
          · exact j4 s (by omega) h2
        · refine ⟨i, m20 - nI i, _, Nat.le_refl _, hi, hd, fun s h1 h2 => by omega, qe_4 ha h0 g1 g9 hT.1 k17 (by rw [ein, en]; omega) q1 gc b1 z1 zb (sh_beq (by omega)) (sh_beq (by omega)) (sh_beq (by omega)), fun q h1 h2 _ => vg_at_ne (sh_beq (fun e => h2 (by omega))), Or.inr ⟨by omega, cF, fun h => ?_, rfl, ?_, vg_at_o (sh_beq (by omega)) h0⟩⟩
          · have h2 : acc (tf 0).toInt (tf 2).toInt (tf 3).toInt (dJ ta dn Z i) (dn + i) (Z i).toInt = true := h.2
            have za : acc (tf 0).toInt (tf 2).toInt (tf 3).toInt (dJ ta dn Z i) (dn + i) (Z i).toInt = false := za
            rw [za] at h2
            exact absurd h2 (by decide)
          · have k := hT.pt (tf' := up (up tf 5 (nI (dn + i))) 5 (nI dn))
            rw [up_up] at k
            exact k
      · refine ⟨i, nI i, _, Nat.le_refl _, hi, hd, fun s h1 h2 => by omega, qe_3 ha (by rw [ein, en]; omega) q1 (by rw [q3]; exact cF) ?_, fun q h1 _ _ => vg_at_ne (sh_beq (fun e => h1 e.symm)), Or.inl ⟨Or.inr cF, rfl, hT.off (fun q h1 h2 => vg_at_ne (sh_beq (by omega))), b, vg_at_put h0, by rw [if_neg ei]; exact q3⟩⟩
        by_cases c : i + 1 < n
        · refine qe_2 h0 g13 ?_ (by rw [q3]; exact cF)
          rw [← nI_succ, nI_toInt (by omega), en]
          omega
        · refine qe_1 h0 g13 ?_
          rw [← nI_succ, nI_toInt (by omega), en]
          omega
end RE
