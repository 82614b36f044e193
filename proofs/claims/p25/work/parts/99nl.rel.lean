/-! DRAFTS OF BOTH: what they hold is the same. -/
def rlL (ta : Nat → List Int32) (DR DW : List Int32) : Prop := (ta 0).length = 4 ∧ (ta 1).length = 17 ∧ (ta 2).length = 60 ∧ (ta 3).length = 5 ∧ (ta 4).length = 4 ∧ (ta 5).length = 4 ∧ DR.length = 96 ∧ DW.length = 4
def rlS (tf : Nat → Int32) (g : Nat → Int32) (dm dt : Int32) (dn an wn : Nat) : Prop := dm = tf 0 ∧ dt = tf 1 ∧ g 78 = tf 2 ∧ g 79 = tf 3 ∧ g 80 = tf 4 ∧ tf 5 = nI dn ∧ g 0 = nI dn ∧ tf 6 = nI an ∧ g 81 = nI an ∧ tf 7 = nI wn ∧ g 87 = nI wn ∧ dn ≤ 60 ∧ an ≤ 5 ∧ wn ≤ 4 ∧ 4 ≤ (tf 0).toInt ∧ (tf 0).toInt ≤ 16 ∧ 1 ≤ (tf 1).toInt ∧ (tf 1).toInt ≤ 4
def rlW (ta : Nat → List Int32) (DW : List Int32) : Prop := ∀ i, i < 4 → DW.getD i 0 = (ta 0).getD i 0
def rlP (ta : Nat → List Int32) (g : Nat → Int32) : Prop := ∀ i, 1 ≤ i → i ≤ 16 → g (61 + i) = (ta 1).getD i 0 ∧ (((ta 1).getD i 0).toInt = -4 ∨ (0 ≤ ((ta 1).getD i 0).toInt ∧ ((ta 1).getD i 0).toInt ≤ 3))
def rlD (ta : Nat → List Int32) (g : Nat → Int32) (dn : Nat) : Prop := ∀ i, i < dn → g (1 + i) = (ta 2).getD i 0
def rlA (ta : Nat → List Int32) (g : Nat → Int32) (an : Nat) : Prop := ∀ i, i < an → g (82 + i) = (ta 3).getD i 0 ∧ 0 ≤ ((ta 3).getD i 0).toInt
def rlV (ta : Nat → List Int32) (g : Nat → Int32) (wn : Nat) : Prop := ∀ i, i < wn → g (88 + 2 * i) = (ta 4).getD i 0 ∧ g (89 + 2 * i) = (ta 5).getD i 0 ∧ 0 ≤ ((ta 4).getD i 0).toInt
def rlN (ta : Nat → List Int32) (hn : Int32) (dn : Nat) : Prop := ∀ k : Int, 4 ≤ k → (hn.toInt ≤ k ↔ (∀ i, 1 ≤ i → i ≤ 16 → ¬ ((ta 1).getD i 0).toInt = -4 → (i : Int) ≤ k) ∧ (∀ i, i < dn → ((ta 2).getD i 0).toInt ≤ k))
def rlM (ta : Nat → List Int32) (hm : Int32) (an wn : Nat) : Prop := ∀ k : Int, 1 ≤ k → (hm.toInt < k ↔ (∀ i, 1 ≤ i → i ≤ 16 → ((ta 1).getD i 0).toInt < k) ∧ (∀ i, i < an → ((ta 3).getD i 0).toInt < k) ∧ (∀ i, i < wn → ((ta 4).getD i 0).toInt < k))
def Rl (tf : Nat → Int32) (ta : Nat → List Int32) (dm dt hn hm : Int32) (DR DW : List Int32) (dn an wn : Nat) : Prop := rlL ta DR DW ∧ rlS tf (fun j => DR.getD j 0) dm dt dn an wn ∧ rlW ta DW ∧ rlP ta (fun j => DR.getD j 0) ∧ rlD ta (fun j => DR.getD j 0) dn ∧ rlA ta (fun j => DR.getD j 0) an ∧ rlV ta (fun j => DR.getD j 0) wn ∧ rlN ta hn dn ∧ rlM ta hm an wn
theorem mx_le {a b : Int32} {k : Int} : (mx a b).toInt ≤ k ↔ a.toInt ≤ k ∧ b.toInt ≤ k := by
  unfold mx
  by_cases h : a.toInt > b.toInt
  · rw [if_pos h]; omega
  · rw [if_neg h]; omega
theorem mx_lt {a b : Int32} {k : Int} : (mx a b).toInt < k ↔ a.toInt < k ∧ b.toInt < k := by
  unfold mx
  by_cases h : a.toInt > b.toInt
  · rw [if_pos h]; omega
  · rw [if_neg h]; omega
theorem rl_len (l : List Int32) (i : Nat) (x : Int32) : (ex_put l i x).length = l.length := by rw [ex_put_eq, List.length_set]
/-- one place of DR written -/
theorem rl_w {DR : List Int32} {a j : Nat} {x : Int32} (h : j ≠ a) : (ex_put DR a x).getD j 0 = DR.getD j 0 := by
  rw [ex_put_eq, List.getD_eq_getElem?_getD, List.getElem?_set, if_neg (fun e => h e.symm), List.getD_eq_getElem?_getD]
theorem rl_x {DR : List Int32} {a : Nat} {x : Int32} (h : a < DR.length) : (ex_put DR a x).getD a 0 = x := by rw [sh_getD_put h, if_pos rfl]
section RU
variable {tf : Nat → Int32} {ta : Nat → List Int32} {dm dt hn hm : Int32} {DR DW : List Int32} {dn an wn : Nat}
theorem Rl.most {v : Nat} (h : Rl tf ta dm dt hn hm DR DW dn an wn) (h1 : 4 ≤ v) (h2 : v ≤ 16) : Rl (up tf 0 (nI v)) ta (nI v) dt hn hm DR DW dn an wn := by
  obtain ⟨hL, hS, hr⟩ := h
  have ev : (nI v).toInt = (v : Int) := nI_toInt (by omega)
  obtain ⟨s1, s2, s3, s4, s5, s6, s7, s8, s9, s10, s11, s12, s13, s14, s15, s16, s17, s18⟩ := hS
  exact ⟨hL, ⟨rfl, s2, s3, s4, s5, s6, s7, s8, s9, s10, s11, s12, s13, s14, (by show 4 ≤ (nI v).toInt; omega), (by show (nI v).toInt ≤ 16; omega), s17, s18⟩, hr⟩
theorem Rl.mats {v : Nat} (h : Rl tf ta dm dt hn hm DR DW dn an wn) (h1 : 1 ≤ v) (h2 : v ≤ 4) : Rl (up tf 1 (nI v)) ta dm (nI v) hn hm DR DW dn an wn := by
  obtain ⟨hL, hS, hr⟩ := h
  have ev : (nI v).toInt = (v : Int) := nI_toInt (by omega)
  obtain ⟨s1, s2, s3, s4, s5, s6, s7, s8, s9, s10, s11, s12, s13, s14, s15, s16, s17, s18⟩ := hS
  exact ⟨hL, ⟨s1, rfl, s3, s4, s5, s6, s7, s8, s9, s10, s11, s12, s13, s14, s15, s16, (by show 1 ≤ (nI v).toInt; omega), (by show (nI v).toInt ≤ 4; omega)⟩, hr⟩
/-- a place of DR between 78 and 80 -/
theorem Rl.mid (h : Rl tf ta dm dt hn hm DR DW dn an wn) {a : Nat} {x : Int32} (ha : 78 ≤ a) (hb : a ≤ 80) {tf' : Nat → Int32} (hS' : rlS tf' (fun j => (ex_put DR a x).getD j 0) dm dt dn an wn) : Rl tf' ta dm dt hn hm (ex_put DR a x) DW dn an wn := by
  obtain ⟨⟨l0, l1, l2, l3, l4, l5, l6, l7⟩, hS, hW, hP, hD, hA, hV, hN, hM⟩ := h
  have s12 := hS.2.2.2.2.2.2.2.2.2.2.2.1
  refine ⟨⟨l0, l1, l2, l3, l4, l5, by rw [rl_len]; exact l6, l7⟩, hS', hW, fun i h1 h2 => ?_, fun i h1 => ?_, fun i h1 => ?_, fun i h1 => ?_, hN, hM⟩
  · show (ex_put DR a x).getD (61 + i) 0 = _ ∧ _
    rw [rl_w (by omega)]
    exact hP i h1 h2
  · show (ex_put DR a x).getD (1 + i) 0 = _
    rw [rl_w (by omega)]
    exact hD i h1
  · show (ex_put DR a x).getD (82 + i) 0 = _ ∧ _
    rw [rl_w (by omega)]
    exact hA i h1
  · show (ex_put DR a x).getD (88 + 2 * i) 0 = _ ∧ (ex_put DR a x).getD (89 + 2 * i) 0 = _ ∧ _
    rw [rl_w (by omega), rl_w (by omega)]
    exact hV i h1
theorem Rl.gap {x : Int32} (h : Rl tf ta dm dt hn hm DR DW dn an wn) : Rl (up tf 2 x) ta dm dt hn hm (ex_put DR 78 x) DW dn an wn := by
  have l6 := h.1.2.2.2.2.2.2.1
  refine h.mid (by omega) (by omega) ?_
  obtain ⟨s1, s2, s3, s4, s5, s6, s7, s8, s9, s10, s11, s12, s13, s14, s15, s16, s17, s18⟩ := h.2.1
  exact ⟨s1, s2, rl_x (by omega), (rl_w (by omega)).trans s4, (rl_w (by omega)).trans s5, s6, (rl_w (by omega)).trans s7, s8, (rl_w (by omega)).trans s9, s10, (rl_w (by omega)).trans s11, s12, s13, s14, s15, s16, s17, s18⟩
theorem Rl.near {x : Int32} (h : Rl tf ta dm dt hn hm DR DW dn an wn) : Rl (up tf 3 x) ta dm dt hn hm (ex_put DR 79 x) DW dn an wn := by
  have l6 := h.1.2.2.2.2.2.2.1
  refine h.mid (by omega) (by omega) ?_
  obtain ⟨s1, s2, s3, s4, s5, s6, s7, s8, s9, s10, s11, s12, s13, s14, s15, s16, s17, s18⟩ := h.2.1
  exact ⟨s1, s2, (rl_w (by omega)).trans s3, rl_x (by omega), (rl_w (by omega)).trans s5, s6, (rl_w (by omega)).trans s7, s8, (rl_w (by omega)).trans s9, s10, (rl_w (by omega)).trans s11, s12, s13, s14, s15, s16, s17, s18⟩
theorem Rl.book {x : Int32} (h : Rl tf ta dm dt hn hm DR DW dn an wn) : Rl (up tf 4 x) ta dm dt hn hm (ex_put DR 80 x) DW dn an wn := by
  have l6 := h.1.2.2.2.2.2.2.1
  refine h.mid (by omega) (by omega) ?_
  obtain ⟨s1, s2, s3, s4, s5, s6, s7, s8, s9, s10, s11, s12, s13, s14, s15, s16, s17, s18⟩ := h.2.1
  exact ⟨s1, s2, (rl_w (by omega)).trans s3, (rl_w (by omega)).trans s4, rl_x (by omega), s6, (rl_w (by omega)).trans s7, s8, (rl_w (by omega)).trans s9, s10, (rl_w (by omega)).trans s11, s12, s13, s14, s15, s16, s17, s18⟩
theorem Rl.page {v m : Nat} (h : Rl tf ta dm dt hn hm DR DW dn an wn) (h1 : 1 ≤ v) (h2 : v ≤ 16) (hm3 : m ≤ 3) (hp : ((ta 1).getD v 0).toInt = -4) : Rl tf (up ta 1 (ex_put (ta 1) v (nI m))) dm dt (mx (nI v) hn) (mx (nI m) hm) (ex_put DR (61 + v) (nI m)) DW dn an wn := by
  obtain ⟨⟨l0, l1, l2, l3, l4, l5, l6, l7⟩, hS, hW, hP, hD, hA, hV, hN, hM⟩ := h
  have ev : (nI v).toInt = (v : Int) := nI_toInt (by omega)
  have em : (nI m).toInt = (m : Int) := nI_toInt (by omega)
  obtain ⟨s1, s2, s3, s4, s5, s6, s7, s8, s9, s10, s11, s12, s13, s14, s15, s16, s17, s18⟩ := hS
  have gv : (ex_put (ta 1) v (nI m)).getD v 0 = nI m := rl_x (by omega)
  have go : ∀ i, i ≠ v → (ex_put (ta 1) v (nI m)).getD i 0 = (ta 1).getD i 0 := fun i hi => rl_w hi
  refine ⟨⟨l0, by show (ex_put (ta 1) v (nI m)).length = 17; rw [rl_len]; exact l1, l2, l3, l4, l5, by rw [rl_len]; exact l6, l7⟩, ⟨s1, s2, (rl_w (by omega)).trans s3, (rl_w (by omega)).trans s4, (rl_w (by omega)).trans s5, s6, (rl_w (by omega)).trans s7, s8, (rl_w (by omega)).trans s9, s10, (rl_w (by omega)).trans s11, s12, s13, s14, s15, s16, s17, s18⟩, hW, fun i i1 i2 => ?_, fun i i1 => ?_, fun i i1 => ?_, fun i i1 => ?_, fun k hk => ?_, fun k hk => ?_⟩
  · show (ex_put DR (61 + v) (nI m)).getD (61 + i) 0 = (ex_put (ta 1) v (nI m)).getD i 0 ∧ (((ex_put (ta 1) v (nI m)).getD i 0).toInt = -4 ∨ (0 ≤ ((ex_put (ta 1) v (nI m)).getD i 0).toInt ∧ ((ex_put (ta 1) v (nI m)).getD i 0).toInt ≤ 3))
    by_cases hi : i = v
    · subst hi
      rw [gv, rl_x (by omega)]
      exact ⟨rfl, Or.inr ⟨by omega, by omega⟩⟩
    · rw [go i hi, rl_w (by omega)]
      exact hP i i1 i2
  · exact (rl_w (by omega)).trans (hD i i1)
  · exact ⟨(rl_w (by omega)).trans (hA i i1).1, (hA i i1).2⟩
  · exact ⟨(rl_w (by omega)).trans (hV i i1).1, (rl_w (by omega)).trans (hV i i1).2.1, (hV i i1).2.2⟩
  · show _ ↔ (∀ i, 1 ≤ i → i ≤ 16 → ¬ ((ex_put (ta 1) v (nI m)).getD i 0).toInt = -4 → (i : Int) ≤ k) ∧ (∀ i, i < dn → ((ta 2).getD i 0).toInt ≤ k)
    rw [mx_le, hN k hk]
    constructor
    · rintro ⟨a, b, c⟩
      refine ⟨fun i i1 i2 i3 => ?_, c⟩
      by_cases hi : i = v
      · omega
      · rw [go i hi] at i3
        exact b i i1 i2 i3
    · rintro ⟨b, c⟩
      refine ⟨?_, fun i i1 i2 i3 => ?_, c⟩
      · have := b v h1 h2 (by rw [gv]; omega)
        omega
      · by_cases hi : i = v
        · rw [hi] at i3
          exact absurd hp i3
        · exact b i i1 i2 (by rw [go i hi]; exact i3)
  · show _ ↔ (∀ i, 1 ≤ i → i ≤ 16 → ((ex_put (ta 1) v (nI m)).getD i 0).toInt < k) ∧ (∀ i, i < an → ((ta 3).getD i 0).toInt < k) ∧ (∀ i, i < wn → ((ta 4).getD i 0).toInt < k)
    rw [mx_lt, hM k hk]
    constructor
    · rintro ⟨a, b, c⟩
      refine ⟨fun i i1 i2 => ?_, c⟩
      by_cases hi : i = v
      · rw [hi, gv]; exact a
      · rw [go i hi]
        exact b i i1 i2
    · rintro ⟨b, c⟩
      refine ⟨?_, fun i i1 i2 => ?_, c⟩
      · have := b v h1 h2
        rw [gv] at this
        exact this
      · by_cases hi : i = v
        · rw [hi, hp]; omega
        · have := b i i1 i2
          rw [go i hi] at this
          exact this
theorem Rl.day {v : Nat} (h : Rl tf ta dm dt hn hm DR DW dn an wn) (h2 : v ≤ 16) (hd : dn < 60) : Rl (up tf 5 (nI (dn + 1))) (up ta 2 (ex_put (ta 2) dn (nI v))) dm dt (mx (nI v) hn) hm (ex_put (ex_put DR (1 + dn) (nI v)) 0 (nI (dn + 1))) DW (dn + 1) an wn := by
  obtain ⟨⟨l0, l1, l2, l3, l4, l5, l6, l7⟩, hS, hW, hP, hD, hA, hV, hN, hM⟩ := h
  have ev : (nI v).toInt = (v : Int) := nI_toInt (by omega)
  obtain ⟨s1, s2, s3, s4, s5, s6, s7, s8, s9, s10, s11, s12, s13, s14, s15, s16, s17, s18⟩ := hS
  have g2 : ∀ j, j ≠ 0 → j ≠ 1 + dn → (ex_put (ex_put DR (1 + dn) (nI v)) 0 (nI (dn + 1))).getD j 0 = DR.getD j 0 := fun j a b => (rl_w a).trans (rl_w b)
  have gv : (ex_put (ta 2) dn (nI v)).getD dn 0 = nI v := rl_x (by omega)
  have go : ∀ i, i ≠ dn → (ex_put (ta 2) dn (nI v)).getD i 0 = (ta 2).getD i 0 := fun i hi => rl_w hi
  refine ⟨⟨l0, l1, by show (ex_put (ta 2) dn (nI v)).length = 60; rw [rl_len]; exact l2, l3, l4, l5, by rw [rl_len, rl_len]; exact l6, l7⟩, ⟨s1, s2, (g2 _ (by omega) (by omega)).trans s3, (g2 _ (by omega) (by omega)).trans s4, (g2 _ (by omega) (by omega)).trans s5, rfl, rl_x (by rw [rl_len]; omega), s8, (g2 _ (by omega) (by omega)).trans s9, s10, (g2 _ (by omega) (by omega)).trans s11, by omega, s13, s14, s15, s16, s17, s18⟩, hW, fun i i1 i2 => ?_, fun i i1 => ?_, fun i i1 => ?_, fun i i1 => ?_, fun k hk => ?_, hM⟩
  · exact ⟨(g2 _ (by omega) (by omega)).trans (hP i i1 i2).1, (hP i i1 i2).2⟩
  · show (ex_put (ex_put DR (1 + dn) (nI v)) 0 (nI (dn + 1))).getD (1 + i) 0 = (ex_put (ta 2) dn (nI v)).getD i 0
    by_cases hi : i = dn
    · subst hi
      rw [gv, rl_w (by omega), rl_x (by omega)]
    · rw [go i hi, g2 _ (by omega) (by omega)]
      exact hD i (by omega)
  · exact ⟨(g2 _ (by omega) (by omega)).trans (hA i i1).1, (hA i i1).2⟩
  · exact ⟨(g2 _ (by omega) (by omega)).trans (hV i i1).1, (g2 _ (by omega) (by omega)).trans (hV i i1).2.1, (hV i i1).2.2⟩
  · show _ ↔ (∀ i, 1 ≤ i → i ≤ 16 → ¬ ((ta 1).getD i 0).toInt = -4 → (i : Int) ≤ k) ∧ (∀ i, i < dn + 1 → ((ex_put (ta 2) dn (nI v)).getD i 0).toInt ≤ k)
    rw [mx_le, hN k hk]
    constructor
    · rintro ⟨a, b, c⟩
      refine ⟨b, fun i i1 => ?_⟩
      by_cases hi : i = dn
      · rw [hi, gv]; exact a
      · rw [go i hi]; exact c i (by omega)
    · rintro ⟨b, c⟩
      refine ⟨?_, b, fun i i1 => ?_⟩
      · have := c dn (by omega)
        rw [gv] at this
        exact this
      · have := c i (by omega)
        rw [go i (by omega)] at this
        exact this
theorem Rl.ask {v : Nat} (h : Rl tf ta dm dt hn hm DR DW dn an wn) (h2 : v ≤ 3) (hd : an < 5) : Rl (up tf 6 (nI (an + 1))) (up ta 3 (ex_put (ta 3) an (nI v))) dm dt hn (mx (nI v) hm) (ex_put (ex_put DR (82 + an) (nI v)) 81 (nI (an + 1))) DW dn (an + 1) wn := by
  obtain ⟨⟨l0, l1, l2, l3, l4, l5, l6, l7⟩, hS, hW, hP, hD, hA, hV, hN, hM⟩ := h
  have ev : (nI v).toInt = (v : Int) := nI_toInt (by omega)
  obtain ⟨s1, s2, s3, s4, s5, s6, s7, s8, s9, s10, s11, s12, s13, s14, s15, s16, s17, s18⟩ := hS
  have g2 : ∀ j, j ≠ 81 → j ≠ 82 + an → (ex_put (ex_put DR (82 + an) (nI v)) 81 (nI (an + 1))).getD j 0 = DR.getD j 0 := fun j a b => (rl_w a).trans (rl_w b)
  have gv : (ex_put (ta 3) an (nI v)).getD an 0 = nI v := rl_x (by omega)
  have go : ∀ i, i ≠ an → (ex_put (ta 3) an (nI v)).getD i 0 = (ta 3).getD i 0 := fun i hi => rl_w hi
  refine ⟨⟨l0, l1, l2, by show (ex_put (ta 3) an (nI v)).length = 5; rw [rl_len]; exact l3, l4, l5, by rw [rl_len, rl_len]; exact l6, l7⟩, ⟨s1, s2, (g2 _ (by omega) (by omega)).trans s3, (g2 _ (by omega) (by omega)).trans s4, (g2 _ (by omega) (by omega)).trans s5, s6, (g2 _ (by omega) (by omega)).trans s7, rfl, rl_x (by rw [rl_len]; omega), s10, (g2 _ (by omega) (by omega)).trans s11, s12, by omega, s14, s15, s16, s17, s18⟩, hW, fun i i1 i2 => ?_, fun i i1 => ?_, fun i i1 => ?_, fun i i1 => ?_, hN, fun k hk => ?_⟩
  · exact ⟨(g2 _ (by omega) (by omega)).trans (hP i i1 i2).1, (hP i i1 i2).2⟩
  · exact (g2 _ (by omega) (by omega)).trans (hD i i1)
  · show (ex_put (ex_put DR (82 + an) (nI v)) 81 (nI (an + 1))).getD (82 + i) 0 = (ex_put (ta 3) an (nI v)).getD i 0 ∧ 0 ≤ ((ex_put (ta 3) an (nI v)).getD i 0).toInt
    by_cases hi : i = an
    · subst hi
      rw [gv, rl_w (by omega), rl_x (by omega)]
      exact ⟨rfl, by omega⟩
    · rw [go i hi, g2 _ (by omega) (by omega)]
      exact hA i (by omega)
  · exact ⟨(g2 _ (by omega) (by omega)).trans (hV i i1).1, (g2 _ (by omega) (by omega)).trans (hV i i1).2.1, (hV i i1).2.2⟩
  · show _ ↔ (∀ i, 1 ≤ i → i ≤ 16 → ((ta 1).getD i 0).toInt < k) ∧ (∀ i, i < an + 1 → ((ex_put (ta 3) an (nI v)).getD i 0).toInt < k) ∧ (∀ i, i < wn → ((ta 4).getD i 0).toInt < k)
    rw [mx_lt, hM k hk]
    constructor
    · rintro ⟨a, b, c, e⟩
      refine ⟨b, fun i i1 => ?_, e⟩
      by_cases hi : i = an
      · rw [hi, gv]; exact a
      · rw [go i hi]; exact c i (by omega)
    · rintro ⟨b, c, e⟩
      refine ⟨?_, b, fun i i1 => ?_, e⟩
      · have := c an (by omega)
        rw [gv] at this
        exact this
      · have := c i (by omega)
        rw [go i (by omega)] at this
        exact this
theorem Rl.wait {v v2 : Nat} (h : Rl tf ta dm dt hn hm DR DW dn an wn) (h2 : v ≤ 3) (hd : wn < 4) : Rl (up tf 7 (nI (wn + 1))) (up (up ta 4 (ex_put (ta 4) wn (nI v))) 5 (ex_put (ta 5) wn (nI v2))) dm dt hn (mx (nI v) hm) (ex_put (ex_put (ex_put DR (88 + 2 * wn) (nI v)) (89 + 2 * wn) (nI v2)) 87 (nI (wn + 1))) DW dn an (wn + 1) := by
  obtain ⟨⟨l0, l1, l2, l3, l4, l5, l6, l7⟩, hS, hW, hP, hD, hA, hV, hN, hM⟩ := h
  have ev : (nI v).toInt = (v : Int) := nI_toInt (by omega)
  obtain ⟨s1, s2, s3, s4, s5, s6, s7, s8, s9, s10, s11, s12, s13, s14, s15, s16, s17, s18⟩ := hS
  have g2 : ∀ j, j ≠ 87 → j ≠ 89 + 2 * wn → j ≠ 88 + 2 * wn → (ex_put (ex_put (ex_put DR (88 + 2 * wn) (nI v)) (89 + 2 * wn) (nI v2)) 87 (nI (wn + 1))).getD j 0 = DR.getD j 0 := fun j a b c => ((rl_w a).trans (rl_w b)).trans (rl_w c)
  have gv : (ex_put (ta 4) wn (nI v)).getD wn 0 = nI v := rl_x (by omega)
  have go : ∀ i, i ≠ wn → (ex_put (ta 4) wn (nI v)).getD i 0 = (ta 4).getD i 0 := fun i hi => rl_w hi
  have gv5 : (ex_put (ta 5) wn (nI v2)).getD wn 0 = nI v2 := rl_x (by omega)
  have go5 : ∀ i, i ≠ wn → (ex_put (ta 5) wn (nI v2)).getD i 0 = (ta 5).getD i 0 := fun i hi => rl_w hi
  refine ⟨⟨l0, l1, l2, l3, by show (ex_put (ta 4) wn (nI v)).length = 4; rw [rl_len]; exact l4, by show (ex_put (ta 5) wn (nI v2)).length = 4; rw [rl_len]; exact l5, by rw [rl_len, rl_len, rl_len]; exact l6, l7⟩, ⟨s1, s2, (g2 _ (by omega) (by omega) (by omega)).trans s3, (g2 _ (by omega) (by omega) (by omega)).trans s4, (g2 _ (by omega) (by omega) (by omega)).trans s5, s6, (g2 _ (by omega) (by omega) (by omega)).trans s7, s8, (g2 _ (by omega) (by omega) (by omega)).trans s9, rfl, rl_x (by rw [rl_len, rl_len]; omega), s12, s13, by omega, s15, s16, s17, s18⟩, hW, fun i i1 i2 => ?_, fun i i1 => ?_, fun i i1 => ?_, fun i i1 => ?_, hN, fun k hk => ?_⟩
  · exact ⟨(g2 _ (by omega) (by omega) (by omega)).trans (hP i i1 i2).1, (hP i i1 i2).2⟩
  · exact (g2 _ (by omega) (by omega) (by omega)).trans (hD i i1)
  · exact ⟨(g2 _ (by omega) (by omega) (by omega)).trans (hA i i1).1, (hA i i1).2⟩
  · show (ex_put (ex_put (ex_put DR (88 + 2 * wn) (nI v)) (89 + 2 * wn) (nI v2)) 87 (nI (wn + 1))).getD (88 + 2 * i) 0 = (ex_put (ta 4) wn (nI v)).getD i 0 ∧ (ex_put (ex_put (ex_put DR (88 + 2 * wn) (nI v)) (89 + 2 * wn) (nI v2)) 87 (nI (wn + 1))).getD (89 + 2 * i) 0 = (ex_put (ta 5) wn (nI v2)).getD i 0 ∧ 0 ≤ ((ex_put (ta 4) wn (nI v)).getD i 0).toInt
    by_cases hi : i = wn
    · subst hi
      rw [gv, gv5, rl_w (by omega), rl_w (by omega), rl_x (by omega), rl_w (by omega), rl_x (by rw [rl_len]; omega)]
      exact ⟨rfl, rfl, by omega⟩
    · rw [go i hi, go5 i hi, g2 _ (by omega) (by omega) (by omega), g2 _ (by omega) (by omega) (by omega)]
      exact hV i (by omega)
  · show _ ↔ (∀ i, 1 ≤ i → i ≤ 16 → ((ta 1).getD i 0).toInt < k) ∧ (∀ i, i < an → ((ta 3).getD i 0).toInt < k) ∧ (∀ i, i < wn + 1 → ((ex_put (ta 4) wn (nI v)).getD i 0).toInt < k)
    rw [mx_lt, hM k hk]
    constructor
    · rintro ⟨a, b, c, e⟩
      refine ⟨b, c, fun i i1 => ?_⟩
      by_cases hi : i = wn
      · rw [hi, gv]; exact a
      · rw [go i hi]; exact e i (by omega)
    · rintro ⟨b, c, e⟩
      refine ⟨?_, b, c, fun i i1 => ?_⟩
      · have := e wn (by omega)
        rw [gv] at this
        exact this
      · have := e i (by omega)
        rw [go i (by omega)] at this
        exact this
theorem Rl.wgt {i v : Nat} (h : Rl tf ta dm dt hn hm DR DW dn an wn) (hi : i < 4) : Rl tf (up ta 0 (ex_put (ta 0) i (nI v))) dm dt hn hm DR (ex_put DW i (nI v)) dn an wn := by
  obtain ⟨⟨l0, l1, l2, l3, l4, l5, l6, l7⟩, hS, hW, hr⟩ := h
  refine ⟨⟨by show (ex_put (ta 0) i (nI v)).length = 4; rw [rl_len]; exact l0, l1, l2, l3, l4, l5, l6, by rw [rl_len]; exact l7⟩, hS, fun j hj => ?_, hr⟩
  show (ex_put DW i (nI v)).getD j 0 = (ex_put (ta 0) i (nI v)).getD j 0
  rw [sh_getD_put (by omega), sh_getD_put (by omega)]
  by_cases e : i = j
  · rw [if_pos e, if_pos e]
  · rw [if_neg e, if_neg e]
    exact hW j hj
end RU
