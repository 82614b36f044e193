/-! THE TEXT OF BOTH. -/
section TN
variable {X : List Int32} {d dr : Nat} {B : List Int32} {w : ex_W} {tf : Nat → Int32} {ta : Nat → List Int32}
theorem tw_mat (hA : cA w dr B tf ta) (h4 : (tf 1).toInt ≤ 4) {x : Int32} (h0 : 0 ≤ x.toInt) : (x.toInt < (tf 1).toInt ∧ Go X d mt_99 (ex_ent mt_99 [.ref dr, .int x]) w (some (.int 1), w)) ∨ (¬ x.toInt < (tf 1).toInt ∧ Go X d mt_99 (ex_ent mt_99 [.ref dr, .int x]) w (some (.int 0), w)) := by
  by_cases h : x.toInt < (tf 1).toInt
  · exact Or.inl ⟨h, thm_4 hA.2.1 h0 h (by omega)⟩
  · exact Or.inr ⟨h, thm_2 hA.2.1 h0 (by omega)⟩
/-- pages -/
theorem tw_pg (hA : cA w dr B tf ta) (l1 : (ta 1).length = 17) (h4 : (tf 1).toInt ≤ 4) (hP : ∀ i, 1 ≤ i → i ≤ 16 → ((ta 1).getD i 0).toInt = -4 ∨ (0 ≤ ((ta 1).getD i 0).toInt ∧ ((ta 1).getD i 0).toInt ≤ 3)) : ∀ (f i : Nat), 17 - i ≤ f → 1 ≤ i → i ≤ 17 → ((∀ j, i ≤ j → j ≤ 16 → ¬ ((ta 1).getD j 0).toInt = -4 → (j : Int) ≤ (tf 0).toInt ∧ ((ta 1).getD j 0).toInt < (tf 1).toInt) ∧ ∀ q, Go X (d + 1) mt_157 (50, [some (.ref dr), some (.int 0)], []) w q → Go X (d + 1) mt_157 (2, [some (.ref dr), some (.int (nI i))], []) w q) ∨ (¬ (∀ j, i ≤ j → j ≤ 16 → ¬ ((ta 1).getD j 0).toInt = -4 → (j : Int) ≤ (tf 0).toInt ∧ ((ta 1).getD j 0).toInt < (tf 1).toInt) ∧ Go X (d + 1) mt_157 (2, [some (.ref dr), some (.int (nI i))], []) w (some (.int 0), w)) := by
  intro f
  induction f with
  | zero =>
    intro i hf h1 h2
    have ei : (nI i).toInt = (i : Int) := nI_toInt (by omega)
    exact Or.inl ⟨fun j j1 j2 => by omega, fun q kk => tnw_e (by omega) kk⟩
  | succ f ih =>
    intro i hf h1 h2
    have ei : (nI i).toInt = (i : Int) := nI_toInt (by omega)
    by_cases h17 : i = 17
    · exact Or.inl ⟨fun j j1 j2 => by omega, fun q kk => tnw_e (by omega) kk⟩
    · have hix : ex_ix (nI i) (ta 1).length = true := by rw [l1]; exact fp_ix (by omega) (by decide)
      have hgd : ex_gd (ta 1) (Int32.toNatClampNeg (nI i)) = (ta 1).getD i 0 := fp_gd (by omega)
      have h2' := hA.2.2 1 (by decide)
      rcases ih (i + 1) (by omega) (by omega) (by omega) with ⟨r1, r2⟩ | ⟨r1, r2⟩
      · by_cases hq : ((ta 1).getD i 0).toInt = -4
        · refine Or.inl ⟨fun j j1 j2 j3 => ?_, fun q kk => tnw_a hA.2.1 h2' (by omega) hix (by rw [hgd]; exact hq) (by rw [← nI_succ]; exact r2 q kk)⟩
          by_cases e : j = i
          · rw [e] at j3; exact absurd hq j3
          · exact r1 j (by omega) j2 j3
        · have hr := (hP i h1 (by omega)).resolve_left hq
          by_cases hn : (i : Int) ≤ (tf 0).toInt
          · have gn : Go X d mt_101 (ex_ent mt_101 [.ref dr, .int (nI i)]) w (some (.int 1), w) := thn_4 hA.2.1 (by omega) (by omega) (by omega)
            rcases tw_mat (X := X) (d := d) hA h4 hr.1 with ⟨m1, g⟩ | ⟨m1, g⟩
            · refine Or.inl ⟨fun j j1 j2 j3 => ?_, fun q kk => tnw_b hA.2.1 h2' (by omega) hix (by rw [hgd]; exact hq) gn hix (by rw [hgd]; exact g) (by rw [← nI_succ]; exact r2 q kk)⟩
              by_cases e : j = i
              · rw [e]; exact ⟨hn, m1⟩
              · exact r1 j (by omega) j2 j3
            · exact Or.inr ⟨fun h => m1 (h i (by omega) (by omega) hq).2, tnw_d hA.2.1 h2' (by omega) hix (by rw [hgd]; exact hq) gn hix (by rw [hgd]; exact g)⟩
          · exact Or.inr ⟨fun h => hn (h i (by omega) (by omega) hq).1, tnw_c hA.2.1 h2' (by omega) hix (by rw [hgd]; exact hq) (thn_2 hA.2.1 (by omega) (by omega))⟩
      · have back : ¬ (∀ j, i ≤ j → j ≤ 16 → ¬ ((ta 1).getD j 0).toInt = -4 → (j : Int) ≤ (tf 0).toInt ∧ ((ta 1).getD j 0).toInt < (tf 1).toInt) := fun h => r1 (fun j j1 j2 j3 => h j (by omega) j2 j3)
        refine Or.inr ⟨back, ?_⟩
        by_cases hq : ((ta 1).getD i 0).toInt = -4
        · exact tnw_a hA.2.1 h2' (by omega) hix (by rw [hgd]; exact hq) (by rw [← nI_succ]; exact r2)
        · have hr := (hP i h1 (by omega)).resolve_left hq
          by_cases hn : (i : Int) ≤ (tf 0).toInt
          · have gn : Go X d mt_101 (ex_ent mt_101 [.ref dr, .int (nI i)]) w (some (.int 1), w) := thn_4 hA.2.1 (by omega) (by omega) (by omega)
            rcases tw_mat (X := X) (d := d) hA h4 hr.1 with ⟨m1, g⟩ | ⟨m1, g⟩
            · exact tnw_b hA.2.1 h2' (by omega) hix (by rw [hgd]; exact hq) gn hix (by rw [hgd]; exact g) (by rw [← nI_succ]; exact r2)
            · exact tnw_d hA.2.1 h2' (by omega) hix (by rw [hgd]; exact hq) gn hix (by rw [hgd]; exact g)
          · exact tnw_c hA.2.1 h2' (by omega) hix (by rw [hgd]; exact hq) (thn_2 hA.2.1 (by omega) (by omega))
theorem tw_dy (hA : cA w dr B tf ta) (l2 : (ta 2).length = 60) {dn : Nat} (hd : tf 5 = nI dn) (hdn : dn ≤ 60) : ∀ (f i : Nat), dn - i ≤ f → i ≤ dn → ((∀ j, i ≤ j → j < dn → ((ta 2).getD j 0).toInt ≤ (tf 0).toInt) ∧ ∀ q, Go X d mt_157 (87, [some (.ref dr), some (.int 0)], []) w q → Go X d mt_157 (50, [some (.ref dr), some (.int (nI i))], []) w q) ∨ (¬ (∀ j, i ≤ j → j < dn → ((ta 2).getD j 0).toInt ≤ (tf 0).toInt) ∧ Go X d mt_157 (50, [some (.ref dr), some (.int (nI i))], []) w (some (.int 0), w)) := by
  have ed : (tf 5).toInt = (dn : Int) := by rw [hd]; exact nI_toInt (by omega)
  intro f
  induction f with
  | zero =>
    intro i hf h1
    have ei : (nI i).toInt = (i : Int) := nI_toInt (by omega)
    exact Or.inl ⟨fun j j1 j2 => by omega, fun q kk => tnw_h hA.2.1 (by omega) kk⟩
  | succ f ih =>
    intro i hf h1
    have ei : (nI i).toInt = (i : Int) := nI_toInt (by omega)
    by_cases he : i = dn
    · exact Or.inl ⟨fun j j1 j2 => by omega, fun q kk => tnw_h hA.2.1 (by omega) kk⟩
    · have hix : ex_ix (nI i) (ta 2).length = true := by rw [l2]; exact fp_ix (by omega) (by decide)
      have hgd : ex_gd (ta 2) (Int32.toNatClampNeg (nI i)) = (ta 2).getD i 0 := fp_gd (by omega)
      have h2' := hA.2.2 2 (by decide)
      by_cases hq : ((ta 2).getD i 0).toInt ≤ (tf 0).toInt
      · rcases ih (i + 1) (by omega) (by omega) with ⟨r1, r2⟩ | ⟨r1, r2⟩
        · refine Or.inl ⟨fun j j1 j2 => ?_, fun q kk => tnw_f hA.2.1 h2' (by omega) (by omega) hix (by rw [hgd]; exact hq) (by rw [← nI_succ]; exact r2 q kk)⟩
          by_cases e : j = i
          · rw [e]; exact hq
          · exact r1 j (by omega) j2
        · exact Or.inr ⟨fun h => r1 (fun j j1 j2 => h j (by omega) j2), tnw_f hA.2.1 h2' (by omega) (by omega) hix (by rw [hgd]; exact hq) (by rw [← nI_succ]; exact r2)⟩
      · exact Or.inr ⟨fun h => hq (h i (by omega) (by omega)), tnw_g hA.2.1 h2' (by omega) (by omega) hix (by rw [hgd]; omega)⟩
theorem tw_as (hA : cA w dr B tf ta) (l3 : (ta 3).length = 5) (h4 : (tf 1).toInt ≤ 4) {an : Nat} (hd : tf 6 = nI an) (hdn : an ≤ 5) (h0 : ∀ j, j < an → 0 ≤ ((ta 3).getD j 0).toInt) : ∀ (f i : Nat), an - i ≤ f → i ≤ an → ((∀ j, i ≤ j → j < an → ((ta 3).getD j 0).toInt < (tf 1).toInt) ∧ ∀ q, Go X (d + 1) mt_157 (123, [some (.ref dr), some (.int 0)], []) w q → Go X (d + 1) mt_157 (87, [some (.ref dr), some (.int (nI i))], []) w q) ∨ (¬ (∀ j, i ≤ j → j < an → ((ta 3).getD j 0).toInt < (tf 1).toInt) ∧ Go X (d + 1) mt_157 (87, [some (.ref dr), some (.int (nI i))], []) w (some (.int 0), w)) := by
  have ed : (tf 6).toInt = (an : Int) := by rw [hd]; exact nI_toInt (by omega)
  intro f
  induction f with
  | zero =>
    intro i hf h1
    have ei : (nI i).toInt = (i : Int) := nI_toInt (by omega)
    exact Or.inl ⟨fun j j1 j2 => by omega, fun q kk => tnw_k hA.2.1 (by omega) kk⟩
  | succ f ih =>
    intro i hf h1
    have ei : (nI i).toInt = (i : Int) := nI_toInt (by omega)
    by_cases he : i = an
    · exact Or.inl ⟨fun j j1 j2 => by omega, fun q kk => tnw_k hA.2.1 (by omega) kk⟩
    · have hix : ex_ix (nI i) (ta 3).length = true := by rw [l3]; exact fp_ix (by omega) (by decide)
      have hgd : ex_gd (ta 3) (Int32.toNatClampNeg (nI i)) = (ta 3).getD i 0 := fp_gd (by omega)
      have h2' := hA.2.2 3 (by decide)
      rcases tw_mat (X := X) (d := d) hA h4 (h0 i (by omega)) with ⟨hq, g⟩ | ⟨hq, g⟩
      · rcases ih (i + 1) (by omega) (by omega) with ⟨r1, r2⟩ | ⟨r1, r2⟩
        · refine Or.inl ⟨fun j j1 j2 => ?_, fun q kk => tnw_i hA.2.1 h2' (by omega) (by omega) hix (by rw [hgd]; exact g) (by rw [← nI_succ]; exact r2 q kk)⟩
          by_cases e : j = i
          · rw [e]; exact hq
          · exact r1 j (by omega) j2
        · exact Or.inr ⟨fun h => r1 (fun j j1 j2 => h j (by omega) j2), tnw_i hA.2.1 h2' (by omega) (by omega) hix (by rw [hgd]; exact g) (by rw [← nI_succ]; exact r2)⟩
      · exact Or.inr ⟨fun h => hq (h i (by omega) (by omega)), tnw_j hA.2.1 h2' (by omega) (by omega) hix (by rw [hgd]; exact g)⟩
theorem tw_wt (hA : cA w dr B tf ta) (l4 : (ta 4).length = 4) (h4 : (tf 1).toInt ≤ 4) {wn : Nat} (hd : tf 7 = nI wn) (hdn : wn ≤ 4) (h0 : ∀ j, j < wn → 0 ≤ ((ta 4).getD j 0).toInt) : ∀ (f i : Nat), wn - i ≤ f → i ≤ wn → ((∀ j, i ≤ j → j < wn → ((ta 4).getD j 0).toInt < (tf 1).toInt) ∧ Go X (d + 1) mt_157 (123, [some (.ref dr), some (.int (nI i))], []) w (some (.int 1), w)) ∨ (¬ (∀ j, i ≤ j → j < wn → ((ta 4).getD j 0).toInt < (tf 1).toInt) ∧ Go X (d + 1) mt_157 (123, [some (.ref dr), some (.int (nI i))], []) w (some (.int 0), w)) := by
  have ed : (tf 7).toInt = (wn : Int) := by rw [hd]; exact nI_toInt (by omega)
  intro f
  induction f with
  | zero =>
    intro i hf h1
    have ei : (nI i).toInt = (i : Int) := nI_toInt (by omega)
    exact Or.inl ⟨fun j j1 j2 => by omega, tnw_n hA.2.1 (by omega)⟩
  | succ f ih =>
    intro i hf h1
    have ei : (nI i).toInt = (i : Int) := nI_toInt (by omega)
    by_cases he : i = wn
    · exact Or.inl ⟨fun j j1 j2 => by omega, tnw_n hA.2.1 (by omega)⟩
    · have hix : ex_ix (nI i) (ta 4).length = true := by rw [l4]; exact fp_ix (by omega) (by decide)
      have hgd : ex_gd (ta 4) (Int32.toNatClampNeg (nI i)) = (ta 4).getD i 0 := fp_gd (by omega)
      have h2' := hA.2.2 4 (by decide)
      rcases tw_mat (X := X) (d := d) hA h4 (h0 i (by omega)) with ⟨hq, g⟩ | ⟨hq, g⟩
      · rcases ih (i + 1) (by omega) (by omega) with ⟨r1, r2⟩ | ⟨r1, r2⟩
        · refine Or.inl ⟨fun j j1 j2 => ?_, tnw_l hA.2.1 h2' (by omega) (by omega) hix (by rw [hgd]; exact g) (by rw [← nI_succ]; exact r2)⟩
          by_cases e : j = i
          · rw [e]; exact hq
          · exact r1 j (by omega) j2
        · exact Or.inr ⟨fun h => r1 (fun j j1 j2 => h j (by omega) j2), tnw_l hA.2.1 h2' (by omega) (by omega) hix (by rw [hgd]; exact g) (by rw [← nI_succ]; exact r2)⟩
      · exact Or.inr ⟨fun h => hq (h i (by omega) (by omega)), tnw_m hA.2.1 h2' (by omega) (by omega) hix (by rw [hgd]; exact g)⟩
/-- namesWhatIs, against the two highest -/
theorem tw_names {dm dt hn hm : Int32} {DR DW : List Int32} {dn an wn : Nat} (hA : cA w dr B tf ta) (hR : Rl tf ta dm dt hn hm DR DW dn an wn) : ((hn.toInt ≤ dm.toInt ∧ hm.toInt < dt.toInt) ∧ Go X (d + 1) mt_157 (ex_ent mt_157 [.ref dr]) w (some (.int 1), w)) ∨ (¬ (hn.toInt ≤ dm.toInt ∧ hm.toInt < dt.toInt) ∧ Go X (d + 1) mt_157 (ex_ent mt_157 [.ref dr]) w (some (.int 0), w)) := by
  obtain ⟨⟨l0, l1, l2, l3, l4, l5, l6, l7⟩, hS, -, hP, -, hAs, hV, hN, hM⟩ := hR
  obtain ⟨s1, s2, s3, s4, s5, s6, s7, s8, s9, s10, s11, s12, s13, s14, s15, s16, s17, s18⟩ := hS
  subst s1
  subst s2
  rw [hN _ s15, hM _ s17]
  have iff1 : ∀ {P1 P2 P3 P4 Q1 Q2 : Prop}, P1 → P2 → P3 → P4 → (P1 → Q1 ∧ Q2) → ((Q1 ∧ P2) ∧ Q2 ∧ P3 ∧ P4) := fun a b c e h => ⟨⟨(h a).1, b⟩, (h a).2, c, e⟩
  have sp : (∀ j, 1 ≤ j → j ≤ 16 → ¬ ((ta 1).getD j 0).toInt = -4 → (j : Int) ≤ (tf 0).toInt ∧ ((ta 1).getD j 0).toInt < (tf 1).toInt) → (∀ i, 1 ≤ i → i ≤ 16 → ¬ ((ta 1).getD i 0).toInt = -4 → (i : Int) ≤ (tf 0).toInt) ∧ (∀ i, 1 ≤ i → i ≤ 16 → ((ta 1).getD i 0).toInt < (tf 1).toInt) := fun h => ⟨fun i i1 i2 i3 => (h i i1 i2 i3).1, fun i i1 i2 => by
    by_cases e : ((ta 1).getD i 0).toInt = -4
    · omega
    · exact (h i i1 i2 e).2⟩
  have go0 : ∀ q, Go X (d + 1) mt_157 (2, [some (.ref dr), some (.int (nI 1))], []) w q → Go X (d + 1) mt_157 (ex_ent mt_157 [.ref dr]) w q := fun q kk => tnw_0 kk
  rcases tw_pg (X := X) (d := d) hA l1 s18 (fun i i1 i2 => (hP i i1 i2).2) 17 1 (by omega) (by omega) (by omega) with ⟨a1, g1⟩ | ⟨a1, g1⟩
  · rcases tw_dy (X := X) (d := d + 1) hA l2 s6 s12 60 0 (by omega) (by omega) with ⟨a2, g2⟩ | ⟨a2, g2⟩
    · rcases tw_as (X := X) (d := d) hA l3 s18 s8 s13 (fun j hj => (hAs j hj).2) 5 0 (by omega) (by omega) with ⟨a3, g3⟩ | ⟨a3, g3⟩
      · rcases tw_wt (X := X) (d := d) hA l4 s18 s10 s14 (fun j hj => (hV j hj).2.2) 4 0 (by omega) (by omega) with ⟨a4, g4⟩ | ⟨a4, g4⟩
        · exact Or.inl ⟨iff1 a1 (fun i hi => a2 i (by omega) hi) (fun i hi => a3 i (by omega) hi) (fun i hi => a4 i (by omega) hi) sp, go0 _ (g1 _ (g2 _ (g3 _ g4)))⟩
        · exact Or.inr ⟨fun h => a4 (fun j _ hj => h.2.2.2 j hj), go0 _ (g1 _ (g2 _ (g3 _ g4)))⟩
      · exact Or.inr ⟨fun h => a3 (fun j _ hj => h.2.2.1 j hj), go0 _ (g1 _ (g2 _ g3))⟩
    · exact Or.inr ⟨fun h => a2 (fun j _ hj => h.1.2 j hj), go0 _ (g1 _ g2)⟩
  · exact Or.inr ⟨fun h => a1 (fun j j1 j2 j3 => ⟨h.1.1 j j1 j2 j3, h.2.1 j j1 j2⟩), go0 _ g1⟩
end TN
