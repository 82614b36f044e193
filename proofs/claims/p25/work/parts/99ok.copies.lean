/-! copies OF THE REFERENCE. -/
section CP
variable {X : List Int32} {d a b : Nat} {fs5 : List Value}
theorem cp_loop (ha : a + 96 ≤ 288) (hb : b + 96 ≤ 288) (hab : a + 96 ≤ b ∨ b + 96 ≤ a) (f0 : ex_at fs5 0 = some (.ref 60)) (f1 : ex_at fs5 1 = some (.ref 61)) : ∀ (f i : Nat) (w : ex_W) (ST : List Int32), 96 - i ≤ f → i ≤ 96 → ST.length = 288 → ex_at w 59 = some (.inr (.inr (8, fs5))) → ex_at w 60 = some (.inl (.int, ST)) → ∃ ST', ST'.length = 288 ∧ (∀ j, ST'.getD j 0 = if a + i ≤ j ∧ j < a + 96 then ST.getD (b + (j - a)) 0 else ST.getD j 0) ∧ Go X d mt_145 (2, [some (.ref 59), some (.int (nI a)), some (.int (nI b)), some (.int (nI i))], []) w (none, ex_put w 60 (.inl (.int, ST'))) := by
  have stop : ∀ (i : Nat) (w : ex_W) (ST : List Int32), i = 96 → ST.length = 288 → ex_at w 60 = some (.inl (.int, ST)) → ∃ ST', ST'.length = 288 ∧ (∀ j, ST'.getD j 0 = if a + i ≤ j ∧ j < a + 96 then ST.getD (b + (j - a)) 0 else ST.getD j 0) ∧ Go X d mt_145 (2, [some (.ref 59), some (.int (nI a)), some (.int (nI b)), some (.int (nI i))], []) w (none, ex_put w 60 (.inl (.int, ST'))) := by
    intro i w ST hi hl h60
    have ei : (nI i).toInt = (i : Int) := nI_toInt (by omega)
    refine ⟨ST, hl, fun j => by rw [if_neg (by omega)], ?_⟩
    rw [fp_put_id h60]
    exact jcp_b (by omega)
  intro f
  induction f with
  | zero => exact fun i w ST hf hi hl _ h60 => stop i w ST (by omega) hl h60
  | succ f ih =>
    intro i w ST hf hi hl h59 h60
    by_cases h96 : i = 96
    · exact stop i w ST h96 hl h60
    · have ei : (nI i).toInt = (i : Int) := nI_toInt (by omega)
      have ea : nI a + nI i = nI (a + i) := nI_add a i
      have eb : nI b + nI i = nI (b + i) := nI_add b i
      have ca : Int32.toNatClampNeg (nI (a + i)) = a + i := nI_clamp (by omega)
      have cb : Int32.toNatClampNeg (nI (b + i)) = b + i := nI_clamp (by omega)
      obtain ⟨ST', k1, k2, k3⟩ := ih (i + 1) (ex_put w 60 (.inl (.int, ex_put ST (a + i) (ST.getD (b + i) 0)))) (ex_put ST (a + i) (ST.getD (b + i) 0)) (by omega) (by omega) (by rw [rl_len]; exact hl) (vg_at_o rfl h59) (vg_at_put h60)
      refine ⟨ST', k1, fun j => ?_, ?_⟩
      · rw [k2 j]
        by_cases h1 : a + (i + 1) ≤ j ∧ j < a + 96
        · rw [if_pos h1, if_pos (by omega), rl_w (by omega)]
        · rw [if_neg h1]
          by_cases h2 : a + i = j
          · subst h2
            rw [rl_x (by omega), if_pos (by omega), show a + i - a = i by omega]
          · rw [rl_w (fun e => h2 e.symm), if_neg (by omega)]
      · rw [fp_put2, nI_succ] at k3
        refine jcp_a h59 f0 f1 h60 (by omega) (by rw [eb, hl]; exact fp_ix (by omega) (by decide)) (by rw [ea, hl]; exact fp_ix (by omega) (by decide)) ?_
        rw [ea, eb, ca, cb, ex_gd_eq]
        exact k3
theorem cp_all {w : ex_W} {ST : List Int32} (ha : a + 96 ≤ 288) (hb : b + 96 ≤ 288) (hab : a + 96 ≤ b ∨ b + 96 ≤ a) (f0 : ex_at fs5 0 = some (.ref 60)) (f1 : ex_at fs5 1 = some (.ref 61)) (hl : ST.length = 288) (h59 : ex_at w 59 = some (.inr (.inr (8, fs5)))) (h60 : ex_at w 60 = some (.inl (.int, ST))) : ∃ ST', ST'.length = 288 ∧ (∀ j, ST'.getD j 0 = if a ≤ j ∧ j < a + 96 then ST.getD (b + (j - a)) 0 else ST.getD j 0) ∧ Go X d mt_145 (ex_ent mt_145 [.ref 59, .int (nI a), .int (nI b)]) w (none, ex_put w 60 (.inl (.int, ST'))) := by
  obtain ⟨ST', k1, k2, k3⟩ := cp_loop (X := X) (d := d) ha hb hab f0 f1 96 0 w ST (by omega) (by omega) hl h59 h60
  exact ⟨ST', k1, fun j => by rw [k2 j]; rfl, jcp_0 k3⟩
end CP
