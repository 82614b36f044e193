/-! takeBack OF THE CLASS. -/
theorem al_back {X : List Int32} {d t m : Nat} {w : ex_W} {R : Nat → Int} (h : alR w t (m + 1) R) : ∃ w', Go X d mt_170 (ex_ent mt_170 [.ref 17]) w (none, w') ∧ alR w' t m R ∧ ∀ q, ¬ (17 ≤ q ∧ q ≤ 20) → ex_at w' q = ex_at w q := by
  obtain ⟨RU, LB, LA, a1, a2, a3, a4, l1, l2, l3, l4, hR, hL, hB⟩ := h
  have em : (nI (m + 1)).toInt = ((m + 1 : Nat) : Int) := nI_toInt (by omega)
  have o1 : (1 : Int32).toInt = 1 := by decide
  have es : nI (m + 1) - 1 = nI m := by
    apply Int32.toInt_inj.mp
    rw [tI_sub (by rw [em, o1]; omega) (by rw [em, o1]; omega), em, o1, nI_toInt (by omega)]
    omega
  obtain ⟨r1, r2, r3⟩ := hR m (by omega)
  have er : RU.getD m 0 = nI (R m).toNat := tI_nI (by omega) (by omega)
  have ixm : ex_ix (nI (m + 1) - 1) RU.length = true := by rw [es, l1]; exact fp_ix (by omega) (by decide)
  have ixb : ex_ix (nI (m + 1) - 1) LB.length = true := by rw [es, l2]; exact fp_ix (by omega) (by decide)
  have gr : ex_gd RU (Int32.toNatClampNeg (nI (m + 1) - 1)) = nI (R m).toNat := by rw [es, nI_clamp (by omega), ex_gd_eq]; exact er
  have gb : ex_gd LB (Int32.toNatClampNeg (nI (m + 1) - 1)) = LB.getD m 0 := by rw [es, nI_clamp (by omega), ex_gd_eq]
  have g := tk_1 (X := X) (d := d) a1 a2 a3 a4 (by rw [em]; omega) ixm ixb (by rw [gr, l3]; exact fp_ix (by omega) (by decide))
  rw [gr, gb, nI_clamp (by omega), es] at g
  refine ⟨_, g, ⟨RU, LB, _, vg_at_o rfl (vg_at_put a1), vg_at_o rfl (vg_at_o rfl a2), vg_at_o rfl (vg_at_o rfl a3), vg_at_put (vg_at_o rfl a4), l1, l2, by rw [rl_len]; exact l3, by omega, fun i hi => hR i (by omega), fun n hn => ?_, fun i hi => hB i (by omega)⟩, fun q hq => ?_⟩
  · by_cases e : n = (R m).toNat
    · rw [e, rl_x (by omega), hB m (by omega), show (((R m).toNat : Nat) : Int) = R m by omega]
    · rw [rl_w e, hL n hn]
      show (if R m = (n : Int) then (m : Int) else lst R n m) = lst R n m
      rw [if_neg (by omega)]
  · rw [vg_at_ne (sh_beq (by omega)), vg_at_ne (sh_beq (by omega))]
