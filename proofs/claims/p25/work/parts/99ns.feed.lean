/-! feed OF BOTH: the tape's bytes. -/
theorem ex_run_d {X : List Int32} : ∀ (n d : Nat) (M : ex_M) (f : ex_F) (w : ex_W) (q : Option Value × ex_W), ex_run X n d M f w = some q → ex_run X n (d + 1) M f w = some q := by
  intro n
  induction n with
  | zero => intro d M f w q h; cases h
  | succ n ih =>
    intro d M f w q h
    rw [ex_run_s] at h ⊢
    unfold ex_nxt at h ⊢
    split at h
    · cases h
    · exact ih _ _ _ _ _ h
    · split at h
      · split at h
        · next hl =>
          split at h
          · next r w' h1 =>
            have e1 := ih _ _ _ _ _ h1
            have e2 := ih _ _ _ _ _ h
            simp_all
          · cases h
        · cases h
      · cases h
    · exact h
theorem Go.up {X : List Int32} {d : Nat} {M : ex_M} {f : ex_F} {w : ex_W} {q : Option Value × ex_W} (h : Go X d M f w q) : Go X (d + 1) M f w q := by
  obtain ⟨n, hn⟩ := h
  exact ⟨n, ex_run_d _ _ _ _ _ _ hn⟩
/-- a byte of the class, a number of the reference -/
def byR (a b : Int32) : Prop := 0 ≤ b.toInt ∧ b.toInt < 256 ∧ ((b.toInt < 128 ∧ a.toInt = b.toInt) ∨ (128 ≤ b.toInt ∧ a.toInt = b.toInt - 256))
def tpR (w : ex_W) : Prop := ∃ n B T fs fs5, ex_at w 15 = some (.inr (.inr (5, fs))) ∧ ex_at fs 1 = some (.int (nI n)) ∧ ex_at w 16 = some (.inl (.byte, B)) ∧ ex_at w 59 = some (.inr (.inr (8, fs5))) ∧ ex_at fs5 15 = some (.int (nI n)) ∧ ex_at w 66 = some (.inl (.int, T)) ∧ n ≤ 400 ∧ B.length = 400 ∧ T.length = 400 ∧ ∀ i, i < n → byR (B.getD i 0) (T.getD i 0)
/-- what a shift leaves -/
noncomputable def cv (v : Int64) (s : Int32) : Int32 := ex_nar .byte ((Int64.toInt32 (((Int64.toUInt64 v) >>> ((Int64.toUInt64 (Int32.toInt64 s)) &&& Int64.toUInt64 63)).toInt64)).toInt8.toInt32)
noncomputable def rv (v : Int64) (s : Int32) : Int32 := Int64.toInt32 ((v >>> ((Int32.toInt64 s) &&& 63)) &&& 255)
theorem by_y (y : BitVec 8) (a b : Int32) (ha : a.toInt = y.toInt) (hb : b.toInt = (y.toNat : Int)) : byR a b := by
  have h := y.isLt
  have e := BitVec.toInt_eq_toNat_cond y
  unfold byR
  rw [ha, hb, e]
  by_cases h2 : 2 * y.toNat < 2 ^ 8
  · rw [if_pos h2]
    omega
  · rw [if_neg h2]
    omega
theorem by_sr (x : BitVec 64) {k : Nat} (hk : k ≤ 56) : (x.sshiftRight k).setWidth 8 = (x >>> k).setWidth 8 := by
  apply BitVec.eq_of_getLsbD_eq
  intro i hi
  rw [BitVec.getLsbD_setWidth, BitVec.getLsbD_setWidth, BitVec.getLsbD_sshiftRight, BitVec.getLsbD_ushiftRight]
  have h1 : k + i < 64 := by omega
  have h2 : ¬ 64 ≤ i := by omega
  simp [h1, h2]
theorem by_cv (v : Int64) (s : Int32) (k : Nat) (hk : k ≤ 56) (h1 : ((Int64.toUInt64 (Int32.toInt64 s)) &&& Int64.toUInt64 63) = UInt64.ofNat k) : (cv v s).toInt = ((v.toBitVec >>> k).setWidth 8).toInt := by
  unfold cv
  rw [h1]
  show Int32.toInt (vp_nar .byte _) = _
  rw [pk_vb, Int64.toInt8_toInt32, Int8.toInt_toInt32]
  show BitVec.toInt (BitVec.signExtend 8 (v.toBitVec >>> ((UInt64.ofNat k).toBitVec % 64#64))) = _
  have e : ((UInt64.ofNat k).toBitVec % 64#64).toNat = k := by
    rw [BitVec.toNat_umod]
    show (k % 2 ^ 64) % 64 = k
    omega
  rw [BitVec.signExtend_eq_setWidth_of_le _ (by decide), BitVec.ushiftRight_eq', e]
theorem by_rv (v : Int64) (s : Int32) (k : Nat) (hk : k ≤ 56) (h1 : (Int32.toInt64 s) &&& 63 = Int64.ofNat k) (hs : ((Int64.ofNat k).toBitVec.smod 64#64).toNat = k) : (rv v s).toInt = (((v.toBitVec >>> k).setWidth 8).toNat : Int) := by
  unfold rv
  rw [h1]
  show BitVec.toInt (BitVec.signExtend 32 ((v.toBitVec.sshiftRight' ((Int64.ofNat k).toBitVec.smod 64#64)) &&& 255#64)) = _
  rw [BitVec.sshiftRight_eq', hs, BitVec.signExtend_eq_setWidth_of_le _ (by decide)]
  have hn : (((v.toBitVec.sshiftRight k) &&& 255#64).setWidth 32).toNat = ((v.toBitVec >>> k).setWidth 8).toNat := by
    rw [← by_sr _ hk, BitVec.toNat_setWidth, BitVec.toNat_setWidth, BitVec.toNat_and]
    show ((v.toBitVec.sshiftRight k).toNat &&& 255) % 2 ^ 32 = (v.toBitVec.sshiftRight k).toNat % 2 ^ 8
    rw [show (255 : Nat) = 2 ^ 8 - 1 by decide, Nat.and_two_pow_sub_one_eq_mod]
    omega
  rw [BitVec.toInt_eq_toNat_of_lt (by rw [hn]; have := ((v.toBitVec >>> k).setWidth 8).isLt; omega), hn]
theorem by_i (v : Int64) : ∀ i, i < 8 → byR (cv v ((56 : Int32) - ((8 : Int32) * nI i))) (rv v (nI (56 - 8 * i))) := by
  intro i hi
  have key : ∀ k : Nat, k ≤ 56 → ((Int64.toUInt64 (Int32.toInt64 ((56 : Int32) - ((8 : Int32) * nI i)))) &&& Int64.toUInt64 63) = UInt64.ofNat k → (Int32.toInt64 (nI (56 - 8 * i))) &&& 63 = Int64.ofNat k → ((Int64.ofNat k).toBitVec.smod 64#64).toNat = k → byR (cv v ((56 : Int32) - ((8 : Int32) * nI i))) (rv v (nI (56 - 8 * i))) := fun k hk h1 h2 h3 => by_y _ _ _ (by_cv v _ k hk h1) (by_rv v _ k hk h2 h3)
  match i, hi with
  | 0, _ => exact key 56 (by omega) (by decide) (by decide) (by decide)
  | 1, _ => exact key 48 (by omega) (by decide) (by decide) (by decide)
  | 2, _ => exact key 40 (by omega) (by decide) (by decide) (by decide)
  | 3, _ => exact key 32 (by omega) (by decide) (by decide) (by decide)
  | 4, _ => exact key 24 (by omega) (by decide) (by decide) (by decide)
  | 5, _ => exact key 16 (by omega) (by decide) (by decide) (by decide)
  | 6, _ => exact key 8 (by omega) (by decide) (by decide) (by decide)
  | 7, _ => exact key 0 (by omega) (by decide) (by decide) (by decide)
section FE
variable {X : List Int32} {d n : Nat} {vl : Int64} {w : ex_W} {fs fs5 : List Value} {B T : List Int32}
theorem fe_c (hn : n + 8 ≤ 400) (f0 : ex_at fs 0 = some (.ref 16)) (f1 : ex_at fs 1 = some (.int (nI n))) : ∀ (f i : Nat) (w : ex_W) (B : List Int32), 8 - i ≤ f → i ≤ 8 → B.length = 400 → ex_at w 15 = some (.inr (.inr (5, fs))) → ex_at w 16 = some (.inl (.byte, B)) → ∃ B', B'.length = 400 ∧ (∀ j, B'.getD j 0 = if n + i ≤ j ∧ j < n + 8 then cv vl ((56 : Int32) - ((8 : Int32) * nI (j - n))) else B.getD j 0) ∧ Go X d mt_92 (24, [some (.ref 15), some (.long vl), none, some (.int (nI i))], []) w (some (.int 1), ex_put (ex_put w 16 (.inl (.byte, B'))) 15 (.inr (.inr (5, ex_put fs 1 (.int (nI n + 8)))))) := by
  have stop : ∀ (i : Nat) (w : ex_W) (B : List Int32), i = 8 → B.length = 400 → ex_at w 15 = some (.inr (.inr (5, fs))) → ex_at w 16 = some (.inl (.byte, B)) → ∃ B', B'.length = 400 ∧ (∀ j, B'.getD j 0 = if n + i ≤ j ∧ j < n + 8 then cv vl ((56 : Int32) - ((8 : Int32) * nI (j - n))) else B.getD j 0) ∧ Go X d mt_92 (24, [some (.ref 15), some (.long vl), none, some (.int (nI i))], []) w (some (.int 1), ex_put (ex_put w 16 (.inl (.byte, B'))) 15 (.inr (.inr (5, ex_put fs 1 (.int (nI n + 8)))))) := by
    intro i w B hi hl h15 h16
    have ei : (nI i).toInt = (i : Int) := nI_toInt (by omega)
    refine ⟨B, hl, fun j => by rw [if_neg (by omega)], ?_⟩
    rw [fp_put_id h16]
    exact tfd_b h15 f0 f1 (by omega)
  intro f
  induction f with
  | zero => exact fun i w B hf hi hl h15 h16 => stop i w B (by omega) hl h15 h16
  | succ f ih =>
    intro i w B hf hi hl h15 h16
    by_cases h8 : i = 8
    · exact stop i w B h8 hl h15 h16
    · have ei : (nI i).toInt = (i : Int) := nI_toInt (by omega)
      have ea : nI n + nI i = nI (n + i) := nI_add n i
      have hc : Int32.toNatClampNeg (nI (n + i)) = n + i := nI_clamp (by omega)
      obtain ⟨B', k1, k2, k3⟩ := ih (i + 1) (ex_put w 16 (.inl (.byte, ex_put B (n + i) (cv vl ((56 : Int32) - ((8 : Int32) * nI i)))))) (ex_put B (n + i) (cv vl ((56 : Int32) - ((8 : Int32) * nI i)))) (by omega) (by omega) (by rw [rl_len]; exact hl) (vg_at_o rfl h15) (vg_at_put h16)
      refine ⟨B', k1, fun j => ?_, ?_⟩
      · rw [k2 j]
        by_cases h1 : n + (i + 1) ≤ j ∧ j < n + 8
        · rw [if_pos h1, if_pos (by omega)]
        · rw [if_neg h1]
          by_cases h2 : n + i = j
          · subst h2
            rw [rl_x (by omega), if_pos (by omega), show n + i - n = i by omega]
          · rw [rl_w (fun e => h2 e.symm), if_neg (by omega)]
      · rw [fp_put2, nI_succ] at k3
        refine tfd_a h15 f0 f1 h16 (by omega) (by rw [ea, hl]; exact fp_ix (by omega) (by decide)) ?_
        rw [ea, hc]
        exact k3
theorem fe_r (hn : n + 8 ≤ 400) : ∀ (f i : Nat) (w : ex_W) (T : List Int32) (fs5 : List Value), 8 - i ≤ f → i ≤ 8 → T.length = 400 → ex_at w 59 = some (.inr (.inr (8, fs5))) → ex_at fs5 14 = some (.ref 66) → ex_at fs5 15 = some (.int (nI (n + i))) → ex_at w 66 = some (.inl (.int, T)) → ∃ T' w' fs', T'.length = 400 ∧ (∀ j, T'.getD j 0 = if n + i ≤ j ∧ j < n + 8 then rv vl (nI (56 - 8 * (j - n))) else T.getD j 0) ∧ Go X d mt_4 (19, [some (.ref 59), some (.long vl), none, some (.int (if i = 8 then Int32.ofInt (-8) else nI (56 - 8 * i)))], []) w (some (.int (nI (n + 8))), w') ∧ ex_at w' 59 = some (.inr (.inr (8, fs'))) ∧ ex_at fs' 15 = some (.int (nI (n + 8))) ∧ ex_at w' 66 = some (.inl (.int, T')) ∧ (∀ q, q ≠ 59 → q ≠ 66 → ex_at w' q = ex_at w q) := by
  have stop : ∀ (i : Nat) (w : ex_W) (T : List Int32) (fs5 : List Value), i = 8 → T.length = 400 → ex_at w 59 = some (.inr (.inr (8, fs5))) → ex_at fs5 14 = some (.ref 66) → ex_at fs5 15 = some (.int (nI (n + i))) → ex_at w 66 = some (.inl (.int, T)) → ∃ T' w' fs', T'.length = 400 ∧ (∀ j, T'.getD j 0 = if n + i ≤ j ∧ j < n + 8 then rv vl (nI (56 - 8 * (j - n))) else T.getD j 0) ∧ Go X d mt_4 (19, [some (.ref 59), some (.long vl), none, some (.int (if i = 8 then Int32.ofInt (-8) else nI (56 - 8 * i)))], []) w (some (.int (nI (n + 8))), w') ∧ ex_at w' 59 = some (.inr (.inr (8, fs'))) ∧ ex_at fs' 15 = some (.int (nI (n + 8))) ∧ ex_at w' 66 = some (.inl (.int, T')) ∧ (∀ q, q ≠ 59 → q ≠ 66 → ex_at w' q = ex_at w q) := by
    intro i w T fs5 hi hl h59 g14 g15 h66
    subst hi
    refine ⟨T, w, fs5, hl, fun j => by rw [if_neg (by omega)], ?_, h59, g15, h66, fun _ _ _ => rfl⟩
    rw [if_pos rfl]
    exact rfe_b h59 g14 g15 (by decide)
  intro f
  induction f with
  | zero => exact fun i w T fs5 hf hi hl h59 g14 g15 h66 => stop i w T fs5 (by omega) hl h59 g14 g15 h66
  | succ f ih =>
    intro i w T fs5 hf hi hl h59 g14 g15 h66
    by_cases h8 : i = 8
    · exact stop i w T fs5 h8 hl h59 g14 g15 h66
    · have ei : (nI (56 - 8 * i)).toInt = ((56 - 8 * i : Nat) : Int) := nI_toInt (by omega)
      have hc : Int32.toNatClampNeg (nI (n + i)) = n + i := nI_clamp (by omega)
      obtain ⟨T', w', fs', k1, k2, k3, k4, k5, k6, k7⟩ := ih (i + 1) (ex_put (ex_put w 66 (.inl (.int, ex_put T (n + i) (rv vl (nI (56 - 8 * i)))))) 59 (.inr (.inr (8, ex_put fs5 15 (.int (nI (n + i) + 1)))))) (ex_put T (n + i) (rv vl (nI (56 - 8 * i)))) (ex_put fs5 15 (.int (nI (n + i) + 1))) (by omega) (by omega) (by rw [rl_len]; exact hl) (vg_at_put (vg_at_o rfl h59)) (vg_at_o rfl g14) (by rw [show n + (i + 1) = n + i + 1 by omega, nI_succ]; exact vg_at_put g15) (vg_at_o rfl (vg_at_put h66))
      refine ⟨T', w', fs', k1, fun j => ?_, ?_, k4, k5, k6, fun q q1 q2 => (k7 q q1 q2).trans ((vg_at_ne (sh_beq (fun e => q1 e.symm))).trans (vg_at_ne (sh_beq (fun e => q2 e.symm))))⟩
      · rw [k2 j]
        by_cases h1 : n + (i + 1) ≤ j ∧ j < n + 8
        · rw [if_pos h1, if_pos (by omega)]
        · rw [if_neg h1]
          by_cases h2 : n + i = j
          · subst h2
            rw [rl_x (by omega), if_pos (by omega), show n + i - n = i by omega]
          · rw [rl_w (fun e => h2 e.symm), if_neg (by omega)]
      · rw [if_neg h8]
        refine rfe_a h59 g14 g15 h66 (by omega) (by rw [hl]; exact fp_ix (by omega) (by decide)) ?_
        rw [hc]
        have es : nI (56 - 8 * i) + Int32.ofInt (-8) = (if i + 1 = 8 then Int32.ofInt (-8) else nI (56 - 8 * (i + 1))) := by
          match i, (show i < 8 by omega) with
          | 0, _ => decide
          | 1, _ => decide
          | 2, _ => decide
          | 3, _ => decide
          | 4, _ => decide
          | 5, _ => decide
          | 6, _ => decide
          | 7, _ => decide
        rw [es]
        exact k3
/-- feed -/
theorem fe_both {gs : List Value} (h0 : ex_at w 0 = some (.inr (.inr (7, gs)))) (g0 : ex_at gs 0 = some (.ref 15)) (h15f : ∀ fs, ex_at w 15 = some (.inr (.inr (5, fs))) → ex_at fs 0 = some (.ref 16)) (h59f : ∀ fs, ex_at w 59 = some (.inr (.inr (8, fs))) → ex_at fs 14 = some (.ref 66)) (h : tpR w) : ∃ r wx wm, Go X (d + 1) mt_3 (ex_ent mt_3 [.ref 0, .long vl]) w (some (.int r), wx) ∧ Go X d mt_4 (ex_ent mt_4 [.ref 59, .long vl]) wx (some (.int r), wm) ∧ tpR wm := by
  obtain ⟨n, B, T, fs, fs5, a1, a2, a3, a4, a5, a6, a7, a8, a9, a10⟩ := id h
  have f0 := h15f fs a1
  have f14 := h59f fs5 a4
  have en : (nI n).toInt = (n : Int) := nI_toInt (by omega)
  have e8 : nI n + 8 = nI (n + 8) := nI_add n 8
  have en8 : (nI (n + 8)).toInt = ((n + 8 : Nat) : Int) := nI_toInt (by omega)
  by_cases hn : n + 8 ≤ 400
  · obtain ⟨B', b1, b2, b3⟩ := fe_c (X := X) (d := d) (vl := vl) hn f0 a2 8 0 w B (by omega) (by omega) a8 a1 a3
    have gc : Go X d mt_92 (ex_ent mt_92 [.ref 15, .long vl]) w (some (.int 1), ex_put (ex_put w 16 (.inl (.byte, B'))) 15 (.inr (.inr (5, ex_put fs 1 (.int (nI n + 8)))))) := tfd_1 a1 f0 a2 (by omega) (by rw [e8]; omega) b3
    have x15 : ex_at (ex_put (ex_put w 16 (.inl (.byte, B'))) 15 (.inr (.inr (5, ex_put fs 1 (.int (nI n + 8)))))) 15 = some (.inr (.inr (5, ex_put fs 1 (.int (nI n + 8))))) := vg_at_put (vg_at_o rfl a1)
    have gx := tfe_1 h0 g0 a1 gc (vg_at_o rfl (vg_at_o rfl h0)) g0 x15 (vg_at_put a2)
    obtain ⟨T', w', fs', c1, c2, c3, c4, c5, c6, c7⟩ := fe_r (X := X) (d := d) (vl := vl) hn 8 0 (ex_put (ex_put w 16 (.inl (.byte, B'))) 15 (.inr (.inr (5, ex_put fs 1 (.int (nI n + 8)))))) T fs5 (by omega) (by omega) a9 (vg_at_o rfl (vg_at_o rfl a4)) f14 a5 (vg_at_o rfl (vg_at_o rfl a6))
    rw [if_neg (by omega)] at c3
    have gm := rfe_1 (X := X) (d := d) (vl := vl) (vg_at_o rfl (vg_at_o rfl a4)) f14 a5 (by rw [e8]; omega) c3
    rw [← e8] at gm
    refine ⟨nI n + 8, _, w', gx, gm, n + 8, B', T', _, fs', (c7 15 (by omega) (by omega)).trans x15, by rw [← e8]; exact vg_at_put a2, (c7 16 (by omega) (by omega)).trans (vg_at_o rfl (vg_at_put a3)), c4, c5, c6, hn, b1, c1, fun i hi => ?_⟩
    rw [b2 i, c2 i]
    by_cases h1 : i < n
    · rw [if_neg (by omega), if_neg (by omega)]
      exact a10 i h1
    · rw [if_pos (by omega), if_pos (by omega)]
      exact by_i vl (i - n) (by omega)
  · exact ⟨_, w, w, tfe_0 h0 g0 a1 (tfd_0 a1 f0 a2 (by omega) (by rw [e8]; omega)), rfe_0 a4 f14 a5 (by rw [e8]; omega), h⟩
end FE
