/-! LINES OF THE CLASS. -/
def up {α : Type} (f : Nat → α) (k : Nat) (v : α) : Nat → α := fun i => bif Nat.beq i k then v else f i
theorem up_eq {α : Type} (f : Nat → α) (k : Nat) (v : α) : up f k v k = v := by
  unfold up
  rw [Nat.beq_refl]
  rfl
theorem up_ne {α : Type} (f : Nat → α) {i k : Nat} (v : α) (h : i ≠ k) : up f k v i = f i := by
  unfold up
  rw [sh_beq h]
  rfl
/-- a draft's cells: 0 most, 1 matters, 2 gap, 3 near, 4 book, 5 days, 6 asked, 7 waiting; rows: 0 weights, 1 pages, 2 days, 3 asked, 4 waiting, 5 until -/
abbrev dT (dr : Nat) (tf : Nat → Int32) : ex_E := .inr (.inr (6, td dr (tf 0) (tf 1) (tf 2) (tf 3) (tf 4) (tf 5) (tf 6) (tf 7)))
def cA (w : ex_W) (dr : Nat) (B : List Int32) (tf : Nat → Int32) (ta : Nat → List Int32) : Prop := ex_at w 16 = some (.inl (.byte, B)) ∧ ex_at w dr = some (dT dr tf) ∧ ∀ k, k < 6 → ex_at w (dr + 1 + k) = some (.inl (.int, ta k))
def cF (dr : Nat) (w w' : ex_W) : Prop := ∀ q, q ≠ 15 → ¬ (dr ≤ q ∧ q ≤ dr + 6) → ex_at w' q = ex_at w q
def cBd (dr n s : Nat) (w w' : ex_W) : Prop := (∃ c, ex_at w' 15 = some c ∧ cBad dr n s c) ∧ cF dr w w'
def cGd (dr n : Nat) (B : List Int32) (se : Int32) (p : Nat) (tf : Nat → Int32) (ta : Nat → List Int32) (w w' : ex_W) : Prop := (∃ fp K S N, ex_at w' 15 = some (cT dr n 0 fp se p K S N)) ∧ cA w' dr B tf ta ∧ cF dr w w'
section CL
variable {X : List Int32} {d n dr p s : Nat} {u : Nat → Nat} {B : List Int32} {w w' : ex_W} {fp se K S N : Int32} {tf : Nat → Int32} {ta : Nat → List Int32} {c : ex_E}
theorem cF.rf : cF dr w w := fun _ _ _ => rfl
theorem cF.p15 (h : cF dr w w') : cF dr w (ex_put w' 15 c) := fun q h1 h2 => (vg_at_ne (sh_beq (fun e => h1 e.symm))).trans (h q h1 h2)
theorem cF.pt {k : Nat} (h : cF dr w w') (h1 : dr ≤ k) (h2 : k ≤ dr + 6) : cF dr w (ex_put w' k c) := fun q h3 h4 => (vg_at_ne (sh_beq (fun e => h4 (by omega)))).trans (h q h3 h4)
theorem cA.p15 (hd : dr + 6 < 15) (h : cA w dr B tf ta) : cA (ex_put w 15 c) dr B tf ta := ⟨vg_at_o rfl h.1, vg_at_o (sh_beq (by omega)) h.2.1, fun k hk => vg_at_o (sh_beq (by omega)) (h.2.2 k hk)⟩
theorem cA.pt (hd : dr + 6 < 15) (h : cA w dr B tf ta) (tf' : Nat → Int32) : cA (ex_put w dr (dT dr tf')) dr B tf' ta := ⟨vg_at_o (sh_beq (by omega)) h.1, vg_at_put h.2.1, fun k hk => vg_at_o (sh_beq (by omega)) (h.2.2 k hk)⟩
theorem cA.pa (hd : dr + 6 < 15) (h : cA w dr B tf ta) {k : Nat} (hk : k < 6) (l : List Int32) : cA (ex_put w (dr + 1 + k) (.inl (.int, l))) dr B tf (up ta k l) := by
  refine ⟨vg_at_o (sh_beq (by omega)) h.1, vg_at_o (sh_beq (by omega)) h.2.1, fun j hj => ?_⟩
  by_cases e : j = k
  · rw [e, up_eq]
    exact vg_at_put (h.2.2 k hk)
  · rw [up_ne _ _ e]
    exact vg_at_o (sh_beq (by omega)) (h.2.2 j hj)
/-- what becomes of a line that ends with stop -/
theorem cl_stop (hB : cB u n B) (hd : dr + 6 < 15) (hp : p ≤ n) {w0 : ex_W} (h15 : ex_at w 15 = some (cT dr n 0 fp se p K S N)) (hA : cA w dr B tf ta) (hF : cF dr w0 w) : (tk_k u n p = 2 ∧ ∃ w', Go X (d + 2) mt_212 (ex_ent mt_212 [.ref 15]) w (some (.int 1), w') ∧ cGd dr n B se (tk_e u n p) tf ta w0 w') ∨ (¬ tk_k u n p = 2 ∧ ∃ w', Go X (d + 2) mt_212 (ex_ent mt_212 [.ref 15]) w (some (.int 0), w') ∧ cBd dr n (tk_s u n p) w0 w') := by
  rcases cf_stop (X := X) (d := d) hB hp h15 hA.1 with ⟨k, N', g⟩ | ⟨k, c, hc, g⟩
  · exact Or.inl ⟨k, _, g, ⟨fp, _, _, N', vg_at_put h15⟩, hA.p15 hd, hF.p15⟩
  · exact Or.inr ⟨k, _, g, ⟨c, vg_at_put h15, hc⟩, hF.p15⟩
theorem cl_most (hB : cB u n B) (hd : dr + 6 < 15) (hp : p ≤ n) (h15 : ex_at w 15 = some (cT dr n 0 fp se p K (nI s) N)) (hA : cA w dr B tf ta) : (¬ Int32.toInt (se &&& 1) = 0 ∧ ∃ w', Go X (d + 5) mt_182 (ex_ent mt_182 [.ref 15]) w (some (.int 0), w') ∧ cBd dr n (s) w w') ∨ (Int32.toInt (se &&& 1) = 0 ∧ ¬ okF u n p 4 16 ∧ ∃ w', Go X (d + 5) mt_182 (ex_ent mt_182 [.ref 15]) w (some (.int 0), w') ∧ cBd dr n (tk_s u n p) w w') ∨ (Int32.toInt (se &&& 1) = 0 ∧ okF u n p 4 16 ∧ ¬ tk_k u n (tk_e u n p) = 2 ∧ ∃ w', Go X (d + 5) mt_182 (ex_ent mt_182 [.ref 15]) w (some (.int 0), w') ∧ cBd dr n (tk_s u n (tk_e u n p)) w w') ∨ (Int32.toInt (se &&& 1) = 0 ∧ okF u n p 4 16 ∧ tk_k u n (tk_e u n p) = 2 ∧ ∃ w', Go X (d + 5) mt_182 (ex_ent mt_182 [.ref 15]) w (some (.int 1), w') ∧ cGd dr n B (se ||| 1) (tk_e u n (tk_e u n p)) (up tf 0 (nI (tk_v u n p))) ta w w') := by
  by_cases hb : Int32.toInt (se &&& 1) = 0
  · right
    have g1 := to_2 (X := X) (d := d + 4) (m := 1) h15 hb
    have i15 := vg_at_put (x := cT dr n 0 fp (se ||| 1) p K (nI s) N) h15
    have iA : cA _ dr B tf ta := hA.p15 hd (c := cT dr n 0 fp (se ||| 1) p K (nI s) N)
    rcases cf_fig (X := X) (d := d + 2) (lw := 4) (hg := 16) (l := 4) (h := 16) (by decide) (by decide) hB hp i15 iA.1 with ⟨ho, g2⟩ | ⟨ho, c, hc, g2⟩
    · right
      have hp' := tk_e_le u hp (by have := ho.1; omega)
      have j15 := vg_at_put (x := cT dr n 0 fp (se ||| 1) (tk_e u n p) (nI 1) (nI (tk_s u n p)) (nI (tk_v u n p))) i15
      have jA : cA _ dr B tf ta := iA.p15 hd (c := cT dr n 0 fp (se ||| 1) (tk_e u n p) (nI 1) (nI (tk_s u n p)) (nI (tk_v u n p)))
      have jF : cF dr w _ := ((cF.rf.p15 (c := cT dr n 0 fp (se ||| 1) p K (nI s) N)).p15 (c := cT dr n 0 fp (se ||| 1) (tk_e u n p) (nI 1) (nI (tk_s u n p)) (nI (tk_v u n p)))).pt (k := dr) (c := dT dr (up tf 0 (nI (tk_v u n p)))) (Nat.le_refl _) (by omega)
      have k15 := vg_at_o (x := dT dr (up tf 0 (nI (tk_v u n p)))) (sh_beq (show dr ≠ 15 by omega)) j15
      rcases cl_stop (X := X) (d := d + 2) hB hd hp' k15 (jA.pt hd _) jF with ⟨k2, w', g3, h3⟩ | ⟨k2, w', g3, h3⟩
      · exact Or.inr ⟨hb, ho, k2, w', tm_3_1 h15 g1 i15 g2 j15 jA.2.1 (sh_beq (by omega)) g3, h3⟩
      · exact Or.inl ⟨hb, ho, k2, w', tm_3_0 h15 g1 i15 g2 j15 jA.2.1 (sh_beq (by omega)) g3, h3⟩
    · exact Or.inl ⟨hb, ho, _, tm_2 h15 g1 i15 g2, ⟨c, vg_at_put i15, hc⟩, (cF.rf.p15).p15⟩
  · exact Or.inl ⟨hb, _, tm_1 h15 (to_1 h15 hb), ⟨_, vg_at_put h15, 4, se, _, _, _, _, by decide, rfl⟩, cF.rf.p15⟩
theorem cl_gap (hB : cB u n B) (hd : dr + 6 < 15) (hp : p ≤ n) (h15 : ex_at w 15 = some (cT dr n 0 fp se p K (nI s) N)) (hA : cA w dr B tf ta) : (¬ Int32.toInt (se &&& 4) = 0 ∧ ∃ w', Go X (d + 5) mt_184 (ex_ent mt_184 [.ref 15]) w (some (.int 0), w') ∧ cBd dr n (s) w w') ∨ (Int32.toInt (se &&& 4) = 0 ∧ ¬ okF u n p 0 20 ∧ ∃ w', Go X (d + 5) mt_184 (ex_ent mt_184 [.ref 15]) w (some (.int 0), w') ∧ cBd dr n (tk_s u n p) w w') ∨ (Int32.toInt (se &&& 4) = 0 ∧ okF u n p 0 20 ∧ ¬ tk_k u n (tk_e u n p) = 2 ∧ ∃ w', Go X (d + 5) mt_184 (ex_ent mt_184 [.ref 15]) w (some (.int 0), w') ∧ cBd dr n (tk_s u n (tk_e u n p)) w w') ∨ (Int32.toInt (se &&& 4) = 0 ∧ okF u n p 0 20 ∧ tk_k u n (tk_e u n p) = 2 ∧ ∃ w', Go X (d + 5) mt_184 (ex_ent mt_184 [.ref 15]) w (some (.int 1), w') ∧ cGd dr n B (se ||| 4) (tk_e u n (tk_e u n p)) (up tf 2 (nI (tk_v u n p))) ta w w') := by
  by_cases hb : Int32.toInt (se &&& 4) = 0
  · right
    have g1 := to_2 (X := X) (d := d + 4) (m := 4) h15 hb
    have i15 := vg_at_put (x := cT dr n 0 fp (se ||| 4) p K (nI s) N) h15
    have iA : cA _ dr B tf ta := hA.p15 hd (c := cT dr n 0 fp (se ||| 4) p K (nI s) N)
    rcases cf_fig (X := X) (d := d + 2) (lw := 0) (hg := 20) (l := 0) (h := 20) (by decide) (by decide) hB hp i15 iA.1 with ⟨ho, g2⟩ | ⟨ho, c, hc, g2⟩
    · right
      have hp' := tk_e_le u hp (by have := ho.1; omega)
      have j15 := vg_at_put (x := cT dr n 0 fp (se ||| 4) (tk_e u n p) (nI 1) (nI (tk_s u n p)) (nI (tk_v u n p))) i15
      have jA : cA _ dr B tf ta := iA.p15 hd (c := cT dr n 0 fp (se ||| 4) (tk_e u n p) (nI 1) (nI (tk_s u n p)) (nI (tk_v u n p)))
      have jF : cF dr w _ := ((cF.rf.p15 (c := cT dr n 0 fp (se ||| 4) p K (nI s) N)).p15 (c := cT dr n 0 fp (se ||| 4) (tk_e u n p) (nI 1) (nI (tk_s u n p)) (nI (tk_v u n p)))).pt (k := dr) (c := dT dr (up tf 2 (nI (tk_v u n p)))) (Nat.le_refl _) (by omega)
      have k15 := vg_at_o (x := dT dr (up tf 2 (nI (tk_v u n p)))) (sh_beq (show dr ≠ 15 by omega)) j15
      rcases cl_stop (X := X) (d := d + 2) hB hd hp' k15 (jA.pt hd _) jF with ⟨k2, w', g3, h3⟩ | ⟨k2, w', g3, h3⟩
      · exact Or.inr ⟨hb, ho, k2, w', tgp_3_1 h15 g1 i15 g2 j15 jA.2.1 (sh_beq (by omega)) g3, h3⟩
      · exact Or.inl ⟨hb, ho, k2, w', tgp_3_0 h15 g1 i15 g2 j15 jA.2.1 (sh_beq (by omega)) g3, h3⟩
    · exact Or.inl ⟨hb, ho, _, tgp_2 h15 g1 i15 g2, ⟨c, vg_at_put i15, hc⟩, (cF.rf.p15).p15⟩
  · exact Or.inl ⟨hb, _, tgp_1 h15 (to_1 h15 hb), ⟨_, vg_at_put h15, 4, se, _, _, _, _, by decide, rfl⟩, cF.rf.p15⟩
theorem cl_near (hB : cB u n B) (hd : dr + 6 < 15) (hp : p ≤ n) (h15 : ex_at w 15 = some (cT dr n 0 fp se p K (nI s) N)) (hA : cA w dr B tf ta) : (¬ Int32.toInt (se &&& 8) = 0 ∧ ∃ w', Go X (d + 5) mt_185 (ex_ent mt_185 [.ref 15]) w (some (.int 0), w') ∧ cBd dr n (s) w w') ∨ (Int32.toInt (se &&& 8) = 0 ∧ ¬ tk_k u n p = 2 ∧ ∃ w', Go X (d + 5) mt_185 (ex_ent mt_185 [.ref 15]) w (some (.int 0), w') ∧ cBd dr n (tk_s u n p) w w') ∨ (Int32.toInt (se &&& 8) = 0 ∧ tk_k u n p = 2 ∧ ∃ w', Go X (d + 5) mt_185 (ex_ent mt_185 [.ref 15]) w (some (.int 1), w') ∧ cGd dr n B (se ||| 8) (tk_e u n p) (up tf 3 1) ta w w') := by
  by_cases hb : Int32.toInt (se &&& 8) = 0
  · right
    have g1 := to_2 (X := X) (d := d + 4) (m := 8) h15 hb
    have i15 := vg_at_put (x := cT dr n 0 fp (se ||| 8) p K (nI s) N) h15
    have iA : cA _ dr B tf ta := hA.p15 hd (c := cT dr n 0 fp (se ||| 8) p K (nI s) N)
    have jF : cF dr w _ := (cF.rf.p15 (c := cT dr n 0 fp (se ||| 8) p K (nI s) N)).pt (k := dr) (c := dT dr (up tf 3 1)) (Nat.le_refl _) (by omega)
    have k15 := vg_at_o (x := dT dr (up tf 3 1)) (sh_beq (show dr ≠ 15 by omega)) i15
    rcases cl_stop (X := X) (d := d + 2) hB hd hp k15 (iA.pt hd _) jF with ⟨k2, w', g3, h3⟩ | ⟨k2, w', g3, h3⟩
    · exact Or.inr ⟨hb, k2, w', tnr_3_1 h15 g1 i15 iA.2.1 (sh_beq (by omega)) g3, h3⟩
    · exact Or.inl ⟨hb, k2, w', tnr_3_0 h15 g1 i15 iA.2.1 (sh_beq (by omega)) g3, h3⟩
  · exact Or.inl ⟨hb, _, tnr_1 h15 (to_1 h15 hb), ⟨_, vg_at_put h15, 4, se, _, _, _, _, by decide, rfl⟩, cF.rf.p15⟩
theorem cl_book (hB : cB u n B) (hd : dr + 6 < 15) (hp : p ≤ n) (h15 : ex_at w 15 = some (cT dr n 0 fp se p K (nI s) N)) (hA : cA w dr B tf ta) : (¬ Int32.toInt (se &&& 16) = 0 ∧ ∃ w', Go X (d + 5) mt_186 (ex_ent mt_186 [.ref 15]) w (some (.int 0), w') ∧ cBd dr n (s) w w') ∨ (Int32.toInt (se &&& 16) = 0 ∧ (tk_k u n p = 0 → ∃ v, bkR u (tk_s u n p) (tk_e u n p) v ∧ v = (Int8.ofInt (-4)).toInt32) ∧ ∃ w', Go X (d + 5) mt_186 (ex_ent mt_186 [.ref 15]) w (some (.int 0), w') ∧ cBd dr n (tk_s u n p) w w') ∨ (∃ v, Int32.toInt (se &&& 16) = 0 ∧ tk_k u n p = 0 ∧ bkR u (tk_s u n p) (tk_e u n p) v ∧ ¬ Int32.toInt v = -4 ∧ ¬ tk_k u n (tk_e u n p) = 2 ∧ ∃ w', Go X (d + 5) mt_186 (ex_ent mt_186 [.ref 15]) w (some (.int 0), w') ∧ cBd dr n (tk_s u n (tk_e u n p)) w w') ∨ (∃ v, Int32.toInt (se &&& 16) = 0 ∧ tk_k u n p = 0 ∧ bkR u (tk_s u n p) (tk_e u n p) v ∧ ¬ Int32.toInt v = -4 ∧ tk_k u n (tk_e u n p) = 2 ∧ ∃ w', Go X (d + 5) mt_186 (ex_ent mt_186 [.ref 15]) w (some (.int 1), w') ∧ cGd dr n B (se ||| 16) (tk_e u n (tk_e u n p)) (up tf 4 v) ta w w') := by
  by_cases hb : Int32.toInt (se &&& 16) = 0
  · right
    have g1 := to_2 (X := X) (d := d + 4) (m := 16) h15 hb
    have i15 := vg_at_put (x := cT dr n 0 fp (se ||| 16) p K (nI s) N) h15
    have iA : cA _ dr B tf ta := hA.p15 hd (c := cT dr n 0 fp (se ||| 16) p K (nI s) N)
    rcases ct_next (X := X) (d := d + 3) hB hp i15 iA.1 with ⟨k, P', K', N', g⟩ | ⟨k, N', hN, g⟩
    · exact Or.inl ⟨hb, fun h => absurd h (by omega), _, tbk_2 h15 g1 i15 g, ⟨_, vg_at_put i15, 1, _, P', K', _, N', by decide, rfl⟩, (cF.rf.p15).p15⟩
    · have hp' := tk_e_le u hp k
      have hse := tk_s_le u hp
      have ek : (nI (tk_k u n p)).toInt = (tk_k u n p : Int) := nI_toInt (by omega)
      by_cases k0 : tk_k u n p = 0
      · rw [k0] at g
        have j15 : ex_at (ex_put (ex_put w 15 (cT dr n 0 fp (se ||| 16) p K (nI s) N)) 15 (cT dr n 0 fp (se ||| 16) (tk_e u n p) (nI 0) (nI (tk_s u n p)) N')) 15 = some (cT dr n 0 fp (se ||| 16) (tk_e u n p) 0 (nI (tk_s u n p)) N') := vg_at_put i15
        have jA : cA _ dr B tf ta := iA.p15 hd (c := cT dr n 0 fp (se ||| 16) (tk_e u n p) (nI 0) (nI (tk_s u n p)) N')
        have hle : tk_s u n p ≤ tk_e u n p := by
          rw [tk_e0 k0]
          exact tk_rn_ge _ _ _
        have fin : ∀ v, bkR u (tk_s u n p) (tk_e u n p) v → ¬ Int32.toInt v = -4 → (∀ w' r, Go X (d + 4) mt_212 (ex_ent mt_212 [.ref 15]) (ex_put (ex_put (ex_put w 15 (cT dr n 0 fp (se ||| 16) p K (nI s) N)) 15 (cT dr n 0 fp (se ||| 16) (tk_e u n p) (nI 0) (nI (tk_s u n p)) N')) dr (dT dr (up tf 4 v))) (some (.int r), w') → (r = 0 ∨ r = 1) → Go X (d + 5) mt_186 (ex_ent mt_186 [.ref 15]) w (some (.int r), w')) → (∃ v, Int32.toInt (se &&& 16) = 0 ∧ tk_k u n p = 0 ∧ bkR u (tk_s u n p) (tk_e u n p) v ∧ ¬ Int32.toInt v = -4 ∧ ¬ tk_k u n (tk_e u n p) = 2 ∧ ∃ w', Go X (d + 5) mt_186 (ex_ent mt_186 [.ref 15]) w (some (.int 0), w') ∧ cBd dr n (tk_s u n (tk_e u n p)) w w') ∨ (∃ v, Int32.toInt (se &&& 16) = 0 ∧ tk_k u n p = 0 ∧ bkR u (tk_s u n p) (tk_e u n p) v ∧ ¬ Int32.toInt v = -4 ∧ tk_k u n (tk_e u n p) = 2 ∧ ∃ w', Go X (d + 5) mt_186 (ex_ent mt_186 [.ref 15]) w (some (.int 1), w') ∧ cGd dr n B (se ||| 16) (tk_e u n (tk_e u n p)) (up tf 4 v) ta w w') := by
          intro v hv hv4 hgo
          have jF : cF dr w _ := ((cF.rf.p15 (c := cT dr n 0 fp (se ||| 16) p K (nI s) N)).p15 (c := cT dr n 0 fp (se ||| 16) (tk_e u n p) (nI 0) (nI (tk_s u n p)) N')).pt (k := dr) (c := dT dr (up tf 4 v)) (Nat.le_refl _) (by omega)
          have k15 := vg_at_o (x := dT dr (up tf 4 v)) (sh_beq (show dr ≠ 15 by omega)) j15
          rcases cl_stop (X := X) (d := d + 2) hB hd hp' k15 (jA.pt hd _) jF with ⟨k2, w', g3, h3⟩ | ⟨k2, w', g3, h3⟩
          · exact Or.inr ⟨v, hb, k0, hv, hv4, k2, w', hgo w' 1 g3 (Or.inr rfl), h3⟩
          · exact Or.inl ⟨v, hb, k0, hv, hv4, k2, w', hgo w' 0 g3 (Or.inl rfl), h3⟩
        have nq : Nat.beq dr 15 = false := sh_beq (by omega)
        rcases cn_name (X := X) (d := d) so_fixed hB j15 jA.1 hle hp' with ⟨n1, q1⟩ | ⟨n1, q1⟩
        · exact Or.inr (fin 0 (Or.inl ⟨n1, rfl⟩) (by decide) (fun w' r g3 hr => by
            rcases hr with rfl | rfl
            · exact tbk_4_0 h15 g1 i15 g j15 jA.2.1 q1 nq g3
            · exact tbk_4_1 h15 g1 i15 g j15 jA.2.1 q1 nq g3))
        rcases cn_name (X := X) (d := d) so_rank hB j15 jA.1 hle hp' with ⟨n2, q2⟩ | ⟨n2, q2⟩
        · exact Or.inr (fin 1 (Or.inr (Or.inl ⟨n2, rfl⟩)) (by decide) (fun w' r g3 hr => by
            rcases hr with rfl | rfl
            · exact tbk_5_0 h15 g1 i15 g j15 jA.2.1 q1 q2 nq g3
            · exact tbk_5_1 h15 g1 i15 g j15 jA.2.1 q1 q2 nq g3))
        rcases cn_name (X := X) (d := d) so_told hB j15 jA.1 hle hp' with ⟨n3, q3⟩ | ⟨n3, q3⟩
        · exact Or.inr (fin 2 (Or.inr (Or.inr (Or.inl ⟨n3, rfl⟩))) (by decide) (fun w' r g3 hr => by
            rcases hr with rfl | rfl
            · exact tbk_6_0 h15 g1 i15 g j15 jA.2.1 q1 q2 q3 nq g3
            · exact tbk_6_1 h15 g1 i15 g j15 jA.2.1 q1 q2 q3 nq g3))
        exact Or.inl ⟨hb, fun _ => ⟨_, Or.inr (Or.inr (Or.inr ⟨n1, n2, n3, rfl⟩)), rfl⟩, _, tbk_7 h15 g1 i15 g j15 jA.2.1 q1 q2 q3 (sh_beq (by omega)), ⟨_, vg_at_put j15, 2, _, _, _, _, _, by decide, rfl⟩, ((cF.rf.p15).p15).p15⟩
      · exact Or.inl ⟨hb, fun h => absurd h k0, _, tbk_3 h15 g1 i15 g (vg_at_put i15) (iA.p15 hd).2.1 (by omega) (by omega) (by omega) (sh_beq (by omega)), ⟨_, vg_at_put (vg_at_put i15), 2, _, _, _, _, _, by decide, rfl⟩, ((cF.rf.p15).p15).p15⟩
  · exact Or.inl ⟨hb, _, tbk_1 h15 (to_1 h15 hb), ⟨_, vg_at_put h15, 4, se, _, _, _, _, by decide, rfl⟩, cF.rf.p15⟩
theorem cl_page (hB : cB u n B) (hd : dr + 6 < 15) (hp : p ≤ n) (h15 : ex_at w 15 = some (cT dr n 0 fp se p K (nI s) N)) (hA : cA w dr B tf ta) (hl : (ta 1).length = 17) : (¬ okF u n p 1 16 ∧ ∃ w', Go X (d + 5) mt_187 (ex_ent mt_187 [.ref 15]) w (some (.int 0), w') ∧ cBd dr n (tk_s u n p) w w') ∨ (okF u n p 1 16 ∧ ¬ Int32.toInt ((ta 1).getD (tk_v u n p) 0) = -4 ∧ ∃ w', Go X (d + 5) mt_187 (ex_ent mt_187 [.ref 15]) w (some (.int 0), w') ∧ cBd dr n (tk_s u n p) w w') ∨ (okF u n p 1 16 ∧ Int32.toInt ((ta 1).getD (tk_v u n p) 0) = -4 ∧ ¬ okF u n (tk_e u n p) 0 3 ∧ ∃ w', Go X (d + 5) mt_187 (ex_ent mt_187 [.ref 15]) w (some (.int 0), w') ∧ cBd dr n (tk_s u n (tk_e u n p)) w w') ∨ (okF u n p 1 16 ∧ Int32.toInt ((ta 1).getD (tk_v u n p) 0) = -4 ∧ okF u n (tk_e u n p) 0 3 ∧ ¬ tk_k u n (tk_e u n (tk_e u n p)) = 2 ∧ ∃ w', Go X (d + 5) mt_187 (ex_ent mt_187 [.ref 15]) w (some (.int 0), w') ∧ cBd dr n (tk_s u n (tk_e u n (tk_e u n p))) w w') ∨ (okF u n p 1 16 ∧ Int32.toInt ((ta 1).getD (tk_v u n p) 0) = -4 ∧ okF u n (tk_e u n p) 0 3 ∧ tk_k u n (tk_e u n (tk_e u n p)) = 2 ∧ ∃ w', Go X (d + 5) mt_187 (ex_ent mt_187 [.ref 15]) w (some (.int 1), w') ∧ cGd dr n B se (tk_e u n (tk_e u n (tk_e u n p))) tf (up ta 1 (ex_put (ta 1) (tk_v u n p) (nI (tk_v u n (tk_e u n p))))) w w') := by
  rcases cf_fig (X := X) (d := d + 2) (lw := 1) (hg := 16) (l := 1) (h := 16) (by decide) (by decide) hB hp h15 hA.1 with ⟨ho, g1⟩ | ⟨ho, c, hc, g1⟩
  · right
    have i15 := vg_at_put (x := cT dr n 0 fp se (tk_e u n p) (nI 1) (nI (tk_s u n p)) (nI (tk_v u n p))) h15
    have iA : cA _ dr B tf ta := hA.p15 hd (c := cT dr n 0 fp se (tk_e u n p) (nI 1) (nI (tk_s u n p)) (nI (tk_v u n p)))
    have hp1 := tk_e_le u hp (by have := ho.1; omega)
    have hv16 := ho.2.2
    have hix : ex_ix (nI (tk_v u n p)) (ta 1).length = true := by rw [hl]; exact fp_ix (by omega) (by decide)
    have hgd : ex_gd (ta 1) (Int32.toNatClampNeg (nI (tk_v u n p))) = (ta 1).getD (tk_v u n p) 0 := fp_gd (by omega)
    by_cases hpg : Int32.toInt ((ta 1).getD (tk_v u n p) 0) = -4
    · right
      rcases cf_fig (X := X) (d := d + 2) (lw := 0) (hg := 3) (l := 0) (h := 3) (by decide) (by decide) hB hp1 i15 iA.1 with ⟨ho2, g2⟩ | ⟨ho2, c, hc, g2⟩
      · right
        have hp2 := tk_e_le u hp1 (by have := ho2.1; omega)
        have j15 := vg_at_put (x := cT dr n 0 fp se (tk_e u n (tk_e u n p)) (nI 1) (nI (tk_s u n (tk_e u n p))) (nI (tk_v u n (tk_e u n p)))) i15
        have jA : cA _ dr B tf ta := iA.p15 hd (c := cT dr n 0 fp se (tk_e u n (tk_e u n p)) (nI 1) (nI (tk_s u n (tk_e u n p))) (nI (tk_v u n (tk_e u n p))))
        have jF : cF dr w _ := ((cF.rf.p15 (c := cT dr n 0 fp se (tk_e u n p) (nI 1) (nI (tk_s u n p)) (nI (tk_v u n p)))).p15 (c := cT dr n 0 fp se (tk_e u n (tk_e u n p)) (nI 1) (nI (tk_s u n (tk_e u n p))) (nI (tk_v u n (tk_e u n p))))).pt (k := dr + 1 + 1) (c := .inl (.int, ex_put (ta 1) (tk_v u n p) (nI (tk_v u n (tk_e u n p))))) (by omega) (by omega)
        have k15 := vg_at_o (x := .inl (.int, ex_put (ta 1) (tk_v u n p) (nI (tk_v u n (tk_e u n p))))) (sh_beq (show dr + 1 + 1 ≠ 15 by omega)) j15
        rcases cl_stop (X := X) (d := d + 2) hB hd hp2 k15 (jA.pa hd (k := 1) (by decide) _) jF with ⟨k2, w', g3, h3⟩ | ⟨k2, w', g3, h3⟩
        · exact Or.inr ⟨ho, hpg, ho2, k2, w', tpg_4_1 h15 g1 i15 iA.2.1 (iA.2.2 1 (by decide)) hix (by rw [hgd]; exact hpg) g2 j15 jA.2.1 (jA.2.2 1 (by decide)) hix (sh_beq (by omega)) (sh_beq (by omega)) (by rw [nI_clamp (by omega)]; exact g3), h3⟩
        · exact Or.inl ⟨ho, hpg, ho2, k2, w', tpg_4_0 h15 g1 i15 iA.2.1 (iA.2.2 1 (by decide)) hix (by rw [hgd]; exact hpg) g2 j15 jA.2.1 (jA.2.2 1 (by decide)) hix (sh_beq (by omega)) (sh_beq (by omega)) (by rw [nI_clamp (by omega)]; exact g3), h3⟩
      · exact Or.inl ⟨ho, hpg, ho2, _, tpg_3 h15 g1 i15 iA.2.1 (iA.2.2 1 (by decide)) hix (by rw [hgd]; exact hpg) g2, ⟨c, vg_at_put i15, hc⟩, (cF.rf.p15).p15⟩
    · exact Or.inl ⟨ho, hpg, _, tpg_2 h15 g1 i15 iA.2.1 (iA.2.2 1 (by decide)) hix (by rw [hgd]; exact hpg) (sh_beq (by omega)) (sh_beq (by omega)), ⟨_, vg_at_put i15, 4, se, _, _, _, _, by decide, rfl⟩, (cF.rf.p15).p15⟩
  · exact Or.inl ⟨ho, _, tpg_1 h15 g1, ⟨c, vg_at_put h15, hc⟩, cF.rf.p15⟩
theorem cl_wait (hB : cB u n B) (hd : dr + 6 < 15) (hp : p ≤ n) (h15 : ex_at w 15 = some (cT dr n 0 fp se p K (nI s) N)) (hA : cA w dr B tf ta) {wn : Nat} (hw : tf 7 = nI wn) (hw4 : wn ≤ 4) (hl4 : (ta 4).length = 4) (hl5 : (ta 5).length = 4) : (wn = 4 ∧ ∃ w', Go X (d + 5) mt_190 (ex_ent mt_190 [.ref 15]) w (some (.int 0), w') ∧ cBd dr n (s) w w') ∨ (wn < 4 ∧ ¬ okF u n p 0 3 ∧ ∃ w', Go X (d + 5) mt_190 (ex_ent mt_190 [.ref 15]) w (some (.int 0), w') ∧ cBd dr n (tk_s u n p) w w') ∨ (wn < 4 ∧ okF u n p 0 3 ∧ ¬ okF u n (tk_e u n p) 0 4 ∧ ∃ w', Go X (d + 5) mt_190 (ex_ent mt_190 [.ref 15]) w (some (.int 0), w') ∧ cBd dr n (tk_s u n (tk_e u n p)) w w') ∨ (wn < 4 ∧ okF u n p 0 3 ∧ okF u n (tk_e u n p) 0 4 ∧ ¬ tk_k u n (tk_e u n (tk_e u n p)) = 2 ∧ ∃ w', Go X (d + 5) mt_190 (ex_ent mt_190 [.ref 15]) w (some (.int 0), w') ∧ cBd dr n (tk_s u n (tk_e u n (tk_e u n p))) w w') ∨ (wn < 4 ∧ okF u n p 0 3 ∧ okF u n (tk_e u n p) 0 4 ∧ tk_k u n (tk_e u n (tk_e u n p)) = 2 ∧ ∃ w', Go X (d + 5) mt_190 (ex_ent mt_190 [.ref 15]) w (some (.int 1), w') ∧ cGd dr n B se (tk_e u n (tk_e u n (tk_e u n p))) (up tf 7 (nI (wn + 1))) (up (up ta 4 (ex_put (ta 4) wn (nI (tk_v u n p)))) 5 (ex_put (ta 5) wn (nI (tk_v u n (tk_e u n p))))) w w') := by
  have ew : (tf 7).toInt = (wn : Int) := by rw [hw]; exact nI_toInt (by omega)
  by_cases h4 : wn = 4
  · exact Or.inl ⟨h4, _, twt_1 h15 hA.2.1 (by omega) (sh_beq (by omega)), ⟨_, vg_at_put h15, 5, se, _, _, _, _, by decide, rfl⟩, cF.rf.p15⟩
  · right
    have h4 : wn < 4 := by omega
    rcases cf_fig (X := X) (d := d + 2) (lw := 0) (hg := 3) (l := 0) (h := 3) (by decide) (by decide) hB hp h15 hA.1 with ⟨ho, g1⟩ | ⟨ho, c, hc, g1⟩
    · right
      have i15 := vg_at_put (x := cT dr n 0 fp se (tk_e u n p) (nI 1) (nI (tk_s u n p)) (nI (tk_v u n p))) h15
      have iA : cA _ dr B tf ta := hA.p15 hd (c := cT dr n 0 fp se (tk_e u n p) (nI 1) (nI (tk_s u n p)) (nI (tk_v u n p)))
      have hp1 := tk_e_le u hp (by have := ho.1; omega)
      rcases cf_fig (X := X) (d := d + 2) (lw := 0) (hg := 4) (l := 0) (h := 4) (by decide) (by decide) hB hp1 i15 iA.1 with ⟨ho2, g2⟩ | ⟨ho2, c, hc, g2⟩
      · right
        have hp2 := tk_e_le u hp1 (by have := ho2.1; omega)
        have j15 := vg_at_put (x := cT dr n 0 fp se (tk_e u n (tk_e u n p)) (nI 1) (nI (tk_s u n (tk_e u n p))) (nI (tk_v u n (tk_e u n p)))) i15
        have jA : cA _ dr B tf ta := iA.p15 hd (c := cT dr n 0 fp se (tk_e u n (tk_e u n p)) (nI 1) (nI (tk_s u n (tk_e u n p))) (nI (tk_v u n (tk_e u n p))))
        have ga := taw_2 (X := X) (d := d + 4) (x := nI (tk_v u n p)) (y := nI (tk_v u n (tk_e u n p))) jA.2.1 (jA.2.2 4 (by decide)) (jA.2.2 5 (by decide)) (by omega) (by rw [hl4, hw]; exact fp_ix (by omega) (by decide)) (sh_beq (by omega)) (sh_beq (by omega)) (by rw [hl5, hw]; exact fp_ix (by omega) (by decide)) (sh_beq (by omega)) (sh_beq (by omega)) (sh_beq (by omega)) (sh_beq (by omega))
        rw [hw, nI_clamp (by omega), ← nI_succ] at ga
        have kA := (((jA.pa hd (k := 4) (by decide) (ex_put (ta 4) wn (nI (tk_v u n p)))).pa hd (k := 5) (by decide) (ex_put (ta 5) wn (nI (tk_v u n (tk_e u n p))))).pt hd (up tf 7 (nI (wn + 1))))
        have kF : cF dr w _ := ((((cF.rf.p15 (c := cT dr n 0 fp se (tk_e u n p) (nI 1) (nI (tk_s u n p)) (nI (tk_v u n p)))).p15 (c := cT dr n 0 fp se (tk_e u n (tk_e u n p)) (nI 1) (nI (tk_s u n (tk_e u n p))) (nI (tk_v u n (tk_e u n p))))).pt (k := dr + 1 + 4) (c := .inl (.int, ex_put (ta 4) wn (nI (tk_v u n p)))) (by omega) (by omega)).pt (k := dr + 1 + 5) (c := .inl (.int, ex_put (ta 5) wn (nI (tk_v u n (tk_e u n p))))) (by omega) (by omega)).pt (k := dr) (c := dT dr (up tf 7 (nI (wn + 1)))) (Nat.le_refl _) (by omega)
        have k15 := vg_at_o (x := dT dr (up tf 7 (nI (wn + 1)))) (sh_beq (show dr ≠ 15 by omega)) (vg_at_o (x := .inl (.int, ex_put (ta 5) wn (nI (tk_v u n (tk_e u n p))))) (sh_beq (show dr + 1 + 5 ≠ 15 by omega)) (vg_at_o (x := .inl (.int, ex_put (ta 4) wn (nI (tk_v u n p)))) (sh_beq (show dr + 1 + 4 ≠ 15 by omega)) j15))
        rcases cl_stop (X := X) (d := d + 2) hB hd hp2 k15 kA kF with ⟨k2, w', g3, h3⟩ | ⟨k2, w', g3, h3⟩
        · exact Or.inr ⟨h4, ho, ho2, k2, w', twt_4_1 h15 hA.2.1 (by omega) g1 i15 g2 j15 jA.2.1 ga k15 g3, h3⟩
        · exact Or.inl ⟨h4, ho, ho2, k2, w', twt_4_0 h15 hA.2.1 (by omega) g1 i15 g2 j15 jA.2.1 ga k15 g3, h3⟩
      · exact Or.inl ⟨h4, ho, ho2, _, twt_3 h15 hA.2.1 (by omega) g1 i15 g2, ⟨c, vg_at_put i15, hc⟩, (cF.rf.p15).p15⟩
    · exact Or.inl ⟨h4, ho, _, twt_2 h15 hA.2.1 (by omega) g1, ⟨c, vg_at_put h15, hc⟩, cF.rf.p15⟩
end CL
