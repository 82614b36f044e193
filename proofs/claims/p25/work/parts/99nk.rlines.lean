/-! LINES OF THE REFERENCE. -/
def rA (w : ex_W) (T DR DW : List Int32) : Prop := ex_at w 66 = some (.inl (.int, T)) ∧ ex_at w 64 = some (.inl (.int, DR)) ∧ ex_at w 65 = some (.inl (.int, DW))
def rF (w w' : ex_W) : Prop := ∀ q, q ≠ 59 → q ≠ 64 → q ≠ 65 → ex_at w' q = ex_at w q
def rBd (z : Nat → Int32) (mo ma ym : Int32) (n s : Nat) (w w' : ex_W) : Prop := (∃ c, ex_at w' 59 = some c ∧ rBad z mo ma ym n s c) ∧ rF w w'
def rGd (u : Nat → Nat) (z : Nat → Int32) (mo ma ym dm dt tl hn hm : Int32) (n p : Nat) (T DR DW : List Int32) (w w' : ex_W) : Prop := (∃ c, ex_at w' 59 = some c ∧ rAt u z mo ma ym dm dt tl hn hm n p c) ∧ rA w' T DR DW ∧ rF w w'
section RL
variable {X : List Int32} {d n p s : Nat} {u : Nat → Nat} {T DR DW : List Int32} {w w' w0 : ex_W} {z : Nat → Int32} {mo ma ym dm dt tl hn hm : Int32} {c : ex_E}
theorem rF.rf : rF w w := fun _ _ _ _ => rfl
theorem rF.tr {w1 w2 : ex_W} (h : rF w w1) (h2 : rF w1 w2) : rF w w2 := fun q a b e => (h2 q a b e).trans (h q a b e)
theorem rF.p59 (h : rF w w') : rF w (ex_put w' 59 c) := fun q a b e => (vg_at_ne (sh_beq (fun x => a x.symm))).trans (h q a b e)
theorem rF.p64 (h : rF w w') : rF w (ex_put w' 64 c) := fun q a b e => (vg_at_ne (sh_beq (fun x => b x.symm))).trans (h q a b e)
theorem rF.p65 (h : rF w w') : rF w (ex_put w' 65 c) := fun q a b e => (vg_at_ne (sh_beq (fun x => e x.symm))).trans (h q a b e)
theorem rA.p59 (h : rA w T DR DW) : rA (ex_put w 59 c) T DR DW := ⟨vg_at_o rfl h.1, vg_at_o rfl h.2.1, vg_at_o rfl h.2.2⟩
theorem rA.p64 (h : rA w T DR DW) (l : List Int32) : rA (ex_put w 64 (.inl (.int, l))) T l DW := ⟨vg_at_o rfl h.1, vg_at_put h.2.1, vg_at_o rfl h.2.2⟩
theorem rA.p65 (h : rA w T DR DW) (l : List Int32) : rA (ex_put w 65 (.inl (.int, l))) T DR l := ⟨vg_at_o rfl h.1, vg_at_o rfl h.2.1, vg_at_put h.2.2⟩
theorem rBd.tr {w1 : ex_W} (h : rF w w1) (h2 : rBd z mo ma ym n s w1 w') : rBd z mo ma ym n s w w' := ⟨h2.1, h.tr h2.2⟩
theorem rGd.tr {w1 : ex_W} (h : rF w w1) (h2 : rGd u z mo ma ym dm dt tl hn hm n p T DR DW w1 w') : rGd u z mo ma ym dm dt tl hn hm n p T DR DW w w' := ⟨h2.1, h2.2.1, h.tr h2.2.2⟩
theorem rAt.ob (h : rAt u z mo ma ym dm dt tl hn hm n p c) : ∃ fs, c = .inr (.inr (8, fs)) := by
  rcases h with ⟨-, va, wa, -, rfl⟩ | ⟨-, dm', dt', tl', hn', hm', po, fr, so, va, fa, hfa, rfl⟩
  · exact ⟨_, rfl⟩
  · exact ⟨_, rfl⟩
/-- what fields a failed one has -/
theorem rBad.ex (h : rBad z mo ma ym n s c) : ∃ dm1 dt1 tl1 hn1 hm1 po1 fr1 so1 va1 fa1, 0 < Int32.toInt fa1 ∧ c = rC z mo ma ym dm1 dt1 tl1 hn1 hm1 (nI n) po1 fr1 so1 va1 fa1 (nI s) := h
/-- one that stands at p: fields, and the first five may be written -/
theorem rAt.ex (h : rAt u z mo ma ym dm dt tl hn hm n p c) : ∃ dm1 dt1 tl1 hn1 hm1 po1 fr1 so1 va1 fa1 wa1, c = rC z mo ma ym dm1 dt1 tl1 hn1 hm1 (nI n) po1 fr1 so1 va1 fa1 wa1 ∧ ((tk_k u n p < 4 ∧ fa1 = 0 ∧ dm1 = dm ∧ dt1 = dt ∧ tl1 = tl ∧ hn1 = hn ∧ hm1 = hm ∧ so1 = nI ((tk_k u n p + 1) % 4)) ∨ (tk_k u n p = 4 ∧ 0 < Int32.toInt fa1 ∧ wa1 = nI (tk_s u n p))) ∧ (∀ x, rAt u z mo ma ym x dt tl hn hm n p (rC z mo ma ym x dt1 tl1 hn1 hm1 (nI n) po1 fr1 so1 va1 fa1 wa1)) ∧ (∀ x, rAt u z mo ma ym dm x tl hn hm n p (rC z mo ma ym dm1 x tl1 hn1 hm1 (nI n) po1 fr1 so1 va1 fa1 wa1)) := by
  rcases h with ⟨k, va, wa, hva, rfl⟩ | ⟨k, dm', dt', tl', hn', hm', po, fr, so, va, fa, hfa, rfl⟩
  · exact ⟨dm, dt, tl, hn, hm, _, _, _, va, 0, wa, rfl, Or.inl ⟨k, rfl, rfl, rfl, rfl, rfl, rfl, rfl⟩, fun x => Or.inl ⟨k, va, wa, hva, rfl⟩, fun x => Or.inl ⟨k, va, wa, hva, rfl⟩⟩
  · exact ⟨dm', dt', tl', hn', hm', po, fr, so, va, fa, _, rfl, Or.inr ⟨k, hfa, rfl⟩, fun x => Or.inr ⟨k, x, dt', tl', hn', hm', po, fr, so, va, fa, hfa, rfl⟩, fun x => Or.inr ⟨k, dm', x, tl', hn', hm', po, fr, so, va, fa, hfa, rfl⟩⟩
theorem rl_tailb {o1 : Option Value} (h59 : ex_at w 59 = some c) (hb : rBad z mo ma ym n s c) (h66 : ex_at w 66 = some (.inl (.int, T))) (hF : rF w0 w) : ∃ w', Go X (d + 1) mt_97 (123, [some (.ref 59), o1], []) w (none, w') ∧ rBd z mo ma ym n s w0 w' := by
  have hb' := hb
  obtain ⟨dm', dt', tl', hn', hm', po, fr, so, va, fa, hfa, rfl⟩ := hb'
  exact ⟨w, rrl_t1 h59 (by omega) (rf_nextb h59 hb h66), ⟨_, h59, hb⟩, hF⟩
theorem rl_tail {o1 : Option Value} (hB : rB u n T) (hp : p ≤ n) (h59 : ex_at w 59 = some c) (hc : rAt u z mo ma ym dm dt tl hn hm n p c) (hA : rA w T DR DW) (hF : rF w0 w) : (tk_k u n p = 2 → ∃ w', Go X (d + 2) mt_97 (123, [some (.ref 59), o1], []) w (none, w') ∧ rGd u z mo ma ym dm dt tl hn hm n (tk_e u n p) T DR DW w0 w') ∧ (¬ tk_k u n p = 2 → ∃ w', Go X (d + 2) mt_97 (123, [some (.ref 59), o1], []) w (none, w') ∧ rBd z mo ma ym n (tk_s u n p) w0 w') := by
  rcases hc with ⟨k, hc⟩ | ⟨k, hb⟩
  · have hc' := hc
    obtain ⟨va, wa, hva, rfl⟩ := hc'
    have es : (nI ((tk_k u n p + 1) % 4)).toInt = (((tk_k u n p + 1) % 4 : Nat) : Int) := nI_toInt (by omega)
    constructor
    · intro k2
      obtain ⟨c', h1, g⟩ := rf_next (X := X) (d := d) hB hp k h59 hc hA.1
      exact ⟨_, rrl_t2 h59 (by omega) g, ⟨c', vg_at_put h59, h1⟩, hA.p59, hF.p59⟩
    · intro k2
      have hb : rBad z mo ma ym n (tk_s u n p) (rC z mo ma ym dm dt tl hn hm (nI n) (nI (tk_e u n p)) (nI (tk_s u n p)) (nI ((tk_k u n p + 1) % 4)) va 2 (nI (tk_s u n p))) := ⟨dm, dt, tl, hn, hm, _, _, _, _, 2, by decide, rfl⟩
      exact ⟨_, rrl_t3 h59 (by omega) (rf_nextb (vg_at_put h59) hb (vg_at_o rfl hA.1)), ⟨_, vg_at_put h59, hb⟩, hF.p59⟩
  · exact ⟨fun k2 => absurd k2 (by omega), fun _ => rl_tailb h59 hb hA.1 hF⟩
/-- no line begins so -/
theorem rl_none (hk : tk_k u n p < 3) (h59 : ex_at w 59 = some c) (hc : rOk u z mo ma ym dm dt tl hn hm n p c) (hA : rA w T DR DW) (h : ¬ tk_k u n p = 0 ∨ Go X (d + 5) mt_160 (ex_ent mt_160 [.ref 59]) w (some (.int ((Int8.ofInt (-4)).toInt32)), w)) : ∃ w', Go X (d + 6) mt_97 (ex_ent mt_97 [.ref 59]) w (none, w') ∧ rBd z mo ma ym n (tk_s u n p) w w' := by
  obtain ⟨va, wa, hva, rfl⟩ := hc
  have es : (nI ((tk_k u n p + 1) % 4)).toInt = (((tk_k u n p + 1) % 4 : Nat) : Int) := nI_toInt (by omega)
  have hb : rBad z mo ma ym n (tk_s u n p) (rC z mo ma ym dm dt tl hn hm (nI n) (nI (tk_e u n p)) (nI (tk_s u n p)) (nI ((tk_k u n p + 1) % 4)) va 2 (nI (tk_s u n p))) := ⟨dm, dt, tl, hn, hm, _, _, _, _, 2, by decide, rfl⟩
  have gn := rf_nextb (X := X) (d := d + 5) (vg_at_put h59) hb (vg_at_o rfl hA.1)
  by_cases k0 : tk_k u n p = 0
  · rcases h with h | h
    · exact absurd k0 h
    · exact ⟨_, rrl_9 h59 hA.2.1 (by omega) h gn, ⟨_, vg_at_put h59, hb⟩, rF.rf.p59⟩
  · exact ⟨_, rrl_n h59 hA.2.1 (by omega) gn, ⟨_, vg_at_put h59, hb⟩, rF.rf.p59⟩
theorem rh_0_a (hB : rB u n T) (hp : p ≤ n) (hk : tk_k u n p = 0) (h59 : ex_at w 59 = some c) (hc : rOk u z mo ma ym dm dt tl hn hm n p c) (hA : rA w T DR DW) (hl : Go X (d + 5) mt_160 (ex_ent mt_160 [.ref 59]) w (some (.int 0), w)) (hb : ¬ Int32.toInt ((tl >>> (0 &&& 31)) &&& 1) = 0) : ∃ w', Go X (d + 6) mt_97 (ex_ent mt_97 [.ref 59]) w (none, w') ∧ rBd z mo ma ym n (tk_s u n p) w w' := by
  obtain ⟨va, wa, hva, rfl⟩ := hc
  have es : (nI ((tk_k u n p + 1) % 4)).toInt = 1 := by rw [hk]; decide
  have hb' : rBad z mo ma ym n (tk_s u n p) (rC z mo ma ym dm dt (tl ||| ((1 : Int32) <<< (0 &&& 31))) hn hm (nI n) (nI (tk_e u n p)) (nI (tk_s u n p)) (nI ((tk_k u n p + 1) % 4)) va 4 (nI (tk_s u n p))) := ⟨_, _, _, _, _, _, _, _, _, 4, by decide, rfl⟩
  exact ⟨_, rrl_0_a h59 hA.2.1 es hl hb (rf_nextb (vg_at_put h59) hb' (vg_at_o rfl hA.1)), ⟨_, vg_at_put h59, hb'⟩, rF.rf.p59⟩
theorem rh_0 (hB : rB u n T) (hp : p ≤ n) (hk : tk_k u n p = 0) (h59 : ex_at w 59 = some c) (hc : rOk u z mo ma ym dm dt tl hn hm n p c) (hA : rA w T DR DW) (hl : Go X (d + 5) mt_160 (ex_ent mt_160 [.ref 59]) w (some (.int 0), w)) (hb : Int32.toInt ((tl >>> (0 &&& 31)) &&& 1) = 0) : (tk_k u n (tk_e u n p) = 4 → ∃ w', Go X (d + 6) mt_97 (ex_ent mt_97 [.ref 59]) w (none, w') ∧ rBd z mo ma ym n (tk_s u n (tk_e u n p)) w w') ∧ (tk_k u n (tk_e u n p) < 4 → ∃ c', rOk u z mo ma ym dm dt (tl ||| ((1 : Int32) <<< (0 &&& 31))) hn hm n (tk_e u n p) c' ∧ ∀ q, Go X (d + 6) mt_97 (118, [some (.ref 59), some (.int 0)], []) (ex_put w 59 c') q → Go X (d + 6) mt_97 (ex_ent mt_97 [.ref 59]) w q) := by
  obtain ⟨va, wa, hva, rfl⟩ := hc
  have es : (nI ((tk_k u n p + 1) % 4)).toInt = 1 := by rw [hk]; decide
  obtain ⟨c', h1, g⟩ := rf_next (X := X) (d := d + 4) (w := (ex_put w 59 (rC z mo ma ym dm dt (tl ||| ((1 : Int32) <<< (0 &&& 31))) hn hm (nI n) (nI (tk_e u n p)) (nI (tk_s u n p)) (nI ((tk_k u n p + 1) % 4)) va 0 wa))) hB hp (by omega) (vg_at_put h59) (show rOk u z mo ma ym dm dt (tl ||| ((1 : Int32) <<< (0 &&& 31))) hn hm n p _ from ⟨va, wa, hva, rfl⟩) (vg_at_o rfl hA.1)
  rw [fp_put2] at g
  rcases h1 with ⟨k4, hok⟩ | ⟨k4, hb4⟩
  · refine ⟨fun h => absurd h (by omega), fun _ => ⟨c', hok, fun q kk => ?_⟩⟩
    obtain ⟨va', wa', hva', rfl⟩ := hok
    exact rrl_0_c h59 hA.2.1 es hl hb g (vg_at_put h59) (by decide) kk
  · refine ⟨fun _ => ?_, fun h => absurd h (by omega)⟩
    have hb5 := hb4
    obtain ⟨dm', dt', tl', hn', hm', po, fr, so, va', fa, hfa, rfl⟩ := hb5
    exact ⟨_, rrl_0_b h59 hA.2.1 es hl hb g (vg_at_put h59) hfa, ⟨_, vg_at_put h59, hb4⟩, rF.rf.p59⟩
theorem rh_1_a (hB : rB u n T) (hp : p ≤ n) (hk : tk_k u n p = 0) (h59 : ex_at w 59 = some c) (hc : rOk u z mo ma ym dm dt tl hn hm n p c) (hA : rA w T DR DW) (hl : Go X (d + 5) mt_160 (ex_ent mt_160 [.ref 59]) w (some (.int 1), w)) (hb : ¬ Int32.toInt ((tl >>> (1 &&& 31)) &&& 1) = 0) : ∃ w', Go X (d + 6) mt_97 (ex_ent mt_97 [.ref 59]) w (none, w') ∧ rBd z mo ma ym n (tk_s u n p) w w' := by
  obtain ⟨va, wa, hva, rfl⟩ := hc
  have es : (nI ((tk_k u n p + 1) % 4)).toInt = 1 := by rw [hk]; decide
  have hb' : rBad z mo ma ym n (tk_s u n p) (rC z mo ma ym dm dt (tl ||| ((1 : Int32) <<< (1 &&& 31))) hn hm (nI n) (nI (tk_e u n p)) (nI (tk_s u n p)) (nI ((tk_k u n p + 1) % 4)) va 4 (nI (tk_s u n p))) := ⟨_, _, _, _, _, _, _, _, _, 4, by decide, rfl⟩
  exact ⟨_, rrl_1_a h59 hA.2.1 es hl hb (rf_nextb (vg_at_put h59) hb' (vg_at_o rfl hA.1)), ⟨_, vg_at_put h59, hb'⟩, rF.rf.p59⟩
theorem rh_1 (hB : rB u n T) (hp : p ≤ n) (hk : tk_k u n p = 0) (h59 : ex_at w 59 = some c) (hc : rOk u z mo ma ym dm dt tl hn hm n p c) (hA : rA w T DR DW) (hl : Go X (d + 5) mt_160 (ex_ent mt_160 [.ref 59]) w (some (.int 1), w)) (hb : Int32.toInt ((tl >>> (1 &&& 31)) &&& 1) = 0) : (tk_k u n (tk_e u n p) = 4 → ∃ w', Go X (d + 6) mt_97 (ex_ent mt_97 [.ref 59]) w (none, w') ∧ rBd z mo ma ym n (tk_s u n (tk_e u n p)) w w') ∧ (tk_k u n (tk_e u n p) < 4 → ∃ c', rOk u z mo ma ym dm dt (tl ||| ((1 : Int32) <<< (1 &&& 31))) hn hm n (tk_e u n p) c' ∧ ∀ q, Go X (d + 6) mt_97 (118, [some (.ref 59), some (.int 1)], []) (ex_put w 59 c') q → Go X (d + 6) mt_97 (ex_ent mt_97 [.ref 59]) w q) := by
  obtain ⟨va, wa, hva, rfl⟩ := hc
  have es : (nI ((tk_k u n p + 1) % 4)).toInt = 1 := by rw [hk]; decide
  obtain ⟨c', h1, g⟩ := rf_next (X := X) (d := d + 4) (w := (ex_put w 59 (rC z mo ma ym dm dt (tl ||| ((1 : Int32) <<< (1 &&& 31))) hn hm (nI n) (nI (tk_e u n p)) (nI (tk_s u n p)) (nI ((tk_k u n p + 1) % 4)) va 0 wa))) hB hp (by omega) (vg_at_put h59) (show rOk u z mo ma ym dm dt (tl ||| ((1 : Int32) <<< (1 &&& 31))) hn hm n p _ from ⟨va, wa, hva, rfl⟩) (vg_at_o rfl hA.1)
  rw [fp_put2] at g
  rcases h1 with ⟨k4, hok⟩ | ⟨k4, hb4⟩
  · refine ⟨fun h => absurd h (by omega), fun _ => ⟨c', hok, fun q kk => ?_⟩⟩
    obtain ⟨va', wa', hva', rfl⟩ := hok
    exact rrl_1_c h59 hA.2.1 es hl hb g (vg_at_put h59) (by decide) kk
  · refine ⟨fun _ => ?_, fun h => absurd h (by omega)⟩
    have hb5 := hb4
    obtain ⟨dm', dt', tl', hn', hm', po, fr, so, va', fa, hfa, rfl⟩ := hb5
    exact ⟨_, rrl_1_b h59 hA.2.1 es hl hb g (vg_at_put h59) hfa, ⟨_, vg_at_put h59, hb4⟩, rF.rf.p59⟩
theorem rh_2_a (hB : rB u n T) (hp : p ≤ n) (hk : tk_k u n p = 0) (h59 : ex_at w 59 = some c) (hc : rOk u z mo ma ym dm dt tl hn hm n p c) (hA : rA w T DR DW) (hl : Go X (d + 5) mt_160 (ex_ent mt_160 [.ref 59]) w (some (.int 2), w)) (hb : ¬ Int32.toInt ((tl >>> (2 &&& 31)) &&& 1) = 0) : ∃ w', Go X (d + 6) mt_97 (ex_ent mt_97 [.ref 59]) w (none, w') ∧ rBd z mo ma ym n (tk_s u n p) w w' := by
  obtain ⟨va, wa, hva, rfl⟩ := hc
  have es : (nI ((tk_k u n p + 1) % 4)).toInt = 1 := by rw [hk]; decide
  have hb' : rBad z mo ma ym n (tk_s u n p) (rC z mo ma ym dm dt (tl ||| ((1 : Int32) <<< (2 &&& 31))) hn hm (nI n) (nI (tk_e u n p)) (nI (tk_s u n p)) (nI ((tk_k u n p + 1) % 4)) va 4 (nI (tk_s u n p))) := ⟨_, _, _, _, _, _, _, _, _, 4, by decide, rfl⟩
  exact ⟨_, rrl_2_a h59 hA.2.1 es hl hb (rf_nextb (vg_at_put h59) hb' (vg_at_o rfl hA.1)), ⟨_, vg_at_put h59, hb'⟩, rF.rf.p59⟩
theorem rh_2 (hB : rB u n T) (hp : p ≤ n) (hk : tk_k u n p = 0) (h59 : ex_at w 59 = some c) (hc : rOk u z mo ma ym dm dt tl hn hm n p c) (hA : rA w T DR DW) (hl : Go X (d + 5) mt_160 (ex_ent mt_160 [.ref 59]) w (some (.int 2), w)) (hb : Int32.toInt ((tl >>> (2 &&& 31)) &&& 1) = 0) : (tk_k u n (tk_e u n p) = 4 → ∃ w', Go X (d + 6) mt_97 (ex_ent mt_97 [.ref 59]) w (none, w') ∧ rBd z mo ma ym n (tk_s u n (tk_e u n p)) w w') ∧ (tk_k u n (tk_e u n p) < 4 → ∃ c', rOk u z mo ma ym dm dt (tl ||| ((1 : Int32) <<< (2 &&& 31))) hn hm n (tk_e u n p) c' ∧ ∀ q, Go X (d + 6) mt_97 (118, [some (.ref 59), some (.int 2)], []) (ex_put w 59 c') q → Go X (d + 6) mt_97 (ex_ent mt_97 [.ref 59]) w q) := by
  obtain ⟨va, wa, hva, rfl⟩ := hc
  have es : (nI ((tk_k u n p + 1) % 4)).toInt = 1 := by rw [hk]; decide
  obtain ⟨c', h1, g⟩ := rf_next (X := X) (d := d + 4) (w := (ex_put w 59 (rC z mo ma ym dm dt (tl ||| ((1 : Int32) <<< (2 &&& 31))) hn hm (nI n) (nI (tk_e u n p)) (nI (tk_s u n p)) (nI ((tk_k u n p + 1) % 4)) va 0 wa))) hB hp (by omega) (vg_at_put h59) (show rOk u z mo ma ym dm dt (tl ||| ((1 : Int32) <<< (2 &&& 31))) hn hm n p _ from ⟨va, wa, hva, rfl⟩) (vg_at_o rfl hA.1)
  rw [fp_put2] at g
  rcases h1 with ⟨k4, hok⟩ | ⟨k4, hb4⟩
  · refine ⟨fun h => absurd h (by omega), fun _ => ⟨c', hok, fun q kk => ?_⟩⟩
    obtain ⟨va', wa', hva', rfl⟩ := hok
    exact rrl_2_c h59 hA.2.1 es hl hb g (vg_at_put h59) (by decide) kk
  · refine ⟨fun _ => ?_, fun h => absurd h (by omega)⟩
    have hb5 := hb4
    obtain ⟨dm', dt', tl', hn', hm', po, fr, so, va', fa, hfa, rfl⟩ := hb5
    exact ⟨_, rrl_2_b h59 hA.2.1 es hl hb g (vg_at_put h59) hfa, ⟨_, vg_at_put h59, hb4⟩, rF.rf.p59⟩
theorem rh_3_a (hB : rB u n T) (hp : p ≤ n) (hk : tk_k u n p = 0) (h59 : ex_at w 59 = some c) (hc : rOk u z mo ma ym dm dt tl hn hm n p c) (hA : rA w T DR DW) (hl : Go X (d + 5) mt_160 (ex_ent mt_160 [.ref 59]) w (some (.int 3), w)) (hb : ¬ Int32.toInt ((tl >>> (3 &&& 31)) &&& 1) = 0) : ∃ w', Go X (d + 6) mt_97 (ex_ent mt_97 [.ref 59]) w (none, w') ∧ rBd z mo ma ym n (tk_s u n p) w w' := by
  obtain ⟨va, wa, hva, rfl⟩ := hc
  have es : (nI ((tk_k u n p + 1) % 4)).toInt = 1 := by rw [hk]; decide
  have hb' : rBad z mo ma ym n (tk_s u n p) (rC z mo ma ym dm dt (tl ||| ((1 : Int32) <<< (3 &&& 31))) hn hm (nI n) (nI (tk_e u n p)) (nI (tk_s u n p)) (nI ((tk_k u n p + 1) % 4)) va 4 (nI (tk_s u n p))) := ⟨_, _, _, _, _, _, _, _, _, 4, by decide, rfl⟩
  exact ⟨_, rrl_3_a h59 hA.2.1 es hl hb (rf_nextb (vg_at_put h59) hb' (vg_at_o rfl hA.1)), ⟨_, vg_at_put h59, hb'⟩, rF.rf.p59⟩
theorem rh_3 (hB : rB u n T) (hp : p ≤ n) (hk : tk_k u n p = 0) (h59 : ex_at w 59 = some c) (hc : rOk u z mo ma ym dm dt tl hn hm n p c) (hA : rA w T DR DW) (hl : Go X (d + 5) mt_160 (ex_ent mt_160 [.ref 59]) w (some (.int 3), w)) (hb : Int32.toInt ((tl >>> (3 &&& 31)) &&& 1) = 0) : (tk_k u n (tk_e u n p) = 4 → ∃ w', Go X (d + 6) mt_97 (ex_ent mt_97 [.ref 59]) w (none, w') ∧ rBd z mo ma ym n (tk_s u n (tk_e u n p)) w w') ∧ (tk_k u n (tk_e u n p) < 4 → ∃ c', rOk u z mo ma ym dm dt (tl ||| ((1 : Int32) <<< (3 &&& 31))) hn hm n (tk_e u n p) c' ∧ ∀ q, Go X (d + 6) mt_97 (118, [some (.ref 59), some (.int 3)], []) (ex_put w 59 c') q → Go X (d + 6) mt_97 (ex_ent mt_97 [.ref 59]) w q) := by
  obtain ⟨va, wa, hva, rfl⟩ := hc
  have es : (nI ((tk_k u n p + 1) % 4)).toInt = 1 := by rw [hk]; decide
  obtain ⟨c', h1, g⟩ := rf_next (X := X) (d := d + 4) (w := (ex_put w 59 (rC z mo ma ym dm dt (tl ||| ((1 : Int32) <<< (3 &&& 31))) hn hm (nI n) (nI (tk_e u n p)) (nI (tk_s u n p)) (nI ((tk_k u n p + 1) % 4)) va 0 wa))) hB hp (by omega) (vg_at_put h59) (show rOk u z mo ma ym dm dt (tl ||| ((1 : Int32) <<< (3 &&& 31))) hn hm n p _ from ⟨va, wa, hva, rfl⟩) (vg_at_o rfl hA.1)
  rw [fp_put2] at g
  rcases h1 with ⟨k4, hok⟩ | ⟨k4, hb4⟩
  · refine ⟨fun h => absurd h (by omega), fun _ => ⟨c', hok, fun q kk => ?_⟩⟩
    obtain ⟨va', wa', hva', rfl⟩ := hok
    exact rrl_3_c h59 hA.2.1 es hl hb g (vg_at_put h59) (by decide) kk
  · refine ⟨fun _ => ?_, fun h => absurd h (by omega)⟩
    have hb5 := hb4
    obtain ⟨dm', dt', tl', hn', hm', po, fr, so, va', fa, hfa, rfl⟩ := hb5
    exact ⟨_, rrl_3_b h59 hA.2.1 es hl hb g (vg_at_put h59) hfa, ⟨_, vg_at_put h59, hb4⟩, rF.rf.p59⟩
theorem rh_4_a (hB : rB u n T) (hp : p ≤ n) (hk : tk_k u n p = 0) (h59 : ex_at w 59 = some c) (hc : rOk u z mo ma ym dm dt tl hn hm n p c) (hA : rA w T DR DW) (hl : Go X (d + 5) mt_160 (ex_ent mt_160 [.ref 59]) w (some (.int 4), w)) (hb : ¬ Int32.toInt ((tl >>> (4 &&& 31)) &&& 1) = 0) : ∃ w', Go X (d + 6) mt_97 (ex_ent mt_97 [.ref 59]) w (none, w') ∧ rBd z mo ma ym n (tk_s u n p) w w' := by
  obtain ⟨va, wa, hva, rfl⟩ := hc
  have es : (nI ((tk_k u n p + 1) % 4)).toInt = 1 := by rw [hk]; decide
  have hb' : rBad z mo ma ym n (tk_s u n p) (rC z mo ma ym dm dt (tl ||| ((1 : Int32) <<< (4 &&& 31))) hn hm (nI n) (nI (tk_e u n p)) (nI (tk_s u n p)) (nI ((tk_k u n p + 1) % 4)) va 4 (nI (tk_s u n p))) := ⟨_, _, _, _, _, _, _, _, _, 4, by decide, rfl⟩
  exact ⟨_, rrl_4_a h59 hA.2.1 es hl hb (rf_nextb (vg_at_put h59) hb' (vg_at_o rfl hA.1)), ⟨_, vg_at_put h59, hb'⟩, rF.rf.p59⟩
theorem rh_4 (hB : rB u n T) (hp : p ≤ n) (hk : tk_k u n p = 0) (h59 : ex_at w 59 = some c) (hc : rOk u z mo ma ym dm dt tl hn hm n p c) (hA : rA w T DR DW) (hl : Go X (d + 5) mt_160 (ex_ent mt_160 [.ref 59]) w (some (.int 4), w)) (hb : Int32.toInt ((tl >>> (4 &&& 31)) &&& 1) = 0) : (tk_k u n (tk_e u n p) = 4 → ∃ w', Go X (d + 6) mt_97 (ex_ent mt_97 [.ref 59]) w (none, w') ∧ rBd z mo ma ym n (tk_s u n (tk_e u n p)) w w') ∧ (tk_k u n (tk_e u n p) < 4 → ∃ c', rOk u z mo ma ym dm dt (tl ||| ((1 : Int32) <<< (4 &&& 31))) hn hm n (tk_e u n p) c' ∧ ∀ q, Go X (d + 6) mt_97 (118, [some (.ref 59), some (.int 4)], []) (ex_put w 59 c') q → Go X (d + 6) mt_97 (ex_ent mt_97 [.ref 59]) w q) := by
  obtain ⟨va, wa, hva, rfl⟩ := hc
  have es : (nI ((tk_k u n p + 1) % 4)).toInt = 1 := by rw [hk]; decide
  obtain ⟨c', h1, g⟩ := rf_next (X := X) (d := d + 4) (w := (ex_put w 59 (rC z mo ma ym dm dt (tl ||| ((1 : Int32) <<< (4 &&& 31))) hn hm (nI n) (nI (tk_e u n p)) (nI (tk_s u n p)) (nI ((tk_k u n p + 1) % 4)) va 0 wa))) hB hp (by omega) (vg_at_put h59) (show rOk u z mo ma ym dm dt (tl ||| ((1 : Int32) <<< (4 &&& 31))) hn hm n p _ from ⟨va, wa, hva, rfl⟩) (vg_at_o rfl hA.1)
  rw [fp_put2] at g
  rcases h1 with ⟨k4, hok⟩ | ⟨k4, hb4⟩
  · refine ⟨fun h => absurd h (by omega), fun _ => ⟨c', hok, fun q kk => ?_⟩⟩
    obtain ⟨va', wa', hva', rfl⟩ := hok
    exact rrl_4_c h59 hA.2.1 es hl hb g (vg_at_put h59) (by decide) kk
  · refine ⟨fun _ => ?_, fun h => absurd h (by omega)⟩
    have hb5 := hb4
    obtain ⟨dm', dt', tl', hn', hm', po, fr, so, va', fa, hfa, rfl⟩ := hb5
    exact ⟨_, rrl_4_b h59 hA.2.1 es hl hb g (vg_at_put h59) hfa, ⟨_, vg_at_put h59, hb4⟩, rF.rf.p59⟩
theorem rh_5 (hB : rB u n T) (hp : p ≤ n) (hk : tk_k u n p = 0) (h59 : ex_at w 59 = some c) (hc : rOk u z mo ma ym dm dt tl hn hm n p c) (hA : rA w T DR DW) (hl : Go X (d + 5) mt_160 (ex_ent mt_160 [.ref 59]) w (some (.int 5), w))  : (tk_k u n (tk_e u n p) = 4 → ∃ w', Go X (d + 6) mt_97 (ex_ent mt_97 [.ref 59]) w (none, w') ∧ rBd z mo ma ym n (tk_s u n (tk_e u n p)) w w') ∧ (tk_k u n (tk_e u n p) < 4 → ∃ c', rOk u z mo ma ym dm dt tl hn hm n (tk_e u n p) c' ∧ ∀ q, Go X (d + 6) mt_97 (118, [some (.ref 59), some (.int 5)], []) (ex_put w 59 c') q → Go X (d + 6) mt_97 (ex_ent mt_97 [.ref 59]) w q) := by
  obtain ⟨va, wa, hva, rfl⟩ := hc
  have es : (nI ((tk_k u n p + 1) % 4)).toInt = 1 := by rw [hk]; decide
  obtain ⟨c', h1, g⟩ := rf_next (X := X) (d := d + 4) (w := w) hB hp (by omega) h59 (show rOk u z mo ma ym dm dt tl hn hm n p _ from ⟨va, wa, hva, rfl⟩) hA.1
  skip
  rcases h1 with ⟨k4, hok⟩ | ⟨k4, hb4⟩
  · refine ⟨fun h => absurd h (by omega), fun _ => ⟨c', hok, fun q kk => ?_⟩⟩
    obtain ⟨va', wa', hva', rfl⟩ := hok
    exact rrl_5_c h59 hA.2.1 es hl  g (vg_at_put h59) (by decide) kk
  · refine ⟨fun _ => ?_, fun h => absurd h (by omega)⟩
    have hb5 := hb4
    obtain ⟨dm', dt', tl', hn', hm', po, fr, so, va', fa, hfa, rfl⟩ := hb5
    exact ⟨_, rrl_5_b h59 hA.2.1 es hl  g (vg_at_put h59) hfa, ⟨_, vg_at_put h59, hb4⟩, rF.rf.p59⟩
theorem rh_6 (hB : rB u n T) (hp : p ≤ n) (hk : tk_k u n p = 0) (h59 : ex_at w 59 = some c) (hc : rOk u z mo ma ym dm dt tl hn hm n p c) (hA : rA w T DR DW) (hl : Go X (d + 5) mt_160 (ex_ent mt_160 [.ref 59]) w (some (.int 6), w))  : (tk_k u n (tk_e u n p) = 4 → ∃ w', Go X (d + 6) mt_97 (ex_ent mt_97 [.ref 59]) w (none, w') ∧ rBd z mo ma ym n (tk_s u n (tk_e u n p)) w w') ∧ (tk_k u n (tk_e u n p) < 4 → ∃ c', rOk u z mo ma ym dm dt tl hn hm n (tk_e u n p) c' ∧ ∀ q, Go X (d + 6) mt_97 (118, [some (.ref 59), some (.int 6)], []) (ex_put w 59 c') q → Go X (d + 6) mt_97 (ex_ent mt_97 [.ref 59]) w q) := by
  obtain ⟨va, wa, hva, rfl⟩ := hc
  have es : (nI ((tk_k u n p + 1) % 4)).toInt = 1 := by rw [hk]; decide
  obtain ⟨c', h1, g⟩ := rf_next (X := X) (d := d + 4) (w := w) hB hp (by omega) h59 (show rOk u z mo ma ym dm dt tl hn hm n p _ from ⟨va, wa, hva, rfl⟩) hA.1
  skip
  rcases h1 with ⟨k4, hok⟩ | ⟨k4, hb4⟩
  · refine ⟨fun h => absurd h (by omega), fun _ => ⟨c', hok, fun q kk => ?_⟩⟩
    obtain ⟨va', wa', hva', rfl⟩ := hok
    exact rrl_6_c h59 hA.2.1 es hl  g (vg_at_put h59) (by decide) kk
  · refine ⟨fun _ => ?_, fun h => absurd h (by omega)⟩
    have hb5 := hb4
    obtain ⟨dm', dt', tl', hn', hm', po, fr, so, va', fa, hfa, rfl⟩ := hb5
    exact ⟨_, rrl_6_b h59 hA.2.1 es hl  g (vg_at_put h59) hfa, ⟨_, vg_at_put h59, hb4⟩, rF.rf.p59⟩
theorem rh_7 (hB : rB u n T) (hp : p ≤ n) (hk : tk_k u n p = 0) (h59 : ex_at w 59 = some c) (hc : rOk u z mo ma ym dm dt tl hn hm n p c) (hA : rA w T DR DW) (hl : Go X (d + 5) mt_160 (ex_ent mt_160 [.ref 59]) w (some (.int 7), w))  : (tk_k u n (tk_e u n p) = 4 → ∃ w', Go X (d + 6) mt_97 (ex_ent mt_97 [.ref 59]) w (none, w') ∧ rBd z mo ma ym n (tk_s u n (tk_e u n p)) w w') ∧ (tk_k u n (tk_e u n p) < 4 → ∃ c', rOk u z mo ma ym dm dt tl hn hm n (tk_e u n p) c' ∧ ∀ q, Go X (d + 6) mt_97 (118, [some (.ref 59), some (.int 7)], []) (ex_put w 59 c') q → Go X (d + 6) mt_97 (ex_ent mt_97 [.ref 59]) w q) := by
  obtain ⟨va, wa, hva, rfl⟩ := hc
  have es : (nI ((tk_k u n p + 1) % 4)).toInt = 1 := by rw [hk]; decide
  obtain ⟨c', h1, g⟩ := rf_next (X := X) (d := d + 4) (w := w) hB hp (by omega) h59 (show rOk u z mo ma ym dm dt tl hn hm n p _ from ⟨va, wa, hva, rfl⟩) hA.1
  skip
  rcases h1 with ⟨k4, hok⟩ | ⟨k4, hb4⟩
  · refine ⟨fun h => absurd h (by omega), fun _ => ⟨c', hok, fun q kk => ?_⟩⟩
    obtain ⟨va', wa', hva', rfl⟩ := hok
    exact rrl_7_c h59 hA.2.1 es hl  g (vg_at_put h59) (by decide) kk
  · refine ⟨fun _ => ?_, fun h => absurd h (by omega)⟩
    have hb5 := hb4
    obtain ⟨dm', dt', tl', hn', hm', po, fr, so, va', fa, hfa, rfl⟩ := hb5
    exact ⟨_, rrl_7_b h59 hA.2.1 es hl  g (vg_at_put h59) hfa, ⟨_, vg_at_put h59, hb4⟩, rF.rf.p59⟩
theorem rh_8 (hB : rB u n T) (hp : p ≤ n) (hk : tk_k u n p = 0) (h59 : ex_at w 59 = some c) (hc : rOk u z mo ma ym dm dt tl hn hm n p c) (hA : rA w T DR DW) (hl : Go X (d + 5) mt_160 (ex_ent mt_160 [.ref 59]) w (some (.int 8), w)) (hix : DR.length = 96) (hb : Int32.toInt (DR.getD 87 0) < 4) : (tk_k u n (tk_e u n p) = 4 → ∃ w', Go X (d + 6) mt_97 (ex_ent mt_97 [.ref 59]) w (none, w') ∧ rBd z mo ma ym n (tk_s u n (tk_e u n p)) w w') ∧ (tk_k u n (tk_e u n p) < 4 → ∃ c', rOk u z mo ma ym dm dt tl hn hm n (tk_e u n p) c' ∧ ∀ q, Go X (d + 6) mt_97 (118, [some (.ref 59), some (.int 8)], []) (ex_put w 59 c') q → Go X (d + 6) mt_97 (ex_ent mt_97 [.ref 59]) w q) := by
  obtain ⟨va, wa, hva, rfl⟩ := hc
  have es : (nI ((tk_k u n p + 1) % 4)).toInt = 1 := by rw [hk]; decide
  obtain ⟨c', h1, g⟩ := rf_next (X := X) (d := d + 4) (w := w) hB hp (by omega) h59 (show rOk u z mo ma ym dm dt tl hn hm n p _ from ⟨va, wa, hva, rfl⟩) hA.1
  skip
  rcases h1 with ⟨k4, hok⟩ | ⟨k4, hb4⟩
  · refine ⟨fun h => absurd h (by omega), fun _ => ⟨c', hok, fun q kk => ?_⟩⟩
    obtain ⟨va', wa', hva', rfl⟩ := hok
    exact rrl_8_c h59 hA.2.1 es hl (by rw [hix]; decide) (by rw [show Int32.toNatClampNeg 87 = 87 by decide, ex_gd_eq]; exact hb) g (vg_at_put h59) (by decide) kk
  · refine ⟨fun _ => ?_, fun h => absurd h (by omega)⟩
    have hb5 := hb4
    obtain ⟨dm', dt', tl', hn', hm', po, fr, so, va', fa, hfa, rfl⟩ := hb5
    exact ⟨_, rrl_8_b h59 hA.2.1 es hl (by rw [hix]; decide) (by rw [show Int32.toNatClampNeg 87 = 87 by decide, ex_gd_eq]; exact hb) g (vg_at_put h59) hfa, ⟨_, vg_at_put h59, hb4⟩, rF.rf.p59⟩
theorem rh_8_a (hB : rB u n T) (hp : p ≤ n) (hk : tk_k u n p = 0) (h59 : ex_at w 59 = some c) (hc : rOk u z mo ma ym dm dt tl hn hm n p c) (hA : rA w T DR DW) (hl : Go X (d + 5) mt_160 (ex_ent mt_160 [.ref 59]) w (some (.int 8), w)) (hix : DR.length = 96) (hb : Int32.toInt (DR.getD 87 0) ≥ 4) : ∃ w', Go X (d + 6) mt_97 (ex_ent mt_97 [.ref 59]) w (none, w') ∧ rBd z mo ma ym n (tk_s u n p) w w' := by
  obtain ⟨va, wa, hva, rfl⟩ := hc
  have es : (nI ((tk_k u n p + 1) % 4)).toInt = 1 := by rw [hk]; decide
  have hb' : rBad z mo ma ym n (tk_s u n p) (rC z mo ma ym dm dt tl hn hm (nI n) (nI (tk_e u n p)) (nI (tk_s u n p)) (nI ((tk_k u n p + 1) % 4)) va 5 (nI (tk_s u n p))) := ⟨_, _, _, _, _, _, _, _, _, 5, by decide, rfl⟩
  exact ⟨_, rrl_8_a h59 hA.2.1 es hl (by rw [hix]; decide) (by rw [show Int32.toNatClampNeg 87 = 87 by decide, ex_gd_eq]; exact hb) (rf_nextb (vg_at_put h59) hb' (vg_at_o rfl hA.1)), ⟨_, vg_at_put h59, hb'⟩, rF.rf.p59⟩
theorem rb_0 (hB : rB u n T) (hp : p ≤ n) (hk : tk_k u n p < 4) (h59 : ex_at w 59 = some c) (hc : rOk u z mo ma ym dm dt tl hn hm n p c) (hA : rA w T DR DW) : (okF u n p 4 16 → ∃ w', Go X (d + 5) mt_161 (ex_ent mt_161 [.ref 59, .int 0]) w (none, w') ∧ rGd u z mo ma ym (nI (tk_v u n p)) dt tl hn hm n (tk_e u n p) T DR DW w w') ∧ (¬ okF u n p 4 16 → ∃ w', Go X (d + 5) mt_161 (ex_ent mt_161 [.ref 59, .int 0]) w (none, w') ∧ rBd z mo ma ym n (tk_s u n p) w w') := by
  obtain ⟨fs, hfs⟩ := rAt.ob (Or.inl ⟨hk, hc⟩)
  have h59' := h59
  rw [hfs] at h59'
  rcases rf_num (X := X) (d := d + 2) (lw := 4) (hg := 16) (l := 4) (h := 16) (by decide) (by decide) hB hp h59 (Or.inl ⟨hk, hc⟩) hA.1 with ⟨ho, c', hr, g⟩ | ⟨ho, c', hb, g⟩
  · refine ⟨fun _ => ?_, fun h => absurd ho h⟩
    obtain ⟨dm1, dt1, tl1, hn1, hm1, po1, fr1, so1, va1, fa1, wa1, rfl, -, hx, -⟩ := hr.ex
    have := rlo_0 h59' g (vg_at_put h59)
    rw [fp_put2] at this
    exact ⟨_, this, ⟨_, vg_at_put h59, hx _⟩, hA.p59, rF.rf.p59⟩
  · refine ⟨fun h => absurd h ho, fun _ => ?_⟩
    obtain ⟨dm1, dt1, tl1, hn1, hm1, po1, fr1, so1, va1, fa1, hfa, rfl⟩ := hb.ex
    have := rlo_0 h59' g (vg_at_put h59)
    rw [fp_put2] at this
    exact ⟨_, this, ⟨_, vg_at_put h59, _, _, _, _, _, _, _, _, _, _, hfa, rfl⟩, rF.rf.p59⟩
theorem rb_2 (hB : rB u n T) (hp : p ≤ n) (hk : tk_k u n p < 4) (h59 : ex_at w 59 = some c) (hc : rOk u z mo ma ym dm dt tl hn hm n p c) (hA : rA w T DR DW) (hl : DR.length = 96) : (okF u n p 0 20 → ∃ w', Go X (d + 5) mt_161 (ex_ent mt_161 [.ref 59, .int 2]) w (none, w') ∧ rGd u z mo ma ym dm dt tl hn hm n (tk_e u n p) T (ex_put DR 78 (nI (tk_v u n p))) DW w w') ∧ (¬ okF u n p 0 20 → ∃ w', Go X (d + 5) mt_161 (ex_ent mt_161 [.ref 59, .int 2]) w (none, w') ∧ rBd z mo ma ym n (tk_s u n p) w w') := by
  have hc' := hc
  obtain ⟨va, wa, hva, rfl⟩ := hc'
  have e78 : Int32.toNatClampNeg 78 = 78 := by decide
  have hix : ex_ix 78 DR.length = true := by rw [hl]; decide
  rcases rf_num (X := X) (d := d + 2) (lw := 0) (hg := 20) (l := 0) (h := 20) (by decide) (by decide) hB hp h59 (Or.inl ⟨hk, hc⟩) hA.1 with ⟨ho, c', hr, g⟩ | ⟨ho, c', hb, g⟩
  · refine ⟨fun _ => ?_, fun h => absurd ho h⟩
    have := rlo_2 h59 g (hA.p59).2.1 hix
    rw [e78] at this
    exact ⟨_, this, ⟨c', vg_at_o rfl (vg_at_put h59), hr⟩, (hA.p59).p64 _, (rF.rf.p59).p64⟩
  · refine ⟨fun h => absurd h ho, fun _ => ?_⟩
    exact ⟨_, rlo_2 h59 g (hA.p59).2.1 hix, ⟨c', vg_at_o rfl (vg_at_put h59), hb⟩, (rF.rf.p59).p64⟩
theorem rb_3 (hB : rB u n T) (hp : p ≤ n) (hk : tk_k u n p < 4) (h59 : ex_at w 59 = some c) (hc : rOk u z mo ma ym dm dt tl hn hm n p c) (hA : rA w T DR DW) (hl : DR.length = 96) : ∃ w', Go X (d + 5) mt_161 (ex_ent mt_161 [.ref 59, .int 3]) w (none, w') ∧ rGd u z mo ma ym dm dt tl hn hm n p T (ex_put DR 79 1) DW w w' := by
  have hc' := hc
  obtain ⟨va, wa, hva, rfl⟩ := hc'
  have e79 : Int32.toNatClampNeg 79 = 79 := by decide
  have hix : ex_ix 79 DR.length = true := by rw [hl]; decide
  have := rlo_3 (X := X) (d := d + 5) h59 hA.2.1 hix
  rw [e79] at this
  exact ⟨_, this, ⟨_, vg_at_o rfl h59, Or.inl ⟨hk, hc⟩⟩, hA.p64 _, rF.rf.p64⟩
theorem rb_4 (hB : rB u n T) (hp : p ≤ n) (hk : tk_k u n p < 4) (h59 : ex_at w 59 = some c) (hc : rOk u z mo ma ym dm dt tl hn hm n p c) (hA : rA w T DR DW) (hl : DR.length = 96) : (∀ v, tk_k u n p = 0 → bkR u (tk_s u n p) (tk_e u n p) v → ¬ Int32.toInt v = -4 → ∃ w', Go X (d + 5) mt_161 (ex_ent mt_161 [.ref 59, .int 4]) w (none, w') ∧ rGd u z mo ma ym dm dt tl hn hm n (tk_e u n p) T (ex_put DR 80 v) DW w w') ∧ ((tk_k u n p = 0 → ∃ v, bkR u (tk_s u n p) (tk_e u n p) v ∧ v = (Int8.ofInt (-4)).toInt32) → ∃ w', Go X (d + 5) mt_161 (ex_ent mt_161 [.ref 59, .int 4]) w (none, w') ∧ rBd z mo ma ym n (tk_s u n p) w w') := by
  have hc' := hc
  obtain ⟨va, wa, hva, rfl⟩ := hc'
  have e80 : Int32.toNatClampNeg 80 = 80 := by decide
  have hix : ∀ l : List Int32, l.length = 96 → ex_ix 80 l.length = true := fun l h => by rw [h]; decide
  have hl2 : ∀ v : Int32, (ex_put DR 80 v).length = 96 := fun v => by rw [ex_put_eq, List.length_set]; exact hl
  have hg : ∀ v : Int32, ex_gd (ex_put DR 80 v) 80 = v := fun v => by rw [ex_gd_eq, sh_getD_put (by omega), if_pos rfl]
  have es : (nI ((tk_k u n p + 1) % 4)).toInt = (((tk_k u n p + 1) % 4 : Nat) : Int) := nI_toInt (by omega)
  have hse := tk_s_le u hp
  have bkinj : ∀ a b, bkR u (tk_s u n p) (tk_e u n p) a → bkR u (tk_s u n p) (tk_e u n p) b → a = b := by
    intro a b h1 h2
    rcases h1 with ⟨h, rfl⟩ | ⟨h, rfl⟩ | ⟨h, rfl⟩ | ⟨x1, x2, x3, rfl⟩ <;> rcases h2 with ⟨h', rfl⟩ | ⟨h', rfl⟩ | ⟨h', rfl⟩ | ⟨y1, y2, y3, rfl⟩ <;> first
      | rfl
      | exact absurd (nmEq_inj h h') (by decide)
      | exact absurd h y1
      | exact absurd h y2
      | exact absurd h y3
      | exact absurd h' x1
      | exact absurd h' x2
      | exact absurd h' x3
  have book : tk_k u n p = 0 → ∃ v, bkR u (tk_s u n p) (tk_e u n p) v ∧ Go X (d + 4) mt_196 (ex_ent mt_196 [.ref 59]) w (some (.int v), w) := by
    intro k0
    exact rN_book (X := X) (d := d + 2) hB h59 hA.1 (by rw [tk_e0 k0]; exact tk_rn_ge _ _ _) (tk_e_le u hp hk)
  constructor
  · intro v k0 hv hv4
    obtain ⟨v', hv', g⟩ := book k0
    obtain rfl := bkinj _ _ hv hv'
    obtain ⟨c', h1, g2⟩ := rf_next (X := X) (d := d + 3) (w := ex_put w 64 (.inl (.int, ex_put DR 80 v))) hB hp hk (vg_at_o rfl h59) hc (vg_at_o rfl hA.1)
    refine ⟨_, rlo_4b h59 hA.2.1 (by omega) g (hix _ hl) (by rw [e80]; exact hix _ (hl2 v)) (by rw [e80, hg]; exact hv4) (by rw [e80]; exact g2), ⟨c', vg_at_put (vg_at_o rfl h59), h1⟩, (hA.p64 _).p59, (rF.rf.p64).p59⟩
  · intro hno
    by_cases k0 : tk_k u n p = 0
    · obtain ⟨v, hv, rfl⟩ := hno k0
      obtain ⟨v', hv', g⟩ := book k0
      obtain rfl := bkinj _ _ hv hv'
      have hb : rBad z mo ma ym n (tk_s u n p) (rC z mo ma ym dm dt tl hn hm (nI n) (nI (tk_e u n p)) (nI (tk_s u n p)) (nI ((tk_k u n p + 1) % 4)) va 2 (nI (tk_s u n p))) := ⟨_, _, _, _, _, _, _, _, _, 2, by decide, rfl⟩
      have := rlo_4c h59 hA.2.1 (by omega) g (hix _ hl) (by rw [e80]; exact hix _ (hl2 _)) (by rw [e80, hg]; decide) (rf_nextb (vg_at_put (vg_at_o rfl h59)) hb (vg_at_o rfl (vg_at_o rfl hA.1)))
      exact ⟨_, this, ⟨_, vg_at_put (vg_at_o rfl h59), hb⟩, (rF.rf.p64).p59⟩
    · have hb : rBad z mo ma ym n (tk_s u n p) (rC z mo ma ym dm dt tl hn hm (nI n) (nI (tk_e u n p)) (nI (tk_s u n p)) (nI ((tk_k u n p + 1) % 4)) va 2 (nI (tk_s u n p))) := ⟨_, _, _, _, _, _, _, _, _, 2, by decide, rfl⟩
      have := rlo_4a h59 hA.2.1 (by omega) (hix _ hl) (by rw [e80]; exact hix _ (hl2 _)) (by rw [e80, hg]; decide) (rf_nextb (X := X) (d := d + 4) (vg_at_put (vg_at_o rfl h59)) hb (vg_at_o rfl (vg_at_o rfl hA.1)))
      exact ⟨_, this, ⟨_, vg_at_put (vg_at_o rfl h59), hb⟩, (rF.rf.p64).p59⟩
theorem rf_numb {lw hg : Int32} (h59 : ex_at w 59 = some c) (hb : rBad z mo ma ym n s c) (h66 : ex_at w 66 = some (.inl (.int, T))) : Go X (d + 1) mt_194 (ex_ent mt_194 [.ref 59, .int lw, .int hg]) w (some (.int 0), w) := by
  have hb' := hb
  obtain ⟨dm', dt', tl', hn', hm', po, fr, so, va, fa, hfa, rfl⟩ := hb'
  exact rd_1 h59 (rf_lookb h59 hb) h59 (rf_nextb h59 hb h66)
theorem rf_matb (h59 : ex_at w 59 = some c) (hb : rBad z mo ma ym n s c) (h66 : ex_at w 66 = some (.inl (.int, T))) : Go X (d + 2) mt_200 (ex_ent mt_200 [.ref 59]) w (some (.int 0), w) := by
  have hb' := hb
  obtain ⟨dm', dt', tl', hn', hm', po, fr, so, va, fa, hfa, rfl⟩ := hb'
  exact rm_3 h59 (rf_numb h59 hb h66) h59 (by omega) (by decide)
/-- page, failed in its first half -/
theorem rb_5b {o2 : Option Value} {v : Int32} (h59 : ex_at w 59 = some c) (hb : rBad z mo ma ym n s c) (h66 : ex_at w 66 = some (.inl (.int, T))) : Go X (d + 3) mt_197 (59, [some (.ref 59), some (.int v), o2], []) w (none, w) := by
  have hb' := hb
  obtain ⟨dm', dt', tl', hn', hm', po, fr, so, va, fa, hfa, rfl⟩ := hb'
  exact rpg_2 h59 (rf_nextb h59 hb h66) h59 (rf_matb h59 hb h66) h59 (by omega)
theorem rb_5 (hB : rB u n T) (hp : p ≤ n) (hk : tk_k u n p < 4) (h59 : ex_at w 59 = some c) (hc : rOk u z mo ma ym dm dt tl hn hm n p c) (hA : rA w T DR DW) (hl : DR.length = 96) : (¬ okF u n p 1 16 → ∃ w', Go X (d + 5) mt_161 (ex_ent mt_161 [.ref 59, .int 5]) w (none, w') ∧ rBd z mo ma ym n (tk_s u n p) w w') ∧ (okF u n p 1 16 → ¬ Int32.toInt (DR.getD (61 + tk_v u n p) 0) = -4 → ∃ w', Go X (d + 5) mt_161 (ex_ent mt_161 [.ref 59, .int 5]) w (none, w') ∧ rBd z mo ma ym n (tk_s u n p) w w') ∧ (okF u n p 1 16 → Int32.toInt (DR.getD (61 + tk_v u n p) 0) = -4 → ¬ okF u n (tk_e u n p) 0 3 → ∃ w', Go X (d + 5) mt_161 (ex_ent mt_161 [.ref 59, .int 5]) w (none, w') ∧ rBd z mo ma ym n (tk_s u n (tk_e u n p)) w w') ∧ (okF u n p 1 16 → Int32.toInt (DR.getD (61 + tk_v u n p) 0) = -4 → okF u n (tk_e u n p) 0 3 → tk_k u n (tk_e u n (tk_e u n p)) = 4 → ∃ w', Go X (d + 5) mt_161 (ex_ent mt_161 [.ref 59, .int 5]) w (none, w') ∧ rBd z mo ma ym n (tk_s u n (tk_e u n (tk_e u n p))) w w') ∧ (okF u n p 1 16 → Int32.toInt (DR.getD (61 + tk_v u n p) 0) = -4 → okF u n (tk_e u n p) 0 3 → tk_k u n (tk_e u n (tk_e u n p)) < 4 → ∃ w', Go X (d + 5) mt_161 (ex_ent mt_161 [.ref 59, .int 5]) w (none, w') ∧ rGd u z mo ma ym dm dt tl (mx (nI (tk_v u n p)) hn) (mx (nI (tk_v u n (tk_e u n p))) hm) n (tk_e u n (tk_e u n p)) T (ex_put DR (61 + tk_v u n p) (nI (tk_v u n (tk_e u n p)))) DW w w') := by
  have hc' := hc
  obtain ⟨va, wa, hva, rfl⟩ := hc'
  rcases rf_look (X := X) (d := d + 2) (lw := 1) (hg := 16) (l := 1) (h := 16) (by decide) (by decide) hk h59 hc with ⟨ho, g⟩ | ⟨ho, c', hb, ⟨po, fr, so, va', fa, rfl⟩, g⟩
  · have hv16 := ho.2.2
    have e61 : (61 : Int32) + nI (tk_v u n p) = nI (61 + tk_v u n p) := nI_add 61 _
    have hix : ex_ix ((61 : Int32) + nI (tk_v u n p)) DR.length = true := by rw [e61, hl]; exact fp_ix (by omega) (by decide)
    have eNC : Int32.toNatClampNeg ((61 : Int32) + nI (tk_v u n p)) = 61 + tk_v u n p := by rw [e61]; exact nI_clamp (by omega)
    refine ⟨fun h => absurd ho h, fun _ hpg => ?_, ?_⟩
    · have gd : ¬ Int32.toInt (ex_gd DR (Int32.toNatClampNeg ((61 : Int32) + nI (tk_v u n p)))) = -4 := by rw [eNC, ex_gd_eq]; exact hpg
      have fin : ∀ x : Int32, (∀ q, Go X (d + 4) mt_197 (59, [some (.ref 59), some (.int (nI (tk_v u n p))), none], []) (ex_put w 59 (rC z mo ma ym dm dt tl x hm (nI n) (nI (tk_e u n p)) (nI (tk_s u n p)) (nI ((tk_k u n p + 1) % 4)) va 4 (nI (tk_s u n p)))) q → Go X (d + 4) mt_197 (ex_ent mt_197 [.ref 59]) w q) → ∃ w', Go X (d + 5) mt_161 (ex_ent mt_161 [.ref 59, .int 5]) w (none, w') ∧ rBd z mo ma ym n (tk_s u n p) w w' := by
        intro x kk
        have hb : rBad z mo ma ym n (tk_s u n p) (rC z mo ma ym dm dt tl x hm (nI n) (nI (tk_e u n p)) (nI (tk_s u n p)) (nI ((tk_k u n p + 1) % 4)) va 4 (nI (tk_s u n p))) := ⟨_, _, _, _, _, _, _, _, _, 4, by decide, rfl⟩
        exact ⟨_, rlo_5 h59 (kk _ (rb_5b (vg_at_put h59) hb (vg_at_o rfl hA.1))), ⟨_, vg_at_put h59, hb⟩, rF.rf.p59⟩
      by_cases hh : (nI (tk_v u n p)).toInt > hn.toInt
      · exact fin _ (fun q kk => rpg_t1 h59 hA.2.1 g hix gd hh kk)
      · exact fin _ (fun q kk => rpg_t2 h59 hA.2.1 g hix gd (by omega) kk)
    · have head : Int32.toInt (DR.getD (61 + tk_v u n p) 0) = -4 → ∀ q, Go X (d + 4) mt_197 (59, [some (.ref 59), some (.int (nI (tk_v u n p))), none], []) (ex_put w 59 (rC z mo ma ym dm dt tl (mx (nI (tk_v u n p)) hn) hm (nI n) (nI (tk_e u n p)) (nI (tk_s u n p)) (nI ((tk_k u n p + 1) % 4)) va 0 wa)) q → Go X (d + 4) mt_197 (ex_ent mt_197 [.ref 59]) w q := by
        intro hpg q kk
        have gd : Int32.toInt (ex_gd DR (Int32.toNatClampNeg ((61 : Int32) + nI (tk_v u n p)))) = -4 := by rw [eNC, ex_gd_eq]; exact hpg
        unfold mx at kk
        by_cases hh : (nI (tk_v u n p)).toInt > hn.toInt
        · rw [if_pos hh] at kk
          exact rpg_h1 h59 hA.2.1 g hix gd hh kk
        · rw [if_neg hh] at kk
          exact rpg_h2 h59 hA.2.1 g hix gd (by omega) kk
      have h59a := vg_at_put (x := rC z mo ma ym dm dt tl (mx (nI (tk_v u n p)) hn) hm (nI n) (nI (tk_e u n p)) (nI (tk_s u n p)) (nI ((tk_k u n p + 1) % 4)) va 0 wa) h59
      have hp1 := tk_e_le u hp hk
      obtain ⟨c1, r1, g1⟩ := rf_next (X := X) (d := d + 2) hB hp hk h59a (show rOk u z mo ma ym dm dt tl (mx (nI (tk_v u n p)) hn) hm n p _ from ⟨va, wa, hva, rfl⟩) (vg_at_o rfl hA.1)
      rw [fp_put2] at g1
      obtain ⟨fs1, hfs1⟩ := r1.ob
      have h59b : ex_at (ex_put w 59 c1) 59 = some c1 := vg_at_put h59
      have h59b' : ex_at (ex_put w 59 c1) 59 = some (.inr (.inr (8, fs1))) := h59b.trans (congrArg some hfs1)
      have h66b : ex_at (ex_put w 59 c1) 66 = some (.inl (.int, T)) := vg_at_o rfl hA.1
      rcases rf_mat (X := X) (d := d) hB hp1 h59b r1 h66b with ⟨ho2, c2, r2, g2⟩ | ⟨ho2, c2, hb2, g2⟩
      · rw [fp_put2] at g2
        have h59c : ex_at (ex_put w 59 c2) 59 = some c2 := vg_at_put h59
        refine ⟨fun _ _ h => absurd ho2 h, fun _ hpg _ k4 => ?_, fun _ hpg _ k4 => ?_⟩
        · rcases r2 with ⟨k5, -⟩ | ⟨-, hb2⟩
          · omega
          · have hb3 := hb2
            obtain ⟨dm', dt', tl', hn', hm', po, fr, so, va', fa, hfa, rfl⟩ := hb3
            exact ⟨_, rlo_5 h59 (head hpg _ (rpg_2 h59a g1 h59b' g2 h59c (by omega))), ⟨_, h59c, hb2⟩, rF.rf.p59⟩
        · rcases r2 with ⟨-, hok⟩ | ⟨k5, -⟩
          · have hok3 := hok
            obtain ⟨va2, wa2, hva2, rfl⟩ := hok3
            have := rpg_1 (o2 := none) h59a g1 h59b' g2 h59c (hA.p59).2.1 hix
            rw [eNC] at this
            exact ⟨_, rlo_5 h59 (head hpg _ this), ⟨_, vg_at_o rfl h59c, Or.inl ⟨k4, hok⟩⟩, (hA.p59).p64 _, (rF.rf.p59).p64⟩
          · omega
      · rw [fp_put2] at g2
        have h59c : ex_at (ex_put w 59 c2) 59 = some c2 := vg_at_put h59
        have hb3 := hb2
        obtain ⟨dm', dt', tl', hn', hm', po, fr, so, va', fa, hfa, rfl⟩ := hb3
        exact ⟨fun _ hpg _ => ⟨_, rlo_5 h59 (head hpg _ (rpg_2 h59a g1 h59b' g2 h59c (by omega))), ⟨_, h59c, hb2⟩, rF.rf.p59⟩, fun _ _ h => absurd h ho2, fun _ _ h => absurd h ho2⟩
  · have hfa : 0 < Int32.toInt fa := by
      obtain ⟨dm', dt', tl', hn', hm', po', fr', so', va'', fa', hfa, e⟩ := hb
      cases e
      exact hfa
    refine ⟨fun _ => ?_, fun h => absurd h ho, fun h => absurd h ho, fun h => absurd h ho, fun h => absurd h ho⟩
    have fin : ∀ x : Int32, (∀ q, Go X (d + 4) mt_197 (59, [some (.ref 59), some (.int 0), none], []) (ex_put (ex_put w 59 (rC z mo ma ym dm dt tl hn hm (nI n) po fr so va' fa (nI (tk_s u n p)))) 59 (rC z mo ma ym dm dt tl x hm (nI n) po fr so va' fa (nI (tk_s u n p)))) q → Go X (d + 4) mt_197 (ex_ent mt_197 [.ref 59]) w q) → ∃ w', Go X (d + 5) mt_161 (ex_ent mt_161 [.ref 59, .int 5]) w (none, w') ∧ rBd z mo ma ym n (tk_s u n p) w w' := by
      intro x kk
      rw [fp_put2] at kk
      have hb : rBad z mo ma ym n (tk_s u n p) (rC z mo ma ym dm dt tl x hm (nI n) po fr so va' fa (nI (tk_s u n p))) := ⟨_, _, _, _, _, _, _, _, _, _, hfa, rfl⟩
      exact ⟨_, rlo_5 h59 (kk _ (rb_5b (vg_at_put h59) hb (vg_at_o rfl hA.1))), ⟨_, vg_at_put h59, hb⟩, rF.rf.p59⟩
    by_cases hh : Int32.toInt 0 > hn.toInt
    · exact fin _ (fun q kk => rpg_b1 h59 g (vg_at_put h59) (by omega) hh kk)
    · exact fin _ (fun q kk => rpg_b2 h59 g (vg_at_put h59) (by omega) (by omega) kk)
theorem rb_8 (hB : rB u n T) (hp : p ≤ n) (hk : tk_k u n p < 4) (h59 : ex_at w 59 = some c) (hc : rOk u z mo ma ym dm dt tl hn hm n p c) (hA : rA w T DR DW) (hl : DR.length = 96) {wn : Nat} (hw : DR.getD 87 0 = nI wn) (hw4 : wn < 4) : (¬ okF u n p 0 3 → ∃ w', Go X (d + 5) mt_161 (ex_ent mt_161 [.ref 59, .int 8]) w (none, w') ∧ rBd z mo ma ym n (tk_s u n p) w w') ∧ (okF u n p 0 3 → ¬ okF u n (tk_e u n p) 0 4 → ∃ w', Go X (d + 5) mt_161 (ex_ent mt_161 [.ref 59, .int 8]) w (none, w') ∧ rBd z mo ma ym n (tk_s u n (tk_e u n p)) w w') ∧ (okF u n p 0 3 → okF u n (tk_e u n p) 0 4 → ∃ w', Go X (d + 5) mt_161 (ex_ent mt_161 [.ref 59, .int 8]) w (none, w') ∧ rGd u z mo ma ym dm dt tl hn (mx (nI (tk_v u n p)) hm) n (tk_e u n (tk_e u n p)) T (ex_put (ex_put (ex_put DR (88 + 2 * wn) (nI (tk_v u n p))) (89 + 2 * wn) (nI (tk_v u n (tk_e u n p)))) 87 (nI (wn + 1))) DW w w') := by
  have hc' := hc
  obtain ⟨va, wa, hva, rfl⟩ := hc'
  have e87 : Int32.toNatClampNeg 87 = 87 := by decide
  have g87 : ex_gd DR (Int32.toNatClampNeg 87) = nI wn := by rw [e87, ex_gd_eq]; exact hw
  have e88 : (88 : Int32) + ((2 : Int32) * (ex_gd DR (Int32.toNatClampNeg 87))) = nI (88 + 2 * wn) := by
    rw [g87]
    match wn, hw4 with
    | 0, _ => decide
    | 1, _ => decide
    | 2, _ => decide
    | 3, _ => decide
  have e89 : (88 : Int32) + ((2 : Int32) * (ex_gd DR (Int32.toNatClampNeg 87))) + 1 = nI (89 + 2 * wn) := by
    rw [e88, ← nI_succ]
    congr 1
    omega
  have ln : ∀ (l : List Int32) (i : Nat) (x : Int32), l.length = 96 → (ex_put l i x).length = 96 := fun l i x h => by rw [ex_put_eq, List.length_set]; exact h
  have ix : ∀ (l : List Int32) (a : Nat), l.length = 96 → a < 96 → ex_ix (nI a) l.length = true := fun l a h1 h2 => by rw [h1]; exact fp_ix h2 (by decide)
  have hp1 := tk_e_le u hp hk
  -- what is left behind the first number
  have last : ∀ (v v2 : Int32) (c1 : ex_E) (w2 : ex_W) (dm1 dt1 tl1 hn1 hm1 po1 fr1 so1 va1 fa1 wa1 dm2 dt2 tl2 hn2 hm2 po2 fr2 so2 va2 fa2 wa2 : Int32), Go X (d + 4) mt_200 (ex_ent mt_200 [.ref 59]) w (some (.int v), ex_put w 59 c1) → c1 = rC z mo ma ym dm1 dt1 tl1 hn1 hm1 (nI n) po1 fr1 so1 va1 fa1 wa1 → Go X (d + 4) mt_194 (ex_ent mt_194 [.ref 59, .int 0, .int 4]) (ex_put (ex_put w 59 c1) 64 (.inl (.int, ex_put DR (88 + 2 * wn) v))) (some (.int v2), w2) → ex_at w2 59 = some (rC z mo ma ym dm2 dt2 tl2 hn2 hm2 (nI n) po2 fr2 so2 va2 fa2 wa2) → ex_at w2 64 = some (.inl (.int, ex_put DR (88 + 2 * wn) v)) → Go X (d + 5) mt_161 (ex_ent mt_161 [.ref 59, .int 8]) w (none, ex_put w2 64 (.inl (.int, ex_put (ex_put (ex_put DR (88 + 2 * wn) v) (89 + 2 * wn) v2) 87 (nI (wn + 1))))) := by
    intro v v2 c1 w2 dm1 dt1 tl1 hn1 hm1 po1 fr1 so1 va1 fa1 wa1 dm2 dt2 tl2 hn2 hm2 po2 fr2 so2 va2 fa2 wa2 g1 hc1 g2 h2 h64
    subst hc1
    have q1 : Int32.toNatClampNeg (nI (88 + 2 * wn)) = 88 + 2 * wn := nI_clamp (by omega)
    have q2 : Int32.toNatClampNeg (nI (89 + 2 * wn)) = 89 + 2 * wn := nI_clamp (by omega)
    have gg : ex_gd (ex_put (ex_put DR (88 + 2 * wn) v) (89 + 2 * wn) v2) 87 = nI wn := by
      rw [ex_gd_eq, sh_getD_put (by rw [ln _ _ _ hl]; omega), if_neg (by omega), sh_getD_put (by omega), if_neg (by omega)]
      exact hw
    have := rlo_8 h59 hA.2.1 (by rw [hl]; decide) g1 (vg_at_put h59) (vg_at_o rfl hA.2.1) (by rw [e88]; exact ix _ _ hl (by omega)) (by rw [e88, q1]; exact g2) h2 h64 (by rw [e89]; exact ix _ _ (ln _ _ _ hl) (by omega)) (by rw [e89, q2, ln _ _ _ (ln _ _ _ hl)]; decide) (by rw [e89, q2, ln _ _ _ (ln _ _ _ hl)]; decide)
    rw [e89, q2, e87, gg, ← nI_succ] at this
    exact this
  rcases rf_mat (X := X) (d := d + 1) hB hp h59 (Or.inl ⟨hk, hc⟩) hA.1 with ⟨ho, c1, r1, g1⟩ | ⟨ho, c1, hb1, g1⟩
  · have h59b : ex_at (ex_put (ex_put w 59 c1) 64 (.inl (.int, ex_put DR (88 + 2 * wn) (nI (tk_v u n p))))) 59 = some c1 := vg_at_o rfl (vg_at_put h59)
    have h66b : ex_at (ex_put (ex_put w 59 c1) 64 (.inl (.int, ex_put DR (88 + 2 * wn) (nI (tk_v u n p))))) 66 = some (.inl (.int, T)) := vg_at_o rfl (vg_at_o rfl hA.1)
    have h64b : ex_at (ex_put (ex_put w 59 c1) 64 (.inl (.int, ex_put DR (88 + 2 * wn) (nI (tk_v u n p))))) 64 = some (.inl (.int, ex_put DR (88 + 2 * wn) (nI (tk_v u n p)))) := vg_at_put (vg_at_o rfl hA.2.1)
    obtain ⟨dm1, dt1, tl1, hn1, hm1, po1, fr1, so1, va1, fa1, wa1, hc1, -, -, -⟩ := r1.ex
    rcases rf_num (X := X) (d := d + 2) (lw := 0) (hg := 4) (l := 0) (h := 4) (by decide) (by decide) hB hp1 h59b r1 h66b with ⟨ho2, c2, r2, g2⟩ | ⟨ho2, c2, hb2, g2⟩
    · refine ⟨fun h => absurd ho h, fun _ h => absurd ho2 h, fun _ _ => ?_⟩
      obtain ⟨dm2, dt2, tl2, hn2, hm2, po2, fr2, so2, va2, fa2, wa2, hc2, -, -, -⟩ := r2.ex
      have h59c := vg_at_put (x := c2) h59b
      refine ⟨_, last _ _ c1 _ dm1 dt1 tl1 hn1 hm1 po1 fr1 so1 va1 fa1 wa1 dm2 dt2 tl2 hn2 hm2 po2 fr2 so2 va2 fa2 wa2 g1 hc1 g2 (by rw [← hc2]; exact h59c) (vg_at_o rfl h64b), ⟨c2, vg_at_o rfl h59c, r2⟩, ⟨?_, ?_, ?_⟩, (((rF.rf.p59).p64).p59).p64⟩
      · exact vg_at_o rfl (vg_at_o rfl h66b)
      · exact vg_at_put (vg_at_o rfl h64b)
      · exact vg_at_o rfl (vg_at_o rfl (vg_at_o rfl (vg_at_o rfl hA.2.2)))
    · refine ⟨fun h => absurd ho h, fun _ _ => ?_, fun _ h => absurd h ho2⟩
      have hb3 := hb2
      obtain ⟨dm2, dt2, tl2, hn2, hm2, po2, fr2, so2, va2, fa2, hfa, hc2⟩ := hb3
      have h59c := vg_at_put (x := c2) h59b
      exact ⟨_, last _ _ c1 _ dm1 dt1 tl1 hn1 hm1 po1 fr1 so1 va1 fa1 wa1 dm2 dt2 tl2 hn2 hm2 po2 fr2 so2 va2 fa2 _ g1 hc1 g2 (by rw [← hc2]; exact h59c) (vg_at_o rfl h64b), ⟨c2, vg_at_o rfl h59c, hb2⟩, (((rF.rf.p59).p64).p59).p64⟩
  · refine ⟨fun _ => ?_, fun h => absurd h ho, fun h => absurd h ho⟩
    have h59b : ex_at (ex_put (ex_put w 59 c1) 64 (.inl (.int, ex_put DR (88 + 2 * wn) 0))) 59 = some c1 := vg_at_o rfl (vg_at_put h59)
    have h66b : ex_at (ex_put (ex_put w 59 c1) 64 (.inl (.int, ex_put DR (88 + 2 * wn) 0))) 66 = some (.inl (.int, T)) := vg_at_o rfl (vg_at_o rfl hA.1)
    have h64b : ex_at (ex_put (ex_put w 59 c1) 64 (.inl (.int, ex_put DR (88 + 2 * wn) 0))) 64 = some (.inl (.int, ex_put DR (88 + 2 * wn) 0)) := vg_at_put (vg_at_o rfl hA.2.1)
    have hb3 := hb1
    obtain ⟨dm2, dt2, tl2, hn2, hm2, po2, fr2, so2, va2, fa2, hfa, hc2⟩ := hb3
    exact ⟨_, last 0 0 c1 _ dm2 dt2 tl2 hn2 hm2 po2 fr2 so2 va2 fa2 _ dm2 dt2 tl2 hn2 hm2 po2 fr2 so2 va2 fa2 _ g1 hc2 (rf_numb h59b hb1 h66b) (by rw [← hc2]; exact h59b) h64b, ⟨c1, vg_at_o rfl h59b, hb1⟩, ((rF.rf.p59).p64).p64⟩
end RL
