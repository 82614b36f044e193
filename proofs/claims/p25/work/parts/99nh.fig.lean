/-! FIGURES, stops, names of both. -/
theorem tk_v_le {u : Nat → Nat} {n p : Nat} (hk : tk_k u n p = 1) : tk_v u n p ≤ 99 := by
  rcases tk_cases u n p with ⟨a, k⟩ | ⟨a, b, k⟩ | ⟨a, b, c, k⟩ | ⟨a, b, c, e, f, k⟩ | ⟨a, b, c, e, k⟩
  · omega
  · omega
  · omega
  · have g := tk_f_gt u a e
    have h0 := (tk_fi_iff u _).mp e
    unfold tk_v
    by_cases h1 : tk_f u n p - tk_s u n p = 1
    · rw [h1]
      show u (tk_s u n p) - 48 ≤ 99
      omega
    · have h2 : tk_f u n p - tk_s u n p = 2 := by omega
      rw [h2]
      have h3 : tk_fi u (tk_s u n p + 1) = true := tk_rn_in (tk_fi u) (n - tk_s u n p) (tk_s u n p) _ (by omega) (by show _ < tk_f u n p; omega)
      have h3 := (tk_fi_iff u _).mp h3
      show 10 * (u (tk_s u n p) - 48) + (u (tk_s u n p + 1) - 48) ≤ 99
      omega
  · omega
/-- figures between bounds -/
def okF (u : Nat → Nat) (n p l h : Nat) : Prop := tk_k u n p = 1 ∧ l ≤ tk_v u n p ∧ tk_v u n p ≤ h
def cBad (dr n s : Nat) (c : ex_E) : Prop := ∃ fa se P K S N, ¬ Int32.toInt fa = 0 ∧ c = .inr (.inr (5, tr dr (nI n) fa (nI s) se P K S N))
section CF
variable {X : List Int32} {d n dr p l h : Nat} {u : Nat → Nat} {B : List Int32} {w : ex_W} {fp se K S N lw hg : Int32}
theorem cf_fig (el : lw.toInt = (l : Int)) (eh : hg.toInt = (h : Int)) (hB : cB u n B) (hp : p ≤ n) (h15 : ex_at w 15 = some (cT dr n 0 fp se p K S N)) (h16 : ex_at w 16 = some (.inl (.byte, B))) : (okF u n p l h ∧ Go X (d + 2) mt_211 (ex_ent mt_211 [.ref 15, .int lw, .int hg]) w (some (.int 1), ex_put w 15 (cT dr n 0 fp se (tk_e u n p) (nI 1) (nI (tk_s u n p)) (nI (tk_v u n p))))) ∨ (¬ okF u n p l h ∧ ∃ c, cBad dr n (tk_s u n p) c ∧ Go X (d + 2) mt_211 (ex_ent mt_211 [.ref 15, .int lw, .int hg]) w (some (.int 0), ex_put w 15 c)) := by
  have hn : n ≤ 400 := hB.2.1
  rcases ct_next (X := X) (d := d) hB hp h15 h16 with ⟨k, P', K', N', g⟩ | ⟨k, N', hN, g⟩
  · exact Or.inr ⟨fun q => by have := q.1; omega, _, ⟨1, se, P', K', _, N', by decide, rfl⟩, tg_1 h15 g⟩
  · by_cases k1 : tk_k u n p = 1
    · have e1 : (nI 1).toInt = 1 := by decide
      have ev : (nI (tk_v u n p)).toInt = (tk_v u n p : Int) := nI_toInt (by have := tk_v_le k1; omega)
      rw [hN k1, k1] at g
      by_cases h1 : (nI (tk_v u n p)).toInt < lw.toInt
      · exact Or.inr ⟨fun q => by have := q.2.1; omega, _, ⟨3, se, _, _, _, _, by decide, rfl⟩, tg_3 h15 g (by omega) (ti_1 (vg_at_put h15) h1)⟩
      · by_cases h2 : (nI (tk_v u n p)).toInt > hg.toInt
        · exact Or.inr ⟨fun q => by have := q.2.2; omega, _, ⟨3, se, _, _, _, _, by decide, rfl⟩, tg_3 h15 g (by omega) (ti_2 (vg_at_put h15) (by omega) h2)⟩
        · exact Or.inl ⟨⟨k1, by omega, by omega⟩, tg_2 h15 g (by omega) (ti_3 (vg_at_put h15) (by omega) (by omega))⟩
    · have ek : (nI (tk_k u n p)).toInt = (tk_k u n p : Int) := nI_toInt (by omega)
      exact Or.inr ⟨fun q => k1 q.1, _, ⟨2, se, _, _, _, _, by decide, rfl⟩, tg_4 h15 g (by omega)⟩
theorem cf_more (el : lw.toInt = (l : Int)) (eh : hg.toInt = (h : Int)) (hB : cB u n B) (hp : p ≤ n) (h15 : ex_at w 15 = some (cT dr n 0 fp se p K S N)) (h16 : ex_at w 16 = some (.inl (.byte, B))) : (tk_k u n p = 2 ∧ ∃ N', Go X (d + 2) mt_213 (ex_ent mt_213 [.ref 15, .int lw, .int hg]) w (some (.int 0), ex_put w 15 (cT dr n 0 fp se (tk_e u n p) (nI 2) (nI (tk_s u n p)) N'))) ∨ (okF u n p l h ∧ Go X (d + 2) mt_213 (ex_ent mt_213 [.ref 15, .int lw, .int hg]) w (some (.int 1), ex_put w 15 (cT dr n 0 fp se (tk_e u n p) (nI 1) (nI (tk_s u n p)) (nI (tk_v u n p))))) ∨ (¬ tk_k u n p = 2 ∧ ¬ okF u n p l h ∧ ∃ c, cBad dr n (tk_s u n p) c ∧ Go X (d + 2) mt_213 (ex_ent mt_213 [.ref 15, .int lw, .int hg]) w (some (.int 0), ex_put w 15 c)) := by
  have hn : n ≤ 400 := hB.2.1
  rcases ct_next (X := X) (d := d) hB hp h15 h16 with ⟨k, P', K', N', g⟩ | ⟨k, N', hN, g⟩
  · exact Or.inr (Or.inr ⟨by omega, fun q => by have := q.1; omega, _, ⟨1, se, P', K', _, N', by decide, rfl⟩, th_1 h15 g⟩)
  · have ek : (nI (tk_k u n p)).toInt = (tk_k u n p : Int) := nI_toInt (by omega)
    by_cases k2 : tk_k u n p = 2
    · have := th_2 (lw := lw) (hg := hg) h15 g (by omega)
      rw [k2] at this
      exact Or.inl ⟨k2, N', this⟩
    · by_cases k1 : tk_k u n p = 1
      · have e1 : (nI 1).toInt = 1 := by decide
        have ev : (nI (tk_v u n p)).toInt = (tk_v u n p : Int) := nI_toInt (by have := tk_v_le k1; omega)
        rw [hN k1, k1] at g
        by_cases h1 : (nI (tk_v u n p)).toInt < lw.toInt
        · exact Or.inr (Or.inr ⟨k2, fun q => by have := q.2.1; omega, _, ⟨3, se, _, _, _, _, by decide, rfl⟩, th_4 h15 g (by omega) (by omega) (ti_1 (vg_at_put h15) h1)⟩)
        · by_cases h2 : (nI (tk_v u n p)).toInt > hg.toInt
          · exact Or.inr (Or.inr ⟨k2, fun q => by have := q.2.2; omega, _, ⟨3, se, _, _, _, _, by decide, rfl⟩, th_4 h15 g (by omega) (by omega) (ti_2 (vg_at_put h15) (by omega) h2)⟩)
          · exact Or.inr (Or.inl ⟨⟨k1, by omega, by omega⟩, th_3 h15 g (by omega) (by omega) (ti_3 (vg_at_put h15) (by omega) (by omega))⟩)
      · exact Or.inr (Or.inr ⟨k2, fun q => k1 q.1, _, ⟨2, se, _, _, _, _, by decide, rfl⟩, th_5 h15 g (by omega) (by omega)⟩)
theorem cf_stop (hB : cB u n B) (hp : p ≤ n) (h15 : ex_at w 15 = some (cT dr n 0 fp se p K S N)) (h16 : ex_at w 16 = some (.inl (.byte, B))) : (tk_k u n p = 2 ∧ ∃ N', Go X (d + 2) mt_212 (ex_ent mt_212 [.ref 15]) w (some (.int 1), ex_put w 15 (cT dr n 0 fp se (tk_e u n p) (nI 2) (nI (tk_s u n p)) N'))) ∨ (¬ tk_k u n p = 2 ∧ ∃ c, cBad dr n (tk_s u n p) c ∧ Go X (d + 2) mt_212 (ex_ent mt_212 [.ref 15]) w (some (.int 0), ex_put w 15 c)) := by
  rcases ct_next (X := X) (d := d) hB hp h15 h16 with ⟨k, P', K', N', g⟩ | ⟨k, N', hN, g⟩
  · exact Or.inr ⟨by omega, _, ⟨1, se, P', K', _, N', by decide, rfl⟩, tj_1 h15 g⟩
  · have ek : (nI (tk_k u n p)).toInt = (tk_k u n p : Int) := nI_toInt (by omega)
    by_cases k2 : tk_k u n p = 2
    · have := tj_2 h15 g (by omega)
      rw [k2] at this
      exact Or.inl ⟨k2, N', this⟩
    · exact Or.inr ⟨k2, _, ⟨2, se, _, _, _, _, by decide, rfl⟩, tj_3 h15 g (by omega)⟩
end CF
/-- the reference has looked at the token at p; it has failed at s -/
def rBad (z : Nat → Int32) (mo ma ym : Int32) (n s : Nat) (c : ex_E) : Prop := ∃ dm dt tl hn hm po fr so va fa, 0 < Int32.toInt fa ∧ c = rC z mo ma ym dm dt tl hn hm (nI n) po fr so va fa (nI s)
def rOk (u : Nat → Nat) (z : Nat → Int32) (mo ma ym dm dt tl hn hm : Int32) (n p : Nat) (c : ex_E) : Prop := ∃ va wa, (tk_k u n p = 1 → va = nI (tk_v u n p)) ∧ c = rC z mo ma ym dm dt tl hn hm (nI n) (nI (tk_e u n p)) (nI (tk_s u n p)) (nI ((tk_k u n p + 1) % 4)) va 0 wa
/-- the reference stands at p: with a token, or failed -/
def rAt (u : Nat → Nat) (z : Nat → Int32) (mo ma ym dm dt tl hn hm : Int32) (n p : Nat) (c : ex_E) : Prop := (tk_k u n p < 4 ∧ rOk u z mo ma ym dm dt tl hn hm n p c) ∨ (tk_k u n p = 4 ∧ rBad z mo ma ym n (tk_s u n p) c)
section RF
variable {X : List Int32} {d n p l h s : Nat} {u : Nat → Nat} {T : List Int32} {w : ex_W} {z : Nat → Int32} {mo ma ym dm dt tl hn hm lw hg : Int32} {c : ex_E}
/-- next, from a token -/
theorem rf_next (hB : rB u n T) (hp : p ≤ n) (hk : tk_k u n p < 4) (h59 : ex_at w 59 = some c) (hc : rOk u z mo ma ym dm dt tl hn hm n p c) (h66 : ex_at w 66 = some (.inl (.int, T))) : ∃ c', rAt u z mo ma ym dm dt tl hn hm n (tk_e u n p) c' ∧ Go X (d + 1) mt_96 (ex_ent mt_96 [.ref 59]) w (none, ex_put w 59 c') := by
  obtain ⟨va, wa, hva, rfl⟩ := hc
  rcases rt_next (X := X) (d := d) hB (tk_e_le u hp hk) h59 h66 with ⟨k, po', so', va', g⟩ | ⟨k, va', hv', g⟩
  · exact ⟨_, Or.inr ⟨k, dm, dt, tl, hn, hm, po', _, so', va', 1, by decide, rfl⟩, g⟩
  · exact ⟨_, Or.inl ⟨k, va', wa, hv', rfl⟩, g⟩
/-- next, failed -/
theorem rf_nextb (h59 : ex_at w 59 = some c) (hc : rBad z mo ma ym n s c) (h66 : ex_at w 66 = some (.inl (.int, T))) : Go X d mt_96 (ex_ent mt_96 [.ref 59]) w (none, w) := by
  obtain ⟨dm, dt, tl, hn, hm, po, fr, so, va, fa, hfa, rfl⟩ := hc
  exact rx_0 h59 h66 hfa
theorem rin_g {x a b : Int32} : (a.toInt ≤ x.toInt ∧ x.toInt ≤ b.toInt ∧ Go X d mt_93 (ex_ent mt_93 [.long x.toInt64, .long a.toInt64, .long b.toInt64]) w (some (.int 1), w)) ∨ (¬ (a.toInt ≤ x.toInt ∧ x.toInt ≤ b.toInt) ∧ Go X d mt_93 (ex_ent mt_93 [.long x.toInt64, .long a.toInt64, .long b.toInt64]) w (some (.int 0), w)) := by
  by_cases hh : a.toInt ≤ x.toInt ∧ x.toInt ≤ b.toInt
  · exact Or.inl ⟨hh.1, hh.2, vin_t (by rw [Int32.toInt_toInt64, Int32.toInt_toInt64]; omega) (by rw [Int32.toInt_toInt64, Int32.toInt_toInt64]; omega)⟩
  · exact Or.inr ⟨hh, vin_f (by rw [Int32.toInt_toInt64, Int32.toInt_toInt64, Int32.toInt_toInt64]; omega)⟩
/-- looked, from a token -/
theorem rf_look (el : lw.toInt = (l : Int)) (eh : hg.toInt = (h : Int)) (hk : tk_k u n p < 4) (h59 : ex_at w 59 = some c) (hc : rOk u z mo ma ym dm dt tl hn hm n p c) : (okF u n p l h ∧ Go X (d + 1) mt_214 (ex_ent mt_214 [.ref 59, .int lw, .int hg]) w (some (.int (nI (tk_v u n p))), w)) ∨ (¬ okF u n p l h ∧ ∃ c', rBad z mo ma ym n (tk_s u n p) c' ∧ (∃ po fr so va fa, c' = rC z mo ma ym dm dt tl hn hm (nI n) po fr so va fa (nI (tk_s u n p))) ∧ Go X (d + 1) mt_214 (ex_ent mt_214 [.ref 59, .int lw, .int hg]) w (some (.int 0), ex_put w 59 c')) := by
  obtain ⟨va, wa, hva, rfl⟩ := hc
  have ek : (nI ((tk_k u n p + 1) % 4)).toInt = (((tk_k u n p + 1) % 4 : Nat) : Int) := nI_toInt (by omega)
  by_cases k1 : tk_k u n p = 1
  · obtain rfl := hva k1
    have ev : (nI (tk_v u n p)).toInt = (tk_v u n p : Int) := nI_toInt (by have := tk_v_le k1; omega)
    rcases rin_g (X := X) (d := d) (w := w) (x := nI (tk_v u n p)) (a := lw) (b := hg) with ⟨h1, h2, g⟩ | ⟨h1, g⟩
    · exact Or.inl ⟨⟨k1, by omega, by omega⟩, rk_3 h59 (by omega) g⟩
    · exact Or.inr ⟨fun q => h1 ⟨by have := q.2.1; omega, by have := q.2.2; omega⟩, _, ⟨dm, dt, tl, hn, hm, _, _, _, _, 3, by decide, rfl⟩, ⟨_, _, _, _, _, rfl⟩, rk_4 h59 (by omega) g⟩
  · exact Or.inr ⟨fun q => k1 q.1, _, ⟨dm, dt, tl, hn, hm, _, _, _, _, 2, by decide, rfl⟩, ⟨_, _, _, _, _, rfl⟩, rk_2 h59 (by omega)⟩
theorem rf_lookb (h59 : ex_at w 59 = some c) (hc : rBad z mo ma ym n s c) : Go X d mt_214 (ex_ent mt_214 [.ref 59, .int lw, .int hg]) w (some (.int 0), w) := by
  obtain ⟨dm, dt, tl, hn, hm, po, fr, so, va, fa, hfa, rfl⟩ := hc
  exact rk_1 h59 (by omega) (by omega) (by omega)
/-- readNumber -/
theorem rf_num (el : lw.toInt = (l : Int)) (eh : hg.toInt = (h : Int)) (hB : rB u n T) (hp : p ≤ n) (h59 : ex_at w 59 = some c) (hc : rAt u z mo ma ym dm dt tl hn hm n p c) (h66 : ex_at w 66 = some (.inl (.int, T))) : (okF u n p l h ∧ ∃ c', rAt u z mo ma ym dm dt tl hn hm n (tk_e u n p) c' ∧ Go X (d + 2) mt_194 (ex_ent mt_194 [.ref 59, .int lw, .int hg]) w (some (.int (nI (tk_v u n p))), ex_put w 59 c')) ∨ (¬ okF u n p l h ∧ ∃ c', rBad z mo ma ym n (tk_s u n p) c' ∧ Go X (d + 2) mt_194 (ex_ent mt_194 [.ref 59, .int lw, .int hg]) w (some (.int 0), ex_put w 59 c')) := by
  rcases hc with ⟨hk, hc⟩ | ⟨hk, hc⟩
  · have hc' := hc
    obtain ⟨va, wa, hva, rfl⟩ := hc'
    rcases rf_look (X := X) (d := d) (lw := lw) (hg := hg) el eh hk h59 hc with ⟨ho, g⟩ | ⟨ho, c', hb, ⟨po, fr, so, va', fa, rfl⟩, g⟩
    · obtain ⟨c', h1, g2⟩ := rf_next (X := X) (d := d) hB hp hk h59 hc h66
      exact Or.inl ⟨ho, c', h1, rd_1 h59 g h59 g2⟩
    · exact Or.inr ⟨ho, _, hb, rd_1 h59 g (vg_at_put h59) (rf_nextb (vg_at_put h59) hb (vg_at_o rfl h66))⟩
  · have hc' := hc
    obtain ⟨dm', dt', tl', hn', hm', po, fr, so, va, fa, hfa, rfl⟩ := hc'
    refine Or.inr ⟨fun q => by have := q.1; omega, _, hc, ?_⟩
    rw [fp_put_id h59]
    exact rd_1 h59 (rf_lookb h59 hc) h59 (rf_nextb h59 hc h66)
/-- the higher of two -/
def mx (a b : Int32) : Int32 := if a.toInt > b.toInt then a else b
/-- readMatter -/
theorem rf_mat (hB : rB u n T) (hp : p ≤ n) (h59 : ex_at w 59 = some c) (hc : rAt u z mo ma ym dm dt tl hn hm n p c) (h66 : ex_at w 66 = some (.inl (.int, T))) : (okF u n p 0 3 ∧ ∃ c', rAt u z mo ma ym dm dt tl hn (mx (nI (tk_v u n p)) hm) n (tk_e u n p) c' ∧ Go X (d + 3) mt_200 (ex_ent mt_200 [.ref 59]) w (some (.int (nI (tk_v u n p))), ex_put w 59 c')) ∨ (¬ okF u n p 0 3 ∧ ∃ c', rBad z mo ma ym n (tk_s u n p) c' ∧ Go X (d + 3) mt_200 (ex_ent mt_200 [.ref 59]) w (some (.int 0), ex_put w 59 c')) := by
  have hfs : ∃ fs, c = .inr (.inr (8, fs)) := by
    rcases hc with ⟨-, va, wa, -, rfl⟩ | ⟨-, dm', dt', tl', hn', hm', po, fr, so, va, fa, hfa, rfl⟩
    · exact ⟨_, rfl⟩
    · exact ⟨_, rfl⟩
  have h59' := h59
  obtain ⟨fs, hfs⟩ := hfs
  rw [hfs] at h59'
  rcases rf_num (X := X) (d := d) (lw := 0) (hg := 3) (l := 0) (h := 3) (by decide) (by decide) hB hp h59 hc h66 with ⟨ho, c', hr, g⟩ | ⟨ho, c', hb, g⟩
  · left
    refine ⟨ho, ?_⟩
    have ev : (nI (tk_v u n p)).toInt = (tk_v u n p : Int) := nI_toInt (by have := tk_v_le ho.1; omega)
    rcases hr with ⟨hk, va, wa, hva, rfl⟩ | ⟨hk, dm', dt', tl', hn', hm', po, fr, so, va, fa, hfa, rfl⟩
    · by_cases hm1 : (nI (tk_v u n p)).toInt > hm.toInt
      · have := rm_1 h59' g (vg_at_put h59) hm1
        rw [fp_put2] at this
        refine ⟨_, Or.inl ⟨hk, va, wa, hva, ?_⟩, this⟩
        unfold mx
        rw [if_pos hm1]
      · have := rm_2 h59' g (vg_at_put h59) (by omega)
        rw [fp_put2] at this
        refine ⟨_, Or.inl ⟨hk, va, wa, hva, ?_⟩, this⟩
        unfold mx
        rw [if_neg hm1]
    · by_cases h0 : (nI (tk_v u n p)).toInt ≤ 0
      · exact ⟨_, Or.inr ⟨hk, dm', dt', tl', hn', hm', po, fr, so, va, fa, hfa, rfl⟩, rm_3 h59' g (vg_at_put h59) (by omega) h0⟩
      · by_cases hm1 : (nI (tk_v u n p)).toInt > hm'.toInt
        · have := rm_4 h59' g (vg_at_put h59) (by omega) (by omega) hm1
          rw [fp_put2] at this
          exact ⟨_, Or.inr ⟨hk, dm', dt', tl', hn', _, po, fr, so, va, fa, hfa, rfl⟩, this⟩
        · have := rm_5 h59' g (vg_at_put h59) (by omega) (by omega) (by omega)
          rw [fp_put2] at this
          exact ⟨_, Or.inr ⟨hk, dm', dt', tl', hn', _, po, fr, so, va, fa, hfa, rfl⟩, this⟩
  · right
    refine ⟨ho, ?_⟩
    have hb' := hb
    obtain ⟨dm', dt', tl', hn', hm', po, fr, so, va, fa, hfa, rfl⟩ := hb'
    exact ⟨_, hb, rm_3 h59' g (vg_at_put h59) (by omega) (by decide)⟩
end RF
/-! NAMES of both. -/
def nmEq (u : Nat → Nat) (s e : Nat) (cs : List Nat) : Prop := e - s = cs.length ∧ ∀ i, i < cs.length → u (s + i) = cs.getD i 0
def strOk (a : Nat) (cs : List Nat) : Prop := ex_sk a = true ∧ ∃ l, ex_sb (a + 1) = some l ∧ l.length = cs.length ∧ cs.length ≤ 7 ∧ ((Int32.ofNat l.length) >>> (0 &&& 31)) = nI cs.length ∧ ∀ i, i < cs.length → ((l.getD i 0 &&& 255).toUInt32 % 65536).toInt32 = nI (cs.getD i 0) ∧ ex_ok .char (nI (cs.getD i 0)) = true ∧ cs.getD i 0 < 128
section CN
variable {X : List Int32} {d n dr a s e : Nat} {cs : List Nat} {u : Nat → Nat} {B : List Int32} {w : ex_W} {fa fp se K N : Int32}
theorem cn_ch {l : List Int32} {i : Nat} {c : Int32} (hk : ex_sk a = true) (hb : ex_sb (a + 1) = some l) (hl : l.length ≤ 7) (hi : i < l.length) (hc : ((l.getD i 0 &&& 255).toUInt32 % 65536).toInt32 = c) (ho : ex_ok .char c = true) : Go X (d + 3) mt_209 (ex_ent mt_209 [.retAddr a, .int (nI i)]) w (some (.int c), w) := by
  have ei : (nI i).toInt = (i : Int) := nI_toInt (by omega)
  have el : (Int32.ofNat l.length).toInt = (l.length : Int) := nI_toInt (by omega)
  have eg : ex_gd l (nI i).toNatClampNeg = l.getD i 0 := fp_gd (by omega)
  have g1 : Go X (d + 1) mt_219 (ex_ent mt_219 [.int (nI i), .int (Int32.ofNat l.length)]) w (none, w) := ts_ci (ts_pc (by omega) (by omega))
  have g2 := ts_ch1 (X := X) (d := d + 1) (a := a) (i := nI i) (l := l) (w := w) g1 (fp_ix hi (by omega)) (by rw [eg, hc]; exact ho) hk hb
  rw [eg, hc] at g2
  exact ts_ch g2 ho hk hb
theorem cn_loop {l : List Int32} (hk : ex_sk a = true) (hb : ex_sb (a + 1) = some l) (hll : l.length = cs.length) (h7 : cs.length ≤ 7) (hx : ((Int32.ofNat l.length) >>> (0 &&& 31)) = nI cs.length) (hv : ∀ i, i < cs.length → ((l.getD i 0 &&& 255).toUInt32 % 65536).toInt32 = nI (cs.getD i 0) ∧ ex_ok .char (nI (cs.getD i 0)) = true ∧ cs.getD i 0 < 128) (hB : cB u n B) (h15 : ex_at w 15 = some (.inr (.inr (5, tr dr (nI n) fa fp se (nI e) K (nI s) N)))) (h16 : ex_at w 16 = some (.inl (.byte, B))) (hse : s + cs.length = e) (hen : e ≤ n) : ∀ (f i : Nat), cs.length - i ≤ f → i ≤ cs.length → ((∀ j, i ≤ j → j < cs.length → u (s + j) = cs.getD j 0) ∧ Go X (d + 4) mt_181 (20, [some (.ref 15), some (.retAddr a), some (.int (nI i))], []) w (some (.int 1), w)) ∨ (¬ (∀ j, i ≤ j → j < cs.length → u (s + j) = cs.getD j 0) ∧ Go X (d + 4) mt_181 (20, [some (.ref 15), some (.retAddr a), some (.int (nI i))], []) w (some (.int 0), w)) := by
  have hn : n ≤ 400 := hB.2.1
  have ec : (nI cs.length).toInt = (cs.length : Int) := nI_toInt (by omega)
  have gl : Go X (d + 3) mt_208 (ex_ent mt_208 [.retAddr a]) w (some (.int (nI cs.length)), w) := by
    have := ts_ln (X := X) (d := d + 2) (w := w) hk hb
    rw [hx] at this
    exact this
  intro f
  induction f with
  | zero =>
    intro i hf hi
    have ei : (nI i).toInt = (i : Int) := nI_toInt (by omega)
    exact Or.inl ⟨fun j h1 h2 => by omega, tq_c h15 h16 gl (by omega) hk⟩
  | succ f ih =>
    intro i hf hi
    have ei : (nI i).toInt = (i : Int) := nI_toInt (by omega)
    by_cases hic : cs.length ≤ i
    · exact Or.inl ⟨fun j h1 h2 => by omega, tq_c h15 h16 gl (by omega) hk⟩
    · obtain ⟨v1, v2, v3⟩ := hv i (by omega)
      have gc : Go X (d + 3) mt_209 (ex_ent mt_209 [.retAddr a, .int (nI i)]) w (some (.int (nI (cs.getD i 0))), w) := cn_ch hk hb (by omega) (by omega) v1 v2
      have gb : Go X (d + 3) mt_178 (ex_ent mt_178 [.ref 15, .int (nI s + nI i)]) w (some (.int (B.getD (s + i) 0)), w) := by
        rw [nI_add]
        exact ct_b hB h15 h16 (by omega)
      have hb2 := hB.2.2 (s + i) (by omega)
      have ev : (nI (cs.getD i 0)).toInt = (cs.getD i 0 : Int) := nI_toInt (by omega)
      by_cases hq : u (s + i) = cs.getD i 0
      · rcases ih (i + 1) (by omega) (by omega) with ⟨h1, g⟩ | ⟨h1, g⟩
        · refine Or.inl ⟨fun j j1 j2 => ?_, tq_a h15 h16 gl (by omega) gb gc (by omega) hk (by rw [← nI_succ]; exact g)⟩
          by_cases hj : j = i
          · rw [hj]; exact hq
          · exact h1 j (by omega) j2
        · exact Or.inr ⟨fun h2 => h1 (fun j j1 j2 => h2 j (by omega) j2), tq_a h15 h16 gl (by omega) gb gc (by omega) hk (by rw [← nI_succ]; exact g)⟩
      · exact Or.inr ⟨fun h2 => hq (h2 i (by omega) (by omega)), tq_b h15 h16 gl (by omega) gb gc (by omega) hk⟩
theorem cn_name (so : strOk a cs) (hB : cB u n B) (h15 : ex_at w 15 = some (.inr (.inr (5, tr dr (nI n) fa fp se (nI e) K (nI s) N)))) (h16 : ex_at w 16 = some (.inl (.byte, B))) (hse : s ≤ e) (hen : e ≤ n) : (nmEq u s e cs ∧ Go X (d + 4) mt_181 (ex_ent mt_181 [.ref 15, .retAddr a]) w (some (.int 1), w)) ∨ (¬ nmEq u s e cs ∧ Go X (d + 4) mt_181 (ex_ent mt_181 [.ref 15, .retAddr a]) w (some (.int 0), w)) := by
  obtain ⟨hk, l, hb, hll, h7, hx, hv⟩ := so
  have hn : n ≤ 400 := hB.2.1
  have ec : (nI cs.length).toInt = (cs.length : Int) := nI_toInt (by omega)
  have es := tI_nsub hse (show e < 2 ^ 31 by omega)
  have gl : Go X (d + 3) mt_208 (ex_ent mt_208 [.retAddr a]) w (some (.int (nI cs.length)), w) := by
    have := ts_ln (X := X) (d := d + 2) (w := w) hk hb
    rw [hx] at this
    exact this
  by_cases hc : e - s = cs.length
  · rcases cn_loop (X := X) (d := d) hk hb hll h7 hx hv hB h15 h16 (by omega) hen cs.length 0 (by omega) (by omega) with ⟨h1, g⟩ | ⟨h1, g⟩
    · exact Or.inl ⟨⟨hc, fun i hi => h1 i (by omega) hi⟩, tq_2 h15 h16 gl (by omega) hk g⟩
    · exact Or.inr ⟨fun q => h1 (fun j _ j2 => q.2 j j2), tq_2 h15 h16 gl (by omega) hk g⟩
  · exact Or.inr ⟨fun q => hc q.1, tq_1 h15 h16 gl (by omega) hk⟩
end CN
def n_most : List Nat := [109, 111, 115, 116]
def n_matters : List Nat := [109, 97, 116, 116, 101, 114, 115]
def n_gap : List Nat := [103, 97, 112]
def n_near : List Nat := [110, 101, 97, 114]
def n_book : List Nat := [98, 111, 111, 107]
def n_page : List Nat := [112, 97, 103, 101]
def n_rung : List Nat := [114, 117, 110, 103]
def n_ask : List Nat := [97, 115, 107]
def n_wait : List Nat := [119, 97, 105, 116]
def n_fixed : List Nat := [102, 105, 120, 101, 100]
def n_rank : List Nat := [114, 97, 110, 107]
def n_told : List Nat := [116, 111, 108, 100]
theorem so_most : strOk 1 n_most := ⟨rfl, [109, 111, 115, 116], rfl, rfl, by decide, by decide, by decide⟩
theorem so_matters : strOk 3 n_matters := ⟨rfl, [109, 97, 116, 116, 101, 114, 115], rfl, rfl, by decide, by decide, by decide⟩
theorem so_gap : strOk 5 n_gap := ⟨rfl, [103, 97, 112], rfl, rfl, by decide, by decide, by decide⟩
theorem so_near : strOk 7 n_near := ⟨rfl, [110, 101, 97, 114], rfl, rfl, by decide, by decide, by decide⟩
theorem so_book : strOk 9 n_book := ⟨rfl, [98, 111, 111, 107], rfl, rfl, by decide, by decide, by decide⟩
theorem so_page : strOk 11 n_page := ⟨rfl, [112, 97, 103, 101], rfl, rfl, by decide, by decide, by decide⟩
theorem so_rung : strOk 13 n_rung := ⟨rfl, [114, 117, 110, 103], rfl, rfl, by decide, by decide, by decide⟩
theorem so_ask : strOk 15 n_ask := ⟨rfl, [97, 115, 107], rfl, rfl, by decide, by decide, by decide⟩
theorem so_wait : strOk 17 n_wait := ⟨rfl, [119, 97, 105, 116], rfl, rfl, by decide, by decide, by decide⟩
theorem so_fixed : strOk 19 n_fixed := ⟨rfl, [102, 105, 120, 101, 100], rfl, rfl, by decide, by decide, by decide⟩
theorem so_rank : strOk 21 n_rank := ⟨rfl, [114, 97, 110, 107], rfl, rfl, by decide, by decide, by decide⟩
theorem so_told : strOk 23 n_told := ⟨rfl, [116, 111, 108, 100], rfl, rfl, by decide, by decide, by decide⟩
