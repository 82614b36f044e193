/-! text() OF BOTH. -/
section TX
variable {X : List Int32} {d n dr : Nat} {u : Nat → Nat} {B T : List Int32} {z : Nat → Int32} {mo ma ym dm dt tl hn hm po fr so va fa wa : Int32} {w : ex_W}
/-- the reference, up to its first token -/
theorem tx_ref {DR DW : List Int32} (hR : rB u n T) (h59 : ex_at w 59 = some (rC z mo ma ym dm dt tl hn hm (nI n) po fr so va fa wa)) (hA : rA w T DR DW) (l6 : DR.length = 96) (l7 : DW.length = 4) : ∃ DR' DW' w' c, DR'.length = 96 ∧ DW'.length = 4 ∧ (∀ j, j < 96 → DR'.getD j 0 = fdv j) ∧ (∀ j, j < 4 → DW'.getD j 0 = 1) ∧ ex_at w' 59 = some c ∧ rAt u z mo ma ym 12 2 (nI 0) 0 m4 n 0 c ∧ rA w' T DR' DW' ∧ rF w w' ∧ ∀ q, Go X (d + 7) mt_8 (20, [some (.ref 59), some (.int (nI 0))], []) w' q → Go X (d + 7) mt_8 (ex_ent mt_8 [.ref 59]) w q := by
  obtain ⟨DR', DW', w1, a1, a2, a3, a4, g1, h1, A1, F1⟩ := rw_fd (X := X) (d := d + 6) (w := ex_put w 59 (rC z mo ma ym dm dt tl hn hm (nI n) 0 fr so va 0 wa)) (vg_at_put h59) hA.p59 l6 l7
  have F1' : rF w w1 := (rF.rf.p59).tr F1
  rcases rt_next (X := X) (d := d + 5) (p := 0) hR (Nat.zero_le _) h1 A1.1 with ⟨k, po', so', va', g⟩ | ⟨k, va', hv, g⟩
  · exact ⟨DR', DW', _, _, a1, a2, a3, a4, vg_at_put h1, Or.inr ⟨k, _, _, _, _, _, _, _, _, _, 1, by decide, rfl⟩, A1.p59, F1'.p59, fun q kk => rtx_0 h59 g1 h1 g kk⟩
  · exact ⟨DR', DW', _, _, a1, a2, a3, a4, vg_at_put h1, Or.inl ⟨k, va', _, hv, rfl⟩, A1.p59, F1'.p59, fun q kk => rtx_0 h59 g1 h1 g kk⟩
theorem nI_inj {a b : Nat} (ha : a < 2 ^ 31) (hb : b < 2 ^ 31) (h : nI a = nI b) : a = b := by
  have := congrArg Int32.toInt h
  rw [nI_toInt ha, nI_toInt hb] at this
  omega
def tOf (c : ex_E) : List Value := match c with
  | .inr (.inr (_, l)) => l
  | _ => []
theorem tr_eq {dr dr' : Nat} {L fa fp se P K S N L' fa' fp' se' P' K' S' N' : Int32} (e : (some (.inr (.inr (5, tr dr L fa fp se P K S N))) : Option ex_E) = some (.inr (.inr (5, tr dr' L' fa' fp' se' P' K' S' N')))) : fa = fa' ∧ fp = fp' := by
  have el : tr dr L fa fp se P K S N = tr dr' L' fa' fp' se' P' K' S' N' := congrArg tOf (Option.some.inj e)
  have h2 : (some (.int fa) : Option Value) = some (.int fa') := congrArg (fun l => ex_at l 2) el
  have h3 : (some (.int fp) : Option Value) = some (.int fp') := congrArg (fun l => ex_at l 3) el
  exact ⟨Value.int.inj (Option.some.inj h2), Value.int.inj (Option.some.inj h3)⟩
theorem tx_both {t : Nat} {fs fs9 : List Value} {vv : Value} {yl tq fa0 fp se P K S N : Int32} {tf : Nat → Int32} {ta : Nat → List Int32} {DR DW ST WE KE KR : List Int32} (hd : dr + 6 < 15) (hd1 : 1 ≤ dr) (hB : cB u n B) (hR : rB u n T)
    (h0 : ex_at w 0 = some (.inr (.inr (7, fs)))) (f0 : ex_at fs 0 = some (.ref 15)) (f6 : ex_at fs 6 = some (.ref 34)) (f9 : ex_at fs 9 = some (.ref t)) (f10 : ex_at fs 10 = some (.ref dr)) (f11 : ex_at fs 11 = some (.int yl)) (f12 : ex_at fs 12 = some (.int tq))
    (h15 : ex_at w 15 = some (.inr (.inr (5, fs9)))) (f4 : ex_at fs9 4 = some vv) (hput : ex_put fs9 4 (.ref dr) = tr dr (nI n) fa0 fp se P K S N) (hA : cA w dr B tf ta) (l0 : (ta 0).length = 4) (l1 : (ta 1).length = 17) (lr : (ta 2).length = 60 ∧ (ta 3).length = 5 ∧ (ta 4).length = 4 ∧ (ta 5).length = 4) (h34 : ex_at w 34 = some (.inl (.boolean, KE))) (lk : KE.length = 2)
    (h59 : ex_at w 59 = some (rC z mo ma ym dm dt tl hn hm (nI n) po fr so va fa wa)) (hA2 : rA w T DR DW) (l6 : DR.length = 96) (l7 : DW.length = 4) (h60 : ex_at w 60 = some (.inl (.int, ST))) (ls : ST.length = 288) (h61 : ex_at w 61 = some (.inl (.boolean, KR))) (lkr : KR.length = 2) (h62 : ex_at w 62 = some (.inl (.int, WE))) (lw : WE.length = 4) :
    ∃ r wx wm, Go X (d + 8) mt_7 (ex_ent mt_7 [.ref 0]) w (some (.int r), wx) ∧ Go X (d + 7) mt_8 (ex_ent mt_8 [.ref 59]) wx (some (.int r), wm) ∧ (∃ gs, ex_at wm 15 = some (.inr (.inr (5, gs))) ∧ ex_at gs 1 = some (.int 0)) ∧ (∃ gs, ex_at wm 59 = some (.inr (.inr (8, gs))) ∧ ex_at gs 15 = some (.int 0)) ∧ ex_at wm 16 = ex_at w 16 ∧ ex_at wm 66 = ex_at w 66 := by
  -- the class, up to its loop
  obtain ⟨w2, L0, L1, g1, A2, b1, b2, b3, b4, F2, e15⟩ := tw_first (X := X) (d := d + 5) (w := ex_put w 15 (.inr (.inr (5, ex_put fs9 4 (.ref dr))))) hd (hA.p15 hd) l0 l1
  have h15' : ex_at w2 15 = some (.inr (.inr (5, tr dr (nI n) fa0 fp se P K S N))) := by rw [e15, vg_at_put h15, hput]
  have goC : ∀ q, Go X (d + 7) mt_94 (34, [some (.ref 15), some (.ref dr), some (.int (nI 0))], []) (ex_put w2 15 (cT dr n 0 0 (nI 0) 0 K S N)) q → Go X (d + 7) mt_94 (ex_ent mt_94 [.ref 15, .ref dr]) w q := fun q kk => tri_0 h15 f4 hA.2.1 (sh_beq (by omega)) g1 h15' kk
  have i15 : ex_at (ex_put w2 15 (cT dr n 0 0 (nI 0) 0 K S N)) 15 = some (cT dr n 0 0 (nI 0) 0 K S N) := vg_at_put h15'
  have iF : cF dr w (ex_put w2 15 (cT dr n 0 0 (nI 0) 0 K S N)) := fun q q1 q2 => (vg_at_ne (sh_beq (fun e => q1 e.symm))).trans ((F2 q q1 q2).trans (vg_at_ne (sh_beq (fun e => q1 e.symm))))
  have loop : ∀ wy : ex_W, ex_at wy 59 = some (rC z mo ma ym dm dt tl hn hm (nI n) po fr so va fa wa) → rA wy T DR DW → ∃ w3, (∀ q, Go X (d + 7) mt_8 (20, [some (.ref 59), some (.int (nI 0))], []) w3 q → Go X (d + 7) mt_8 (ex_ent mt_8 [.ref 59]) wy q) ∧ txRes X d u B T z mo ma ym dr n w wy (ex_put w2 15 (cT dr n 0 0 (nI 0) 0 K S N)) w3 0 := by
    intro wy y59 yA
    obtain ⟨DR', DW', w3, c, a1, a2, a3, a4, a5, a6, a7, a8, a9⟩ := tx_ref (X := X) (d := d) hR y59 yA l6 l7
    exact ⟨w3, a9, tl_loop hd hB hR (n + 1) 0 0 _ w3 0 tf0 _ 12 2 0 m4 DR' DW' 0 0 0 c 0 K S N (by omega) (Nat.zero_le _) (Nat.le_refl _) i15 (A2.p15 hd) iF a5 a6 a7 a8 (rl_first lr b1 b2 b3 b4 a1 a2 a3 a4) (by omega)⟩
  have hn4 : n ≤ 400 := hB.2.1
  have m10 : ∀ a b : Int32, a = b → ((Int8.ofInt (-10)).toInt32) - a = ((Int8.ofInt (-10)).toInt32) - b := fun a b h => by rw [h]
  -- what the reference finds behind the class
  have keepR : ∀ wy : ex_W, (∀ q, 59 ≤ q → ex_at wy q = ex_at w q) → ex_at wy 59 = some (rC z mo ma ym dm dt tl hn hm (nI n) po fr so va fa wa) ∧ rA wy T DR DW := fun wy h => ⟨(h 59 (by omega)).trans h59, (h 66 (by omega)).trans hA2.1, (h 64 (by omega)).trans hA2.2.1, (h 65 (by omega)).trans hA2.2.2⟩
  obtain ⟨w3, -, R1⟩ := loop w h59 hA2
  rcases R1 with ⟨s, v, w4, w5, dm1, dt1, tl1, hn1, hm1, po1, fr1, so1, va1, fa1, r1, ⟨⟨cb, r2, r2'⟩, r3⟩, -, -, -⟩ | ⟨j', w4, w5, tf1, ta1, dm1, dt1, tl1, hn1, hm1, DR1, DW1, dn1, an1, wn1, po1, fr1, so1, va1, wa1, fp1, se1, p1, K1, S1, N1, r1, r2, r3, r4, -, -, -, -, -⟩
  · -- the class fails at s
    have r2b := r2'
    obtain ⟨fa', se', P', K', S', N', hfa, rfl⟩ := r2b
    have k0 : ex_at w4 0 = some (.inr (.inr (7, fs))) := (r3 0 (by omega) (by omega)).trans h0
    have gx := ttx_1 (X := X) (d := d + 7) h0 f0 f9 f10 f11 f12 h15 (goC _ r1) k0 f0 f9 f10 f11 f12 r2 hfa
    obtain ⟨y59, yA⟩ := keepR (ex_put (ex_put w4 15 (.inr (.inr (5, tr dr 0 fa' (nI s) se' P' K' S' N')))) 0 (.inr (.inr (7, ex_put fs 12 (.int fa'))))) (fun q hq => (vg_at_ne (sh_beq (by omega))).trans ((vg_at_ne (sh_beq (by omega))).trans (r3 q (by omega) (by omega))))
    obtain ⟨w6, goR, R2⟩ := loop _ y59 yA
    rcases R2 with ⟨s2, v2, w7, w8, dm2, dt2, tl2, hn2, hm2, po2, fr2, so2, va2, fa2, q1, ⟨⟨cb2, q2, q2'⟩, q3⟩, q4, q5, q6⟩ | ⟨j2, w7, w8, tf2, ta2, dm2, dt2, tl2, hn2, hm2, DR2, DW2, dn2, an2, wn2, po2, fr2, so2, va2, wa2, fp2, se2, p2, K2, S2, N2, q1, q2, -⟩
    · cases Go.det r1 q1
      obtain ⟨fa'', se'', P'', K'', S'', N'', hfa'', rfl⟩ := q2'
      have es : nI s = nI s2 := (tr_eq (r2.symm.trans q2)).2
      rw [← m10 _ _ es] at q4
      refine ⟨_, _, w8, gx, goR _ q4, ⟨_, (q6 15 (by omega) (by omega) (by omega)).trans (vg_at_o rfl (vg_at_put r2)), rfl⟩, ⟨_, q5, rfl⟩, ?_, ?_⟩
      · exact (q6 16 (by omega) (by omega) (by omega)).trans ((vg_at_ne rfl).trans ((vg_at_ne rfl).trans (r3 16 (by omega) (by omega))))
      · exact (q6 66 (by omega) (by omega) (by omega)).trans ((vg_at_ne rfl).trans ((vg_at_ne rfl).trans (r3 66 (by omega) (by omega))))
    · cases Go.det r1 q1
      exact absurd (by rw [(tr_eq (r2.symm.trans q2)).1]; decide) hfa
  · -- the class takes it
    have k0 : ex_at w4 0 = some (.inr (.inr (7, fs))) := (r4 0 (by omega) (by omega)).trans h0
    have k34 : ex_at w4 34 = some (.inl (.boolean, KE)) := (r4 34 (by omega) (by omega)).trans h34
    have gi := tfi (X := X) (d := d + 7) (w := ex_put (ex_put w4 15 (.inr (.inr (5, tr dr 0 0 fp1 se1 (nI p1) K1 S1 N1)))) 0 (.inr (.inr (7, ex_put (ex_put (ex_put (ex_put fs 12 (.int 0)) 9 (.ref dr)) 10 (.ref t)) 11 (.int 0))))) (KE := KE) (vg_at_put (vg_at_o rfl k0)) (vg_at_o rfl (vg_at_o rfl (vg_at_o rfl (vg_at_o rfl f6)))) (vg_at_o rfl (vg_at_o rfl k34)) (by rw [lk]; decide) (by decide) (by rw [rl_len, lk]; decide) (by decide)
    have gx := ttx_2 (X := X) (d := d + 7) h0 f0 f9 f10 f11 f12 h15 (goC _ r1) k0 f0 f9 f10 f11 f12 r2 gi
    obtain ⟨y59, yA⟩ := keepR (ex_put (ex_put (ex_put w4 15 (.inr (.inr (5, tr dr 0 0 fp1 se1 (nI p1) K1 S1 N1)))) 0 (.inr (.inr (7, ex_put (ex_put (ex_put (ex_put fs 12 (.int 0)) 9 (.ref dr)) 10 (.ref t)) 11 (.int 0))))) 34 (.inl (.boolean, ex_put (ex_put KE (Int32.toNatClampNeg (0)) (ex_nar .boolean 0)) (Int32.toNatClampNeg ((0 + 1))) (ex_nar .boolean 0)))) (fun q hq => (vg_at_ne (sh_beq (by omega))).trans ((vg_at_ne (sh_beq (by omega))).trans ((vg_at_ne (sh_beq (by omega))).trans (r4 q (by omega) (by omega)))))
    obtain ⟨w6, goR, R2⟩ := loop _ y59 yA
    rcases R2 with ⟨s2, v2, w7, w8, dm2, dt2, tl2, hn2, hm2, po2, fr2, so2, va2, fa2, q1, ⟨⟨cb2, q2, q2'⟩, q3⟩, q4, q5, q6⟩ | ⟨j2, w7, w8, tf2, ta2, dm2, dt2, tl2, hn2, hm2, DR2, DW2, dn2, an2, wn2, po2, fr2, so2, va2, wa2, fp2, se2, p2, K2, S2, N2, q1, q2, q3, q4, q5, q6, q7, q8, q9⟩
    · cases Go.det r1 q1
      obtain ⟨fa'', se'', P'', K'', S'', N'', hfa'', rfl⟩ := q2'
      exact absurd (by rw [← (tr_eq (r2.symm.trans q2)).1]; decide) hfa''
    · have e := Go.det r1 q1
      have e2 : w4 = w7 := congrArg Prod.snd e
      have e1 : nI j' = nI j2 := by
        have h : (some (.int (nI j')) : Option Value) = some (.int (nI j2)) := congrArg Prod.fst e
        exact Value.int.inj (Option.some.inj h)
      rw [e1] at gx
      obtain ⟨ST', WE', KE', w9, c1, c2, c3, c4, c5, c6, c7, c8, c9, c10, -⟩ := rw_keep (X := X) (d := d + 6) (ST := ST) (WE := WE) (KE := KR) q9.1.2.2.2.2.2.2.1 q9.1.2.2.2.2.2.2.2 ls lw lkr (vg_at_put (x := rC z mo ma ym dm2 dt2 tl2 hn2 hm2 0 po2 fr2 so2 va2 0 wa2) q5) ((vg_at_ne rfl).trans ((q7 60 (by omega) (by omega) (by omega)).trans ((vg_at_ne rfl).trans ((vg_at_ne rfl).trans ((vg_at_ne rfl).trans ((r4 60 (by omega) (by omega)).trans h60)))))) ((vg_at_ne rfl).trans ((q7 61 (by omega) (by omega) (by omega)).trans ((vg_at_ne rfl).trans ((vg_at_ne rfl).trans ((vg_at_ne rfl).trans ((r4 61 (by omega) (by omega)).trans h61)))))) ((vg_at_ne rfl).trans ((q7 62 (by omega) (by omega) (by omega)).trans ((vg_at_ne rfl).trans ((vg_at_ne rfl).trans ((vg_at_ne rfl).trans ((r4 62 (by omega) (by omega)).trans h62)))))) (vg_at_o rfl q6.2.1) (vg_at_o rfl q6.2.2)
      refine ⟨_, _, w9, gx, goR _ (q8 w9 c5), ⟨_, (c10 15 (by omega) (by omega) (by omega) (by omega)).trans ((vg_at_ne rfl).trans ((q7 15 (by omega) (by omega) (by omega)).trans (vg_at_o rfl (vg_at_o rfl (vg_at_put r2))))), rfl⟩, ⟨_, c6, rfl⟩, ?_, ?_⟩
      · exact (c10 16 (by omega) (by omega) (by omega) (by omega)).trans ((vg_at_ne rfl).trans ((q7 16 (by omega) (by omega) (by omega)).trans ((vg_at_ne rfl).trans ((vg_at_ne rfl).trans ((vg_at_ne rfl).trans (r4 16 (by omega) (by omega)))))))
      · exact (c10 66 (by omega) (by omega) (by omega) (by omega)).trans ((vg_at_ne rfl).trans ((q7 66 (by omega) (by omega) (by omega)).trans ((vg_at_ne rfl).trans ((vg_at_ne rfl).trans ((vg_at_ne rfl).trans (r4 66 (by omega) (by omega)))))))
end TX
