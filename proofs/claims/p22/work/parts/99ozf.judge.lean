/-! judge OF BOTH. -/
section JD
variable {X : List Int32} {d t : Nat} {w : ex_W} {tf : Nat → Int32} {ta : Nat → List Int32} {ST WE l l' : List Int32} {dn an wn N : Nat} {x : Int32}
/-- the first of the year that is not well -/
noncomputable def jdV (tf : Nat → Int32) (ST l : List Int32) (x : Int32) : Nat → Nat → (Nat → Int) → Nat → Int32
  | 0, _, _, _ => m4i
  | n + 1, i, R, m => if (l.getD i 0).toInt = 0 then jdV tf ST l x n (i + 1) (up R m 0) (m + 1) else if okP R m (tf 2).toInt (tf 3).toInt (l.getD i 0).toInt = true then (if (mnV R m ST (tf 1) (l.getD i 0)).toInt = -4 then (if x.toInt = 0 then nI i else 1) else jdV tf ST l x n (i + 1) (up R m (l.getD i 0).toInt) (m + 1)) else if x.toInt = 0 then nI i else 0
theorem jl_loop {gs : List Value} (hR : Rs tf ta ST WE dn an wn) (t6 : t + 6 < 15) (g1 : ex_at gs 1 = some (.ref 17)) (g8 : ex_at gs 8 = some (.ref 33)) (g11 : ex_at gs 11 = some (.int (nI N))) (hN : N ≤ 12) (ll : l.length = 12) (hl : ∀ i, i < N → 0 ≤ (l.getD i 0).toInt ∧ (l.getD i 0).toInt ≤ (tf 0).toInt) : ∀ (n i : Nat) (w : ex_W) (o1 o2 o3 : Option Value) (R : Nat → Int) (m : Nat), i + n = N → m + n ≤ 128 → ex_at w 0 = some (.inr (.inr (7, gs))) → tA w t tf ta → ex_at w 33 = some (.inl (.int, l)) → alR w t m R → ∃ w', Go X (d + 2) mt_43 (25, [some (.ref 0), some (.int x), some (.int (nI i)), o1, o2, o3], []) w (some (.int (jdV tf ST l x n i R m)), w') ∧ ∀ q, ¬ (17 ≤ q ∧ q ≤ 20) → ex_at w' q = ex_at w q
  | 0, i, w, o1, o2, o3, R, m, hi, hm, h0, hT, h33, hA => by
    obtain rfl : i = N := by omega
    exact ⟨w, jl_x h0 g11 (Int.le_refl _), fun _ _ => rfl⟩
  | n + 1, i, w, o1, o2, o3, R, m, hi, hm, h0, hT, h33, hA => by
    obtain ⟨s1, s2, s3, s4, s5, s6, s7, s8, s9, s10, s11, s12, s13, s14, s15, s16, s17, s18⟩ := id hR.2.1
    have ei : (nI i).toInt = (i : Int) := nI_toInt (by omega)
    have eN : (nI N).toInt = (N : Int) := nI_toInt (by omega)
    obtain ⟨b, q1, q2⟩ := fb_all (X := X) (d := d) hA (by omega) hT.1 ⟨s15, s16⟩
    obtain ⟨RU, LB, LA, k17, -⟩ := id hA
    obtain ⟨v0, v16⟩ := hl i (by omega)
    have eg : ex_gd l (Int32.toNatClampNeg (nI i)) = l.getD i 0 := by rw [nI_clamp (by omega), ex_gd_eq]
    have ix : ex_ix (nI i) l.length = true := by rw [ll]; exact fp_ix (by omega) (by decide)
    have lt1 : (nI i).toInt < (nI N).toInt := by rw [ei, eN]; omega
    have lt2 : (nI i).toInt < 12 := by rw [ei]; omega
    obtain ⟨w1, p1, p2, p3⟩ := al_pass (X := X) (d := d + 1) (x := l.getD i 0) hA (by omega) (by omega) (by omega)
    have more : ∃ w', Go X (d + 2) mt_43 (25, [some (.ref 0), some (.int x), some (.int (nI i + 1)), some (.int (l.getD i 0)), some (.int b), some (.int 1)], []) w1 (some (.int (jdV tf ST l x n (i + 1) (up R m (l.getD i 0).toInt) (m + 1))), w') ∧ ∀ q, ¬ (17 ≤ q ∧ q ≤ 20) → ex_at w' q = ex_at w q := by
      obtain ⟨w', g2, g3⟩ := jl_loop hR t6 g1 g8 g11 hN ll hl n (i + 1) w1 (some (.int (l.getD i 0))) (some (.int b)) (some (.int 1)) (up R m (l.getD i 0).toInt) (m + 1) (by omega) (by omega) ((p3 0 (by omega)).trans h0) (hT.off (fun q a c => p3 q (by omega))) ((p3 33 (by omega)).trans h33) p2
      rw [show some (Value.int (nI (i + 1))) = some (.int (nI i + 1)) by rw [nI_succ]] at g2
      exact ⟨w', g2, fun q hq => (g3 q hq).trans (p3 q hq)⟩
    obtain ⟨w', g2, g3⟩ := more
    by_cases c0 : (l.getD i 0).toInt = 0
    · have e : jdV tf ST l x (n + 1) i R m = jdV tf ST l x n (i + 1) (up R m (l.getD i 0).toInt) (m + 1) := by
        rw [c0]
        exact if_pos c0
      rw [e]
      exact ⟨w', jl_z (w1 := w1) h0 g1 g8 g11 k17 h33 lt1 lt2 ix q1 (by rw [eg]; exact c0) (by rw [eg]; exact c0) (by rw [eg]; exact p1) (by rw [eg]; exact g2), g3⟩
    · have n1 : 1 ≤ (l.getD i 0).toInt ∧ (l.getD i 0).toInt ≤ (tf 0).toInt := by omega
      have ev : l.getD i 0 = nI (l.getD i 0).toInt.toNat := tI_nI (by omega) (by omega)
      have hz : (b &&& ((1 : Int32) <<< (l.getD i 0 &&& 31))).toInt = 0 ↔ bt b (l.getD i 0).toInt.toNat = false := by
        have := bt_z (b := b) (k := (l.getD i 0).toInt.toNat) (by omega)
        rw [← ev] at this
        exact this
      have hb : bt b (l.getD i 0).toInt.toNat = okP R m (tf 2).toInt (tf 3).toInt (l.getD i 0).toInt := by
        rw [q2 _ (by omega), decide_eq_true (show 1 ≤ (l.getD i 0).toInt.toNat ∧ (((l.getD i 0).toInt.toNat : Nat) : Int) ≤ (tf 0).toInt by omega), Bool.true_and, show (((l.getD i 0).toInt.toNat : Nat) : Int) = (l.getD i 0).toInt by omega]
      by_cases c1 : okP R m (tf 2).toInt (tf 3).toInt (l.getD i 0).toInt = true
      · have gx := mg_all (X := X) (d := d) (x := l.getD i 0) (b := b) k17 hT hR.1.2.1 s16 s17
        rw [mg_mn (ST := ST) (dn := m) (R := R) n1 s16 s3 s4 s5 (hR.2.2.2.1 (l.getD i 0).toInt.toNat (by omega) (by omega)).1 q2] at gx
        have nz : ¬ (b &&& ((1 : Int32) <<< (l.getD i 0 &&& 31))).toInt = 0 := fun h => by
          rw [hz.mp h, c1] at hb
          exact absurd hb (by decide)
        by_cases c2 : (mnV R m ST (tf 1) (l.getD i 0)).toInt = -4
        · by_cases c3 : x.toInt = 0
          · have e : jdV tf ST l x (n + 1) i R m = nI i := (if_neg c0).trans ((if_pos c1).trans ((if_pos c2).trans (if_pos c3)))
            rw [e]
            exact ⟨w, jl_m0 h0 g1 g8 g11 k17 h33 lt1 lt2 ix q1 (by rw [eg]; exact c0) (by rw [eg]; exact nz) (by rw [eg]; exact c0) (by rw [eg]; exact gx) c2 c3, fun _ _ => rfl⟩
          · have e : jdV tf ST l x (n + 1) i R m = 1 := (if_neg c0).trans ((if_pos c1).trans ((if_pos c2).trans (if_neg c3)))
            rw [e]
            exact ⟨w, jl_m1 h0 g1 g8 g11 k17 h33 lt1 lt2 ix q1 (by rw [eg]; exact c0) (by rw [eg]; exact nz) (by rw [eg]; exact c0) (by rw [eg]; exact gx) c2 c3, fun _ _ => rfl⟩
        · have e : jdV tf ST l x (n + 1) i R m = jdV tf ST l x n (i + 1) (up R m (l.getD i 0).toInt) (m + 1) := (if_neg c0).trans ((if_pos c1).trans (if_neg c2))
          rw [e]
          exact ⟨w', jl_n (w1 := w1) h0 g1 g8 g11 k17 h33 lt1 lt2 ix q1 (by rw [eg]; exact c0) (by rw [eg]; exact nz) (by rw [eg]; exact c0) (by rw [eg]; exact gx) c2 (by rw [eg]; exact p1) (by rw [eg]; exact g2), g3⟩
      · have zz : (b &&& ((1 : Int32) <<< (l.getD i 0 &&& 31))).toInt = 0 := hz.mpr (by rw [hb]; exact Bool.eq_false_iff.mpr c1)
        by_cases c3 : x.toInt = 0
        · have e : jdV tf ST l x (n + 1) i R m = nI i := (if_neg c0).trans ((if_neg c1).trans (if_pos c3))
          rw [e]
          exact ⟨w, jl_f0 h0 g1 g8 g11 k17 h33 lt1 lt2 ix q1 (by rw [eg]; exact c0) (by rw [eg]; exact zz) c3, fun _ _ => rfl⟩
        · have e : jdV tf ST l x (n + 1) i R m = 0 := (if_neg c0).trans ((if_neg c1).trans (if_neg c3))
          rw [e]
          exact ⟨w, jl_f1 h0 g1 g8 g11 k17 h33 lt1 lt2 ix q1 (by rw [eg]; exact c0) (by rw [eg]; exact zz) c3, fun _ _ => rfl⟩
theorem kl_loop (hR : Rs tf ta ST WE dn an wn) (hg : 0 ≤ (ST.getD 78 0).toInt ∧ (ST.getD 78 0).toInt ≤ 20) (hN : N ≤ 12) (ll : l'.length = 12) (hl : ∀ i, i < N → l'.getD i 0 = l.getD i 0 ∧ 0 ≤ (l.getD i 0).toInt ∧ (l.getD i 0).toInt ≤ (tf 0).toInt) : ∀ (n i : Nat) (w : ex_W) (fs5 : List Value) (o1 : Option Value) (R : Nat → Int) (m : Nat), i + n = N → m + n ≤ 130 → ex_at w 59 = some (.inr (.inr (8, fs5))) → ex_at fs5 3 = some (.int (tf 1)) → ex_at fs5 5 = some (.ref 63) → ex_at fs5 6 = some (.int (nI N)) → ex_at w 63 = some (.inl (.int, l')) → rwR w m R ST → (∀ i, i < m → 0 ≤ R i ∧ R i ≤ 16) → ∃ w', Go X (d + 2) mt_44 (18, [some (.ref 59), some (.int x), some (.int (nI i)), o1], []) w (some (.int (jdV tf ST l x n i R m)), w')
  | 0, i, w, fs5, o1, R, m, hi, hm, h59, f3, f5, f6, h63, hr, hR16 => by
    obtain rfl : i = N := by omega
    exact ⟨w, kl_x h59 f6 (Int.le_refl _)⟩
  | n + 1, i, w, fs5, o1, R, m, hi, hm, h59, f3, f5, f6, h63, hr, hR16 => by
    obtain ⟨s1, s2, s3, s4, s5, s6, s7, s8, s9, s10, s11, s12, s13, s14, s15, s16, s17, s18⟩ := id hR.2.1
    have nz : ¬ tf 1 = 0 := fun e => by
      rw [e] at s17
      exact absurd s17 (by decide)
    have ei : (nI i).toInt = (i : Int) := nI_toInt (by omega)
    have eN : (nI N).toInt = (N : Int) := nI_toInt (by omega)
    obtain ⟨el, v0, v16⟩ := hl i (by omega)
    have eg : ex_gd l' (Int32.toNatClampNeg (nI i)) = l.getD i 0 := by rw [nI_clamp (by omega), ex_gd_eq]; exact el
    have ix : ex_ix (nI i) l'.length = true := by rw [ll]; exact fp_ix (by omega) (by decide)
    have lt1 : (nI i).toInt < (nI N).toInt := by rw [ei, eN]; omega
    obtain ⟨w1, fs5', a1, a2, a3, a4, a5⟩ := rw_add (X := X) (d := d + 1) (x := l.getD i 0) hr h59 (by omega) rfl
    obtain ⟨w', g2⟩ := kl_loop hR hg hN ll hl n (i + 1) w1 fs5' (some (.int (l.getD i 0))) (up R m (l.getD i 0).toInt) (m + 1) (by omega) (by omega) a3 ((a4 3 (by omega)).trans f3) ((a4 5 (by omega)).trans f5) ((a4 6 (by omega)).trans f6) ((a5 63 (by omega) (by omega)).trans h63) a2 (fun j hj => by
      by_cases e : j = m
      · rw [e, up_eq]
        omega
      · rw [up_ne _ _ e]
        exact hR16 j (by omega))
    rw [show some (Value.int (nI (i + 1))) = some (.int (nI i + 1)) by rw [nI_succ]] at g2
    by_cases c0 : (l.getD i 0).toInt = 0
    · have e : jdV tf ST l x (n + 1) i R m = jdV tf ST l x n (i + 1) (up R m (l.getD i 0).toInt) (m + 1) := by
        rw [c0]
        exact if_pos c0
      rw [e]
      exact ⟨w', kl_z (w1 := w1) h59 f5 f6 h63 lt1 ix (by rw [eg]; omega) (by rw [eg]; omega) (by rw [eg]; exact a1) (by rw [eg]; exact g2)⟩
    · have n1 : 1 ≤ (l.getD i 0).toInt ∧ (l.getD i 0).toInt ≤ 16 := by omega
      have gm := mb_all (X := X) (d := d + 1) (n := l.getD i 0) hr n1 hg hR16
      rw [show ST.getD 78 0 = tf 2 from s3, show ST.getD 79 0 = tf 3 from s4] at gm
      by_cases c1 : okP R m (tf 2).toInt (tf 3).toInt (l.getD i 0).toInt = true
      · have gn := mn_all (X := X) (d := d) (n := l.getD i 0) hr h59 f3 nz n1 hg hR16
        rw [c1] at gm
        by_cases c2 : (mnV R m ST (tf 1) (l.getD i 0)).toInt = -4
        · by_cases c3 : x.toInt = 0
          · have e : jdV tf ST l x (n + 1) i R m = nI i := (if_neg c0).trans ((if_pos c1).trans ((if_pos c2).trans (if_pos c3)))
            rw [e]
            exact ⟨w, kl_m0 h59 f5 f6 h63 lt1 ix (by rw [eg]; omega) (by rw [eg]; exact gm) (by rw [eg]; omega) (by rw [eg]; exact gn) c2 c3⟩
          · have e : jdV tf ST l x (n + 1) i R m = 1 := (if_neg c0).trans ((if_pos c1).trans ((if_pos c2).trans (if_neg c3)))
            rw [e]
            exact ⟨w, kl_m1 h59 f5 f6 h63 lt1 ix (by rw [eg]; omega) (by rw [eg]; exact gm) (by rw [eg]; omega) (by rw [eg]; exact gn) c2 c3⟩
        · have e : jdV tf ST l x (n + 1) i R m = jdV tf ST l x n (i + 1) (up R m (l.getD i 0).toInt) (m + 1) := (if_neg c0).trans ((if_pos c1).trans (if_neg c2))
          rw [e]
          exact ⟨w', kl_n (w1 := w1) h59 f5 f6 h63 lt1 ix (by rw [eg]; omega) (by rw [eg]; exact gm) (by rw [eg]; omega) (by rw [eg]; exact gn) c2 (by rw [eg]; exact a1) (by rw [eg]; exact g2)⟩
      · rw [Bool.eq_false_iff.mpr c1] at gm
        by_cases c3 : x.toInt = 0
        · have e : jdV tf ST l x (n + 1) i R m = nI i := (if_neg c0).trans ((if_neg c1).trans (if_pos c3))
          rw [e]
          exact ⟨w, kl_f0 h59 f5 f6 h63 lt1 ix (by rw [eg]; omega) (by rw [eg]; exact gm) c3⟩
        · have e : jdV tf ST l x (n + 1) i R m = 0 := (if_neg c0).trans ((if_neg c1).trans (if_neg c3))
          rw [e]
          exact ⟨w, kl_f1 h59 f5 f6 h63 lt1 ix (by rw [eg]; omega) (by rw [eg]; exact gm) c3⟩
theorem st_judge (h : stR w t tf ta ST WE dn an wn) (hC : dyC w) (hY : yrR w) : ∃ r wx wm, Go X (d + 3) mt_43 (ex_ent mt_43 [.ref 0, .int x]) w (some (.int r), wx) ∧ Go X (d + 3) mt_44 (ex_ent mt_44 [.ref 59, .int x]) wx (some (.int r), wm) := by
  obtain ⟨t0, t6, ⟨gs, h0, g9⟩, hT, ⟨fs50, h59, f0, f2, f3, f4⟩, h60, -, hR⟩ := id h
  obtain ⟨s1, s2, s3, s4, s5, s6, s7, s8, s9, s10, s11, s12, s13, s14, s15, s16, s17, s18⟩ := id hR.2.1
  obtain ⟨⟨fsA, vvA, mmA, RUA, LBA, LAA, a17, -⟩, g1, -⟩ := id hC
  have g1 := g1 gs h0
  obtain ⟨hg, hR16⟩ := dy_rng h hC
  obtain ⟨gs', fs5', N, l, l', y1, y2, y3, y4, y5, y6, y7, y8, y9, y10, y11, y12⟩ := hY
  obtain rfl := at_obj h0 y1
  obtain rfl := at_obj h59 y4
  have y12 : ∀ i, i < N → l'.getD i 0 = l.getD i 0 ∧ 0 ≤ (l.getD i 0).toInt ∧ (l.getD i 0).toInt ≤ (tf 0).toInt := fun i hi => ⟨(y12 i hi).1, (y12 i hi).2 _ (fd_obj h59 f2)⟩
  have e0 : (0 : Int64).toInt = 0 := by decide
  have e1 : (1 : Int64).toInt = 1 := by decide
  by_cases hx : 0 ≤ x.toInt ∧ x.toInt ≤ 1
  · obtain ⟨w1, b1, b2, hT1, b3⟩ := dy_begin (X := X) (d := d + 1) (k := 0) h hC (by omega)
    rw [nI_0] at b1
    have A1 : alR w1 t dn (tD ta) := b2.cg (fun i hi => if_pos (by omega))
    obtain ⟨wx, gx, gF⟩ := jl_loop (X := X) (d := d + 1) (x := x) hR t6 g1 y2 y3 y9 y10 (fun i hi => (y12 i hi).2) N 0 w1 none none none (tD ta) dn (by omega) (by omega) ((b3 0 (by omega)).trans h0) hT1 ((b3 33 (by omega)).trans y7) A1
    obtain ⟨wy, fs5, fs5', z1, z2, z3, z4, z5, z6, z7, z8⟩ := dy_row (X := X) (d := d + 2) h hC (fun q hq => (gF q (by omega)).trans (b3 q (by omega)))
    have k59 : ex_at wx 59 = some (.inr (.inr (8, fs50))) := (gF 59 (by omega)).trans ((b3 59 (by omega)).trans h59)
    obtain rfl := at_obj k59 z3
    obtain ⟨wm, gm⟩ := kl_loop (X := X) (d := d + 1) (x := x) (l := l) hR hg y9 y11 y12 N 0 wy fs5' none (tD ta) dn (by omega) (by omega) z4 ((z5 3 (by omega)).trans f3) ((z5 5 (by omega)).trans y5) ((z5 6 (by omega)).trans y6) ((z8 63 (by omega) (by omega)).trans ((gF 63 (by omega)).trans ((b3 63 (by omega)).trans y8))) z2 hR16
    rw [nI_0] at gx gm
    exact ⟨_, wx, wm, jd_0 h0 g1 g9 a17 (by omega) (by omega) b1 gx, jm_0 k59 (sin_t rfl (l := 0) (h := 1) e0 e1 hx.1 hx.2) z1 gm⟩
  · by_cases c : x.toInt < 0
    · exact ⟨_, w, w, jd_1 c, jm_1 h59 (sin_f rfl (l := 0) (h := 1) e0 e1 hx)⟩
    · exact ⟨_, w, w, jd_2 (by omega) (by omega), jm_1 h59 (sin_f rfl (l := 0) (h := 1) e0 e1 hx)⟩
end JD
