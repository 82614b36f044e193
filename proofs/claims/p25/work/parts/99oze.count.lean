/-! count OF BOTH. -/
/-- strokes of the first n days -/
def smN (D : Nat → Int32) : Nat → Int32
  | 0 => 0
  | n + 1 => smN D n + D n
section CN
variable {X : List Int32} {d t : Nat} {w : ex_W} {x : Int32} {tf : Nat → Int32} {ta : Nat → List Int32} {ST WE : List Int32} {dn an wn : Nat} {fs5 : List Value}
theorem as_loop (hT : tA w t tf ta) (l2 : (ta 2).length = 60) (s6 : tf 5 = nI dn) (hdn : dn ≤ 60) : ∀ (f i : Nat), dn - i ≤ f → i ≤ dn → Go X d mt_153 (4, [some (.ref t), some (.int (smN (fun j => (ta 2).getD j 0) i)), some (.int (nI i))], []) w (some (.int (smN (fun j => (ta 2).getD j 0) dn)), w) := by
  have ed : (nI dn).toInt = (dn : Int) := nI_toInt (by omega)
  intro f
  induction f with
  | zero =>
    intro i hf hi
    obtain rfl : i = dn := by omega
    exact as_x hT.1 (by rw [s6]; exact Int.le_refl _)
  | succ f ih =>
    intro i hf hi
    by_cases c : i = dn
    · subst c
      exact as_x hT.1 (by rw [s6]; exact Int.le_refl _)
    · have ei : (nI i).toInt = (i : Int) := nI_toInt (by omega)
      have k := ih (i + 1) (by omega) (by omega)
      refine as_n hT.1 (hT.2 2 (by decide)) (by rw [s6, ei, ed]; omega) (by rw [ei]; omega) (by rw [l2]; exact fp_ix (by omega) (by decide)) ?_
      rw [nI_clamp (by omega), ex_gd_eq, ← nI_succ]
      exact k
theorem ctl_loop (h59 : ex_at w 59 = some (.inr (.inr (8, fs5)))) (f0 : ex_at fs5 0 = some (.ref 60)) (h60 : ex_at w 60 = some (.inl (.int, ST))) (ls : ST.length = 288) (s7 : ST.getD 0 0 = nI dn) (hdn : dn ≤ 60) : ∀ (f i : Nat), dn - i ≤ f → i ≤ dn → ∀ q, Go X d mt_82 (31, [some (.ref 59), some (.int x), some (.int (smN (fun j => ST.getD (1 + j) 0) dn)), some (.int (nI dn))], []) w q → Go X d mt_82 (4, [some (.ref 59), some (.int x), some (.int (smN (fun j => ST.getD (1 + j) 0) i)), some (.int (nI i))], []) w q := by
  have ed : (nI dn).toInt = (dn : Int) := nI_toInt (by omega)
  have g0 : ex_gd ST (Int32.toNatClampNeg 0) = nI dn := by rw [show Int32.toNatClampNeg 0 = 0 by decide, ex_gd_eq]; exact s7
  have i0 : ex_ix 0 ST.length = true := by rw [ls]; decide
  intro f
  induction f with
  | zero =>
    intro i hf hi q kk
    obtain rfl : i = dn := by omega
    exact cm_x h59 f0 h60 i0 (by rw [g0]; exact Int.le_refl _) kk
  | succ f ih =>
    intro i hf hi q kk
    by_cases c : i = dn
    · subst c
      exact cm_x h59 f0 h60 i0 (by rw [g0]; exact Int.le_refl _) kk
    · have ei : (nI i).toInt = (i : Int) := nI_toInt (by omega)
      have e1 : (1 : Int32) + nI i = nI (1 + i) := nI_add 1 i
      have k := ih (i + 1) (by omega) (by omega) q kk
      refine cm_n h59 f0 h60 i0 (by rw [g0, ei, ed]; omega) (by rw [e1, ls]; exact fp_ix (by omega) (by decide)) ?_
      rw [e1, nI_clamp (by omega), ex_gd_eq, ← nI_succ]
      exact k
theorem smN_cg {D D' : Nat → Int32} : ∀ n, (∀ i, i < n → D i = D' i) → smN D n = smN D' n
  | 0, _ => rfl
  | n + 1, h => by
    show smN D n + D n = smN D' n + D' n
    rw [smN_cg n (fun i hi => h i (by omega)), h n (by omega)]
theorem st_count {gs : List Value} (h : stR w t tf ta ST WE dn an wn) (hi : imP w (tf 0) (tf 1) ST WE) (hP : tpR w) (hY : yrR w) (hs : sh_A w) (hc : sh_C w) (h0 : ex_at w 0 = some (.inr (.inr (7, gs)))) (g0 : ex_at gs 0 = some (.ref 15)) (g6 : ex_at gs 6 = some (.ref 34)) (h59 : ex_at w 59 = some (.inr (.inr (8, fs5)))) (f1 : ex_at fs5 1 = some (.ref 61)) (hb : ∀ KM, ex_at w 61 = some (.inl (.boolean, KM)) → ∀ k, k < 2 → (KM.getD k 0).toInt = 0 ∨ (KM.getD k 0).toInt = 1) : ∃ r, Go X (d + 1) mt_81 (ex_ent mt_81 [.ref 0, .int x]) w (some (.int r), w) ∧ Go X (d + 1) mt_82 (ex_ent mt_82 [.ref 59, .int x]) w (some (.int r), w) := by
  obtain ⟨t0, t6, ⟨gs', h0', g9⟩, hT, ⟨fs5', h59', f0, f2, f3, f4⟩, h60, h62, hR⟩ := id h
  obtain rfl := at_obj h0 h0'
  obtain rfl := at_obj h59 h59'
  obtain ⟨⟨l0, l1, l2, l3, l4, l5, l6, l7⟩, hS, hW, hPg, hD, hA, hV⟩ := id hR
  obtain ⟨s1, s2, s3, s4, s5, s6, s7, s8, s9, s10, s11, s12, s13, s14, s15, s16, s17, s18⟩ := id hS
  have go : ∀ (x : Int32) (q : Option Value × ex_W), Go X (d + 1) mt_82 (31, [some (.ref 59), some (.int x), some (.int (smN (fun j => ST.getD (1 + j) 0) dn)), some (.int (nI dn))], []) w q → Go X (d + 1) mt_82 (ex_ent mt_82 [.ref 59, .int x]) w q := fun x q kk => by
    have k := ctl_loop (X := X) (d := d + 1) (x := x) h59 f0 h60 l6 s7 s12 dn 0 (by omega) (by omega) q kk
    rw [nI_0] at k
    exact cm_0 k
  have e0 : Int32.toNatClampNeg 0 = 0 := by decide
  have e1 : Int32.toNatClampNeg 1 = 1 := by decide
  by_cases c : 0 ≤ x.toInt ∧ x.toInt ≤ 6
  · have ex : x = nI x.toInt.toNat := tI_nI (by omega) (by omega)
    have hk : x.toInt.toNat < 7 := by omega
    generalize x.toInt.toNat = k at ex hk
    subst ex
    match k, hk with
    | 0, _ =>
      obtain ⟨gy, fy, n, l, l', a1, a2, a3, a4, a5, a6, -⟩ := hY
      obtain rfl := at_obj h0 a1
      obtain rfl := at_obj h59 a4
      exact ⟨_, ct_0 h0 a3, go _ _ (cn_0 h59 a6)⟩
    | 1, _ =>
      have g := cn_1 (X := X) (d := d + 1) (v := smN (fun j => ST.getD (1 + j) 0) dn) (i := nI dn) h59 f0 h60 (by rw [l6]; decide)
      rw [show Int32.toNatClampNeg 81 = 81 by decide, ex_gd_eq, show ST.getD 81 0 = nI an from s9, ← s8] at g
      exact ⟨_, ct_1 h0 g9 hT.1, go _ _ g⟩
    | 2, _ =>
      have g := cn_2 (X := X) (d := d + 1) (v := smN (fun j => ST.getD (1 + j) 0) dn) (i := nI dn) h59 f0 h60 (by rw [l6]; decide)
      rw [show Int32.toNatClampNeg 87 = 87 by decide, ex_gd_eq, show ST.getD 87 0 = nI wn from s11, ← s10] at g
      exact ⟨_, ct_2 h0 g9 hT.1, go _ _ g⟩
    | 3, _ =>
      obtain ⟨KE, KM, a1, a2, a3, a4, a5, -⟩ := id hi
      have i0 : ex_ix 0 KE.length = true := by rw [a3]; decide
      have i1 : ex_ix 1 KE.length = true := by rw [a3]; decide
      have j0 : ex_ix 0 KM.length = true := by rw [a4]; decide
      have j1 : ex_ix 1 KM.length = true := by rw [a4]; decide
      have fl01 : ∀ v : Int32, (v.toInt = 0 ∨ v.toInt = 1) → (v.toInt = 0 → v = 0) ∧ (¬ v.toInt = 0 → v = 1) := fun v hv => ⟨fun e => Int32.toInt_inj.mp (e.trans (by decide)), fun e => Int32.toInt_inj.mp ((show v.toInt = 1 by omega).trans (by decide))⟩
      have b0 := fl01 _ (hb KM a2 0 (by omega))
      have b1 := fl01 _ (hb KM a2 1 (by omega))
      by_cases z0 : (KE.getD 0 0).toInt = 0
      · have y0 : KM.getD 0 0 = 0 := b0.1 (by rw [← a5 0 (by omega)]; exact z0)
        by_cases z1 : (KE.getD 1 0).toInt = 0
        · have y1 : KM.getD 1 0 = 0 := b1.1 (by rw [← a5 1 (by omega)]; exact z1)
          exact ⟨_, ct_300 h0 g6 a1 i0 (by rw [e0, ex_gd_eq]; exact z0) i1 (by rw [e1, ex_gd_eq]; exact z1), go _ _ (cn_3 h59 f1 a2 j0 (by rw [e0, ex_gd_eq, y0]; exact jflag_0) j1 (by rw [e1, ex_gd_eq, y1]; exact jflag_0))⟩
        · have y1 : KM.getD 1 0 = 1 := b1.2 (by rw [← a5 1 (by omega)]; exact z1)
          exact ⟨_, ct_301 h0 g6 a1 i0 (by rw [e0, ex_gd_eq]; exact z0) i1 (by rw [e1, ex_gd_eq]; exact z1), go _ _ (cn_3 h59 f1 a2 j0 (by rw [e0, ex_gd_eq, y0]; exact jflag_0) j1 (by rw [e1, ex_gd_eq, y1]; exact jflag_1))⟩
      · have y0 : KM.getD 0 0 = 1 := b0.2 (by rw [← a5 0 (by omega)]; exact z0)
        by_cases z1 : (KE.getD 1 0).toInt = 0
        · have y1 : KM.getD 1 0 = 0 := b1.1 (by rw [← a5 1 (by omega)]; exact z1)
          exact ⟨_, ct_310 h0 g6 a1 i0 (by rw [e0, ex_gd_eq]; exact z0) i1 (by rw [e1, ex_gd_eq]; exact z1), go _ _ (cn_3 h59 f1 a2 j0 (by rw [e0, ex_gd_eq, y0]; exact jflag_1) j1 (by rw [e1, ex_gd_eq, y1]; exact jflag_0))⟩
        · have y1 : KM.getD 1 0 = 1 := b1.2 (by rw [← a5 1 (by omega)]; exact z1)
          exact ⟨_, ct_311 h0 g6 a1 i0 (by rw [e0, ex_gd_eq]; exact z0) i1 (by rw [e1, ex_gd_eq]; exact z1), go _ _ (cn_3 h59 f1 a2 j0 (by rw [e0, ex_gd_eq, y0]; exact jflag_1) j1 (by rw [e1, ex_gd_eq, y1]; exact jflag_1))⟩
    | 4, _ =>
      obtain ⟨n, B, T, fsP, fsM, a1, a2, a3, a4, a5, -⟩ := hP
      obtain rfl := at_obj h59 a4
      exact ⟨_, ct_4 h0 g0 a1 a2, go _ _ (cn_4 h59 a5)⟩
    | 5, _ =>
      obtain ⟨fs4, CL, LN, SZ, CE, la, le, p1, p2, p3, p4, p5, p6, p7, p8, p9, p10, p11, p12, p13⟩ := hs 0 (by omega)
      obtain ⟨gc, fc, j1, j2, j3, j4, j5, j6, j7⟩ := hc
      obtain rfl := at_obj h0 j1
      obtain rfl := at_obj h59 j4
      have i0 : ex_ix 0 LN.length = true := by rw [p10]; decide
      rcases p13 with ⟨q1, q2⟩ | ⟨q1, q1', q2, q3, q4, q5, q6⟩
      · exact ⟨_, ct_50 h0 j2 j3 p1 p3 p4 (in_1 p1 p3 p4 q1), go _ _ (cn_50 h59 j5 j6 p6 p7 i0 (by rw [e0, ex_gd_eq]; exact q2))⟩
      · have g := cn_51 (X := X) (d := d + 1) (v := smN (fun j => ST.getD (1 + j) 0) dn) (i := nI dn) h59 j5 j6 p6 p7 i0 (by rw [e0, ex_gd_eq, q4]; omega) (by rw [p11]; decide)
        rw [e0, ex_gd_eq, q5] at g
        exact ⟨_, ct_51 h0 j2 j3 p1 p3 p4 (in_0 p1 p3 p4 (by omega)), go _ _ g⟩
    | 6, _ =>
      have k := as_loop (X := X) (d := d) hT l2 s6 s12 dn 0 (by omega) (by omega)
      rw [nI_0] at k
      have e : smN (fun j => ST.getD (1 + j) 0) dn = smN (fun j => (ta 2).getD j 0) dn := smN_cg dn (fun i hi => hD i hi)
      have g := cn_6 (X := X) (d := d + 1) (v := smN (fun j => ST.getD (1 + j) 0) dn) (i := nI dn) (w := w)
      have g2 := go _ _ g
      rw [e] at g2
      exact ⟨_, ct_6 h0 g9 hT.1 (as_0 k), g2⟩
    | k + 7, hk => exact absurd hk (by omega)
  · exact ⟨_, ct_d (by omega), go _ _ (cn_d (by omega))⟩
end CN
