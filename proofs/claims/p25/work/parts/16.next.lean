/-! THE MACHINE FOLLOWS EACH INSTRUCTION THAT GOES ON IN ITS FRAME. -/
theorem ex_cpy_len {f g : List Int32} {sp dp n : Nat} (h1 : sp + n ≤ f.length) (h2 : dp + n ≤ g.length) : (ex_cpy f g sp dp n).length = g.length := by
  unfold ex_cpy
  simp
  omega
theorem ex_cpy_eq {f g : List Int32} {sp dp n : Nat} (h1 : sp + n ≤ f.length) (h2 : dp + n ≤ g.length) : va_cpy (fun j => f.getD j 0) (fun j => g.getD j 0) sp dp n = fun j => (ex_cpy f g sp dp n).getD j 0 := by
  funext j
  unfold va_cpy ex_cpy
  have e1 : (g.take dp).length = dp := by rw [List.length_take]; omega
  have e2 : ((f.drop sp).take n).length = n := by rw [List.length_take, List.length_drop]; omega
  simp only [List.getD_eq_getElem?_getD]
  by_cases hj : j < dp
  · rw [if_neg (by omega), List.getElem?_append_left (by omega), List.getElem?_take_of_lt hj]
  · rw [List.getElem?_append_right (by omega), e1]
    by_cases hk : j < dp + n
    · rw [if_pos ⟨by omega, hk⟩, List.getElem?_append_left (by omega), List.getElem?_take_of_lt (by omega), List.getElem?_drop]
    · rw [if_neg (by omega), List.getElem?_append_right (by omega), e2, List.getElem?_drop]
      congr 2
      omega
section EXI
variable {p : Program} {l : Launch} {e : Env} {R : Room} {s : State} {m : MethodId} {args : Array Value} {below : List Frame} {meth : Method} {c : Code} {Q : State → Prop} {G : ex_G} {nL L0 S0 pc : Nat} {lo : ex_L} {st : List Value} {w : ex_W} {M : ex_M} {i : Nat} {X : List Int32}
variable {a : Nat} {b : ex_L} {f : List Value} {d : ex_W}
/-- the instruction of a call -/
def ex_ivI (kd i : Nat) : Instr := match kd with
  | 0 => .invokevirtual i
  | 1 => .invokestatic i
  | _ => .invokespecial i
theorem xw_int {kd kk pl : Nat} (C : ex_Cx p s m args meth c G M L0) (hnL : nL = M.2.2.2.2.1) (hR0 : w.length - L0 ≤ R.cells ∧ ex_sl w - S0 ≤ R.slots) (hRm : 1 ≤ R.frames ∧ 100 ≤ R.locals) (hf : ex_itr M.2.2.1 i = some (kk, pl)) (hdg : decode M.2.2.2.2.2.2.2.2.2 pc = .ok (ex_ivI kd i, 3)) (h : ex_int kd kk pc lo st w = some (.inl ((a, b, f), d)))
    (k : ex_K p l e R s m args below meth c Q G nL L0 S0 a b f d) : ex_K p l e R s m args below meth c Q G nL L0 S0 pc lo st w := by
  have hck := ex_allA_of ex_itr_ck hf
  unfold ex_itrB at hck
  simp only [Bool.and_eq_true, decide_eq_true_eq] at hck
  have hlink := C.word (lw_in hck.2) rfl
  unfold ex_int at h
  split at h
  · split at h
    · next q r =>
      split at h
      · next hc =>
        obtain ⟨rfl, hcat⟩ := hc
        obtain ⟨rfl, rfl, rfl, rfl⟩ := xi_go h
        intro ls H locs hl hP hS
        exact W.objInit C.1 C.2.1 C.2.2.2.1 hlink (C.word fw_0 rfl) (C.word fw_1 rfl) rfl (by rw [C.2.2.1, ← hnL]; exact hl.2.1) rfl hdg hRm.1 (by rw [ex_cats_cv]; show 2 * 0 + _ + 12 ≤ _; omega) (k ls H locs hl hP hS)
      · cases h
    · cases h
  · split at h
    · next y x r =>
      split at h
      · next hc =>
        obtain ⟨rfl, hcat⟩ := hc
        obtain ⟨rfl, rfl, rfl, rfl⟩ := xi_go h
        intro ls H locs hl hP hS
        exact va_mmin C.1 C.2.1 (by rw [C.2.2.1, ← hnL]; exact hl.2.1.symm) C.2.2.2.1 hlink (C.word fw_2 rfl) (C.word fw_9 rfl) (C.word fw_3 rfl) hRm.1 (by rw [ex_cats_cv]; omega) hR0.1 hR0.2 hdg (k ls H locs hl hP hS)
      · cases h
    · cases h
  · split at h
    · next y x r =>
      split at h
      · next hc =>
        obtain ⟨rfl, hcat⟩ := hc
        obtain ⟨rfl, rfl, rfl, rfl⟩ := xi_go h
        intro ls H locs hl hP hS
        exact va_mmax C.1 C.2.1 (by rw [C.2.2.1, ← hnL]; exact hl.2.1.symm) C.2.2.2.1 hlink (C.word fw_4 rfl) (C.word fw_9 rfl) (C.word fw_5 rfl) hRm.1 (by rw [ex_cats_cv]; omega) hR0.1 hR0.2 hdg (k ls H locs hl hP hS)
      · cases h
    · cases h
  · split at h
    · next n dp q2 sp q1 r =>
      split at h
      · next ty1 f1 ty2 g1 hw1 hw2 =>
        split at h
        · next hc =>
          obtain ⟨rfl, hcat, rfl, rfl, h1, h2, h3, h4, h5⟩ := hc
          obtain ⟨rfl, rfl, rfl, rfl⟩ := xi_go h
          have hw1 := ex_lg hw1
          have hw2 := ex_lg hw2
          rw [ex_put_eq] at k
          intro ls H locs hl hP hS
          have e2 : ex_sl (w.set q2 (.inl (.int, ex_cpy f1 g1 sp.toNatClampNeg dp.toNatClampNeg n.toNatClampNeg))) = ex_sl w := ex_sl_set hw2 (by simp only [ex_sz]; exact ex_cpy_len h4 h5)
          have e1 : (ex_cw G w).set q2 (G.1 + q2, .inl (G.2.2.1 .int, g1.length, .inl (va_cpy (fun j => f1.getD j 0) (fun j => g1.getD j 0) sp.toNatClampNeg dp.toNatClampNeg n.toNatClampNeg))) = ex_cw G (w.set q2 (.inl (.int, ex_cpy f1 g1 sp.toNatClampNeg dp.toNatClampNeg n.toNatClampNeg))) := by
            rw [← ex_cw_set, ex_cpy_eq h4 h5]
            show _ = (ex_cw G w).set q2 (G.1 + q2, .inl (G.2.2.1 .int, (ex_cpy f1 g1 sp.toNatClampNeg dp.toNatClampNeg n.toNatClampNeg).length, .inl (fun j => (ex_cpy f1 g1 sp.toNatClampNeg dp.toNatClampNeg n.toNatClampNeg).getD j 0)))
            rw [ex_cpy_len h4 h5]
          refine va_copyi C.1 C.2.1 (by rw [C.2.2.1, ← hnL]; exact hl.2.1.symm) C.2.2.2.1 hlink (C.word fw_7 rfl) (C.word fw_6 rfl) (C.word fw_10 rfl) C.2.2.2.2.2.2.2.1 hP ex_Da hS q1 q2 0 0 (ex_cw_get hw1) (ex_cw_get hw2) ex_t0 ex_t0 rfl h1 h2 h3 h4 h5 (fun _ _ => rfl) hRm.1 ?_ hdg fun H1 locs1 z1 _ z3 => ?_
          · rw [ex_cats_cv]
            have : nativeFrameWords "java/lang/System" "arraycopy" 5 + 11 ≤ 90 := by decide
            omega
          · rw [e1] at z1
            have := k ls H1 locs1 hl z1 z3
            rw [List.length_set, e2] at this
            exact this
        · cases h
      · cases h
    · cases h
  · cases h
theorem xn_cl {kd : Nat} {t : Option (Nat × Nat × Nat × Nat × Nat × Nat × Nat)} (h : ex_cl kd t pc lo st w = some (.inl ((a, b, f), d))) : False := by
  unfold ex_cl at h
  split at h
  · split at h
    · split at h
      · split at h
        · split at h
          · split at h
            · cases h
            · cases h
          · cases h
        · split at h
          · cases h
          · cases h
        · cases h
      · cases h
      · split at h
        · cases h
        · cases h
      · cases h
    · cases h
  · cases h
theorem xn_ret {t : Option FieldType} (h : ex_ret t st = some (.inl ((a, b, f), d))) : False := by
  unfold ex_ret at h
  split at h
  · split at h
    · cases h
    · cases h
  · cases h
theorem xn_lret {t : Option FieldType} (h : ex_lret t st = some (.inl ((a, b, f), d))) : False := by
  unfold ex_lret at h
  split at h
  · cases h
  · cases h
theorem xn_vret {t : Option FieldType} (h : ex_vret t st = some (.inl ((a, b, f), d))) : False := by
  unfold ex_vret at h
  split at h
  · cases h
  · cases h
set_option maxHeartbeats 4000000 in
/-- AN INSTRUCTION THAT GOES ON IN ITS FRAME -/
theorem ex_next (C : ex_Cx p s m args meth c G M L0) (hck : ex_allT M.2.1 (ex_chk M.2.2.2.2.2.2.2.2.2) = true) (hgo : M.2.2.2.2.2.2.1 < 9 → ex_cn M.2.2.1 = ex_on M.2.2.2.2.2.2.1) (hX : M.1 = 0 → ex_Sc X G s) (hnL : nL = M.2.2.2.2.1) (hL : L0 ≤ w.length) (hS0 : S0 ≤ ex_sl w) (hR0 : w.length - L0 ≤ R.cells ∧ ex_sl w - S0 ≤ R.slots) (hR : d.length - L0 ≤ R.cells ∧ ex_sl d - S0 ≤ R.slots) (hRm : 1 ≤ R.frames ∧ 100 ≤ R.locals)
    (h : ex_step X M (pc, lo, st) w = some (.inl ((a, b, f), d))) (k : ex_K p l e R s m args below meth c Q G nL L0 S0 a b f d) : ex_K p l e R s m args below meth c Q G nL L0 S0 pc lo st w := by
  unfold ex_step at h
  split at h
  · next ins hf =>
    obtain ⟨n, hd, hn⟩ := ex_chk_of (ex_allT_of hck hf)
    cases ins
    case aload_n k' =>
      obtain rfl : n = 1 := hn.resolve_left (fun q => by cases q)
      obtain ⟨v, x, hr, hv, rfl, rfl, rfl, rfl⟩ := xi_ldA (G := G) h
      intro ls H locs hl hP hS
      have h5 := hl.2.2.2 _ _ hr
      rw [hv] at h5
      have kk := k ls H locs hl hP hS
      rw [List.map_cons, hv] at kk
      exact lv_aload_n C.1 C.2.1 hd rfl h5 kk
    case aload i' =>
      obtain rfl : n = 2 := hn.resolve_left (fun q => by cases q)
      obtain ⟨v, x, hr, hv, rfl, rfl, rfl, rfl⟩ := xi_ldA (G := G) h
      intro ls H locs hl hP hS
      have h5 := hl.2.2.2 _ _ hr
      rw [hv] at h5
      have kk := k ls H locs hl hP hS
      rw [List.map_cons, hv] at kk
      exact lv_aload C.1 C.2.1 hd h5 kk
    case iload_n k' =>
      obtain rfl : n = 1 := hn.resolve_left (fun q => by cases q)
      obtain ⟨x, hr, rfl, rfl, rfl, rfl⟩ := xi_ldI h
      exact fun ls H locs hl hP hS => lv_iload_n C.1 C.2.1 hd rfl (hl.2.2.2 _ _ hr) (k ls H locs hl hP hS)
    case iload i' =>
      obtain rfl : n = 2 := hn.resolve_left (fun q => by cases q)
      obtain ⟨x, hr, rfl, rfl, rfl, rfl⟩ := xi_ldI h
      exact fun ls H locs hl hP hS => lv_iload C.1 C.2.1 hd (hl.2.2.2 _ _ hr) (k ls H locs hl hP hS)
    case lload_n k' =>
      obtain rfl : n = 1 := hn.resolve_left (fun q => by cases q)
      obtain ⟨x, hr, rfl, rfl, rfl, rfl⟩ := xi_ldL h
      exact fun ls H locs hl hP hS => lv_lload_n C.1 C.2.1 hd rfl (hl.2.2.2 _ _ hr) (k ls H locs hl hP hS)
    case lload i' =>
      obtain rfl : n = 2 := hn.resolve_left (fun q => by cases q)
      obtain ⟨x, hr, rfl, rfl, rfl, rfl⟩ := xi_ldL h
      exact fun ls H locs hl hP hS => lv_lload C.1 C.2.1 hd (hl.2.2.2 _ _ hr) (k ls H locs hl hP hS)
    case istore_n k' =>
      obtain rfl : n = 1 := hn.resolve_left (fun q => by cases q)
      obtain ⟨x, r, rfl, hi, rfl, rfl, rfl, rfl⟩ := xi_stI h
      exact fun ls H locs hl hP hS => lv_istore_n C.1 C.2.1 hd rfl (ex_Lo_has hl) (by rw [← hl.1]; exact hi) rfl (fun ls' hl' => k ls' H locs (ex_Lo_wr1 hl.1 hl') hP hS)
    case istore i' =>
      obtain rfl : n = 2 := hn.resolve_left (fun q => by cases q)
      obtain ⟨x, r, rfl, hi, rfl, rfl, rfl, rfl⟩ := xi_stI h
      exact fun ls H locs hl hP hS => lv_istore C.1 C.2.1 hd (ex_Lo_has hl) (by rw [← hl.1]; exact hi) rfl (fun ls' hl' => k ls' H locs (ex_Lo_wr1 hl.1 hl') hP hS)
    case astore_n k' =>
      obtain rfl : n = 1 := hn.resolve_left (fun q => by cases q)
      obtain ⟨x, r, rfl, hi, rfl, rfl, rfl, rfl⟩ := xi_stA h
      exact fun ls H locs hl hP hS => lv_astore_n C.1 C.2.1 hd rfl (ex_Lo_has hl) (by rw [← hl.1]; exact hi) rfl (fun ls' hl' => k ls' H locs (ex_Lo_wr1 hl.1 hl') hP hS)
    case astore i' =>
      obtain rfl : n = 2 := hn.resolve_left (fun q => by cases q)
      obtain ⟨x, r, rfl, hi, rfl, rfl, rfl, rfl⟩ := xi_stA h
      exact fun ls H locs hl hP hS => lv_astore C.1 C.2.1 hd (ex_Lo_has hl) (by rw [← hl.1]; exact hi) rfl (fun ls' hl' => k ls' H locs (ex_Lo_wr1 hl.1 hl') hP hS)
    case lstore_n k' =>
      obtain rfl : n = 1 := hn.resolve_left (fun q => by cases q)
      obtain ⟨x, r, rfl, hi, rfl, rfl, rfl, rfl⟩ := xi_stL h
      exact fun ls H locs hl hP hS => lv_lstore_n C.1 C.2.1 hd rfl (ex_Lo_has hl) (by rw [← hl.1]; exact hi) rfl (fun ls' hl' => k ls' H locs (ex_Lo_wr2 hl.1 hl') hP hS)
    case lstore i' =>
      obtain rfl : n = 2 := hn.resolve_left (fun q => by cases q)
      obtain ⟨x, r, rfl, hi, rfl, rfl, rfl, rfl⟩ := xi_stL h
      exact fun ls H locs hl hP hS => lv_lstore C.1 C.2.1 hd (ex_Lo_has hl) (by rw [← hl.1]; exact hi) rfl (fun ls' hl' => k ls' H locs (ex_Lo_wr2 hl.1 hl') hP hS)
    case iinc i' n' =>
      obtain rfl : n = 3 := hn.resolve_left (fun q => by cases q)
      obtain ⟨x, hr, rfl, rfl, rfl, rfl⟩ := xi_inc h
      intro ls H locs hl hP hS
      obtain ⟨kx, hkx⟩ := List.getElem?_of_mem (ex_as_mem (G := G) (q := (i', .int x)).mpr ⟨_, hr, rfl⟩)
      have hi : i' < lo.length := (List.getElem?_eq_some_iff.mp (ex_rd_some.mp hr)).1
      exact lv_iinc C.1 C.2.1 hd (ex_Lo_has hl) hkx rfl (by rw [← hl.1]; exact hi) rfl (fun ls' hl' => k ls' H locs (ex_Lo_wr1 hl.1 hl') hP hS)
    case iconst n' =>
      obtain rfl : n = 1 := hn.resolve_left (fun q => by cases q)
      obtain ⟨rfl, rfl, rfl, rfl⟩ := xi_go h
      exact fun ls H locs hl hP hS => lv_iconst C.1 C.2.1 hd rfl (k ls H locs hl hP hS)
    case bipush n' =>
      obtain rfl : n = 2 := hn.resolve_left (fun q => by cases q)
      obtain ⟨rfl, rfl, rfl, rfl⟩ := xi_go h
      exact fun ls H locs hl hP hS => lv_bipush C.1 C.2.1 hd rfl (k ls H locs hl hP hS)
    case sipush n' =>
      obtain rfl : n = 3 := hn.resolve_left (fun q => by cases q)
      obtain ⟨rfl, rfl, rfl, rfl⟩ := xi_go h
      exact fun ls H locs hl hP hS => lv_sipush C.1 C.2.1 hd rfl (k ls H locs hl hP hS)
    case lconst n' =>
      obtain rfl : n = 1 := hn.resolve_left (fun q => by cases q)
      obtain ⟨rfl, rfl, rfl, rfl⟩ := xi_go h
      exact fun ls H locs hl hP hS => lv_lconst C.1 C.2.1 hd rfl (k ls H locs hl hP hS)
    case iadd =>
      obtain rfl : n = 1 := hn.resolve_left (by decide)
      obtain ⟨y, x, r, rfl, rfl, rfl, rfl, rfl⟩ := xi_i2 h
      exact fun ls H locs hl hP hS => lv_iadd C.1 C.2.1 hd  (k ls H locs hl hP hS)
    case isub =>
      obtain rfl : n = 1 := hn.resolve_left (by decide)
      obtain ⟨y, x, r, rfl, rfl, rfl, rfl, rfl⟩ := xi_i2 h
      exact fun ls H locs hl hP hS => lv_isub C.1 C.2.1 hd  (k ls H locs hl hP hS)
    case imul =>
      obtain rfl : n = 1 := hn.resolve_left (by decide)
      obtain ⟨y, x, r, rfl, rfl, rfl, rfl, rfl⟩ := xi_i2 h
      exact fun ls H locs hl hP hS => lv_imul C.1 C.2.1 hd  (k ls H locs hl hP hS)
    case iand =>
      obtain rfl : n = 1 := hn.resolve_left (by decide)
      obtain ⟨y, x, r, rfl, rfl, rfl, rfl, rfl⟩ := xi_i2 h
      exact fun ls H locs hl hP hS => lv_iand C.1 C.2.1 hd  (k ls H locs hl hP hS)
    case ior =>
      obtain rfl : n = 1 := hn.resolve_left (by decide)
      obtain ⟨y, x, r, rfl, rfl, rfl, rfl, rfl⟩ := xi_i2 h
      exact fun ls H locs hl hP hS => lv_ior C.1 C.2.1 hd  (k ls H locs hl hP hS)
    case ixor =>
      obtain rfl : n = 1 := hn.resolve_left (by decide)
      obtain ⟨y, x, r, rfl, rfl, rfl, rfl, rfl⟩ := xi_i2 h
      exact fun ls H locs hl hP hS => lv_ixor C.1 C.2.1 hd  (k ls H locs hl hP hS)
    case ishl =>
      obtain rfl : n = 1 := hn.resolve_left (by decide)
      obtain ⟨y, x, r, rfl, rfl, rfl, rfl, rfl⟩ := xi_i2 h
      exact fun ls H locs hl hP hS => lv_ishl C.1 C.2.1 hd  (k ls H locs hl hP hS)
    case ishr =>
      obtain rfl : n = 1 := hn.resolve_left (by decide)
      obtain ⟨y, x, r, rfl, rfl, rfl, rfl, rfl⟩ := xi_i2 h
      exact fun ls H locs hl hP hS => lv_ishr C.1 C.2.1 hd  (k ls H locs hl hP hS)
    case iushr =>
      obtain rfl : n = 1 := hn.resolve_left (by decide)
      obtain ⟨y, x, r, rfl, rfl, rfl, rfl, rfl⟩ := xi_i2 h
      exact fun ls H locs hl hP hS => lv_iushr C.1 C.2.1 hd rfl (k ls H locs hl hP hS)
    case idiv =>
      obtain rfl : n = 1 := hn.resolve_left (by decide)
      obtain ⟨y, x, r, rfl, h0, rfl, rfl, rfl, rfl⟩ := xi_d2 h
      exact fun ls H locs hl hP hS => lv_idiv C.1 C.2.1 hd h0 (k ls H locs hl hP hS)
    case irem =>
      obtain rfl : n = 1 := hn.resolve_left (by decide)
      obtain ⟨y, x, r, rfl, h0, rfl, rfl, rfl, rfl⟩ := xi_d2 h
      exact fun ls H locs hl hP hS => lv_irem C.1 C.2.1 hd h0 (k ls H locs hl hP hS)
    case ldiv =>
      obtain rfl : n = 1 := hn.resolve_left (by decide)
      obtain ⟨y, x, r, rfl, h0, rfl, rfl, rfl, rfl⟩ := xi_e2 h
      exact fun ls H locs hl hP hS => lv_ldiv C.1 C.2.1 hd h0 (k ls H locs hl hP hS)
    case lrem =>
      obtain rfl : n = 1 := hn.resolve_left (by decide)
      obtain ⟨y, x, r, rfl, h0, rfl, rfl, rfl, rfl⟩ := xi_e2 h
      exact fun ls H locs hl hP hS => lv_lrem C.1 C.2.1 hd h0 (k ls H locs hl hP hS)
    case ineg =>
      obtain rfl : n = 1 := hn.resolve_left (by decide)
      obtain ⟨x, r, rfl, rfl, rfl, rfl, rfl⟩ := xi_i1 h
      exact fun ls H locs hl hP hS => lv_ineg C.1 C.2.1 hd  (k ls H locs hl hP hS)
    case i2b =>
      obtain rfl : n = 1 := hn.resolve_left (by decide)
      obtain ⟨x, r, rfl, rfl, rfl, rfl, rfl⟩ := xi_i1 h
      exact fun ls H locs hl hP hS => lv_i2b C.1 C.2.1 hd rfl (k ls H locs hl hP hS)
    case i2s =>
      obtain rfl : n = 1 := hn.resolve_left (by decide)
      obtain ⟨x, r, rfl, rfl, rfl, rfl, rfl⟩ := xi_i1 h
      exact fun ls H locs hl hP hS => lv_i2s C.1 C.2.1 hd rfl (k ls H locs hl hP hS)
    case i2c =>
      obtain rfl : n = 1 := hn.resolve_left (by decide)
      obtain ⟨x, r, rfl, rfl, rfl, rfl, rfl⟩ := xi_i1 h
      exact fun ls H locs hl hP hS => lv_i2c C.1 C.2.1 hd rfl (k ls H locs hl hP hS)
    case i2l =>
      obtain rfl : n = 1 := hn.resolve_left (by decide)
      obtain ⟨x, r, rfl, rfl, rfl, rfl, rfl⟩ := xi_i2l h
      exact fun ls H locs hl hP hS => lv_i2l C.1 C.2.1 hd rfl (k ls H locs hl hP hS)
    case l2i =>
      obtain rfl : n = 1 := hn.resolve_left (by decide)
      obtain ⟨x, r, rfl, rfl, rfl, rfl, rfl⟩ := xi_l2i h
      exact fun ls H locs hl hP hS => lv_l2i C.1 C.2.1 hd rfl (k ls H locs hl hP hS)
    case ladd =>
      obtain rfl : n = 1 := hn.resolve_left (by decide)
      obtain ⟨y, x, r, rfl, rfl, rfl, rfl, rfl⟩ := xi_l2 h
      exact fun ls H locs hl hP hS => lv_ladd C.1 C.2.1 hd  (k ls H locs hl hP hS)
    case lmul =>
      obtain rfl : n = 1 := hn.resolve_left (by decide)
      obtain ⟨y, x, r, rfl, rfl, rfl, rfl, rfl⟩ := xi_l2 h
      exact fun ls H locs hl hP hS => lv_lmul C.1 C.2.1 hd  (k ls H locs hl hP hS)
    case land =>
      obtain rfl : n = 1 := hn.resolve_left (by decide)
      obtain ⟨y, x, r, rfl, rfl, rfl, rfl, rfl⟩ := xi_l2 h
      exact fun ls H locs hl hP hS => lv_land C.1 C.2.1 hd  (k ls H locs hl hP hS)
    case lor =>
      obtain rfl : n = 1 := hn.resolve_left (by decide)
      obtain ⟨y, x, r, rfl, rfl, rfl, rfl, rfl⟩ := xi_l2 h
      exact fun ls H locs hl hP hS => lv_lor C.1 C.2.1 hd  (k ls H locs hl hP hS)
    case lshl =>
      obtain rfl : n = 1 := hn.resolve_left (by decide)
      obtain ⟨y, x, r, rfl, rfl, rfl, rfl, rfl⟩ := xi_ls h
      exact fun ls H locs hl hP hS => lv_lshl C.1 C.2.1 hd rfl (k ls H locs hl hP hS)
    case lshr =>
      obtain rfl : n = 1 := hn.resolve_left (by decide)
      obtain ⟨y, x, r, rfl, rfl, rfl, rfl, rfl⟩ := xi_ls h
      exact fun ls H locs hl hP hS => lv_lshr C.1 C.2.1 hd rfl (k ls H locs hl hP hS)
    case lushr =>
      obtain rfl : n = 1 := hn.resolve_left (by decide)
      obtain ⟨y, x, r, rfl, rfl, rfl, rfl, rfl⟩ := xi_ls h
      exact fun ls H locs hl hP hS => lv_lushr C.1 C.2.1 hd rfl (k ls H locs hl hP hS)
    case lcmp =>
      obtain rfl : n = 1 := hn.resolve_left (by decide)
      obtain ⟨y, x, r, rfl, rfl, rfl, rfl, rfl⟩ := xi_lcm h
      exact fun ls H locs hl hP hS => W.lcmp C.1 C.2.1 hd  (k ls H locs hl hP hS)
    case dup =>
      obtain rfl : n = 1 := hn.resolve_left (by decide)
      obtain ⟨v, r, rfl, h0, rfl, rfl, rfl, rfl⟩ := xi_dup h
      exact fun ls H locs hl hP hS => lv_dup C.1 C.2.1 hd (by rw [ex_cat]; exact h0) (k ls H locs hl hP hS)
    case pop =>
      obtain rfl : n = 1 := hn.resolve_left (by decide)
      obtain ⟨v, r, rfl, h0, rfl, rfl, rfl, rfl⟩ := xi_pop h
      exact fun ls H locs hl hP hS => lv_pop C.1 C.2.1 hd (by rw [ex_cat]; exact h0) (k ls H locs hl hP hS)
    case pop2 =>
      obtain rfl : n = 1 := hn.resolve_left (by decide)
      obtain ⟨v, r, rfl, h0, rfl, rfl, rfl, rfl⟩ := xi_pop2 h
      exact fun ls H locs hl hP hS => lv_pop2_2 C.1 C.2.1 hd (by rw [ex_cat]; exact h0) (k ls H locs hl hP hS)
    case dup2 =>
      obtain rfl : n = 1 := hn.resolve_left (by decide)
      obtain ⟨u, v, r, rfl, h0, h1, rfl, rfl, rfl, rfl⟩ := xi_dup2 h
      exact fun ls H locs hl hP hS => lv_dup2_11 C.1 C.2.1 hd (by rw [ex_cat]; exact h0) (by rw [ex_cat]; exact h1) (k ls H locs hl hP hS)
    case goto off =>
      obtain rfl : n = 3 := hn.resolve_left (fun q => by cases q)
      obtain ⟨ht, rfl, rfl, rfl⟩ := xi_jp h
      exact fun ls H locs hl hP hS => lv_goto C.1 C.2.1 hd ht (k ls H locs hl hP hS)
    case ifCond cd off =>
      obtain rfl : n = 3 := hn.resolve_left (fun q => by cases q)
      obtain ⟨x, r, rfl, ht, hb, rfl, rfl, rfl⟩ := xi_b0 h
      intro ls H locs hl hP hS
      have kk := k ls H locs hl hP hS
      rcases hb with ⟨hb, rfl⟩ | ⟨hb, rfl⟩
      · cases cd with
        | eq => exact lv_if_eq C.1 C.2.1 hd ht (fun _ => kk) (fun q => absurd (of_decide_eq_true hb) q)
        | ne => exact lv_if_ne C.1 C.2.1 hd ht (fun _ => kk) (fun q => absurd q (of_decide_eq_true hb))
        | lt => exact lv_if_lt C.1 C.2.1 hd ht (fun _ => kk) (fun q => absurd (of_decide_eq_true hb) q)
        | ge => exact lv_if_ge C.1 C.2.1 hd ht (fun _ => kk) (fun q => absurd (of_decide_eq_true hb) q)
        | gt => exact lv_if_gt C.1 C.2.1 hd ht (fun _ => kk) (fun q => absurd (of_decide_eq_true hb) q)
        | le => exact lv_if_le C.1 C.2.1 hd ht (fun _ => kk) (fun q => absurd (of_decide_eq_true hb) q)
      · cases cd with
        | eq => exact lv_if_eq C.1 C.2.1 hd ht (fun q => absurd q (of_decide_eq_false hb)) (fun _ => kk)
        | ne => exact lv_if_ne C.1 C.2.1 hd ht (fun q => absurd q (of_decide_eq_false hb)) (fun _ => kk)
        | lt => exact lv_if_lt C.1 C.2.1 hd ht (fun q => absurd q (of_decide_eq_false hb)) (fun _ => kk)
        | ge => exact lv_if_ge C.1 C.2.1 hd ht (fun q => absurd q (of_decide_eq_false hb)) (fun _ => kk)
        | gt => exact lv_if_gt C.1 C.2.1 hd ht (fun q => absurd q (of_decide_eq_false hb)) (fun _ => kk)
        | le => exact lv_if_le C.1 C.2.1 hd ht (fun q => absurd q (of_decide_eq_false hb)) (fun _ => kk)
    case if_icmp cd off =>
      obtain rfl : n = 3 := hn.resolve_left (fun q => by cases q)
      obtain ⟨y, x, r, rfl, ht, hb, rfl, rfl, rfl⟩ := xi_b2 h
      intro ls H locs hl hP hS
      have kk := k ls H locs hl hP hS
      rcases hb with ⟨hb, rfl⟩ | ⟨hb, rfl⟩
      · cases cd with
        | eq => exact lv_icmp_eq C.1 C.2.1 hd ht (fun _ => kk) (fun q => absurd (of_decide_eq_true hb) q)
        | ne => exact lv_icmp_ne C.1 C.2.1 hd ht (fun _ => kk) (fun q => absurd q (of_decide_eq_true hb))
        | lt => exact lv_icmp_lt C.1 C.2.1 hd ht (fun _ => kk) (fun q => absurd (of_decide_eq_true hb) q)
        | ge => exact lv_icmp_ge C.1 C.2.1 hd ht (fun _ => kk) (fun q => absurd (of_decide_eq_true hb) q)
        | gt => exact lv_icmp_gt C.1 C.2.1 hd ht (fun _ => kk) (fun q => absurd (of_decide_eq_true hb) q)
        | le => exact lv_icmp_le C.1 C.2.1 hd ht (fun _ => kk) (fun q => absurd (of_decide_eq_true hb) q)
      · cases cd with
        | eq => exact lv_icmp_eq C.1 C.2.1 hd ht (fun q => absurd q (of_decide_eq_false hb)) (fun _ => kk)
        | ne => exact lv_icmp_ne C.1 C.2.1 hd ht (fun q => absurd q (of_decide_eq_false hb)) (fun _ => kk)
        | lt => exact lv_icmp_lt C.1 C.2.1 hd ht (fun q => absurd q (of_decide_eq_false hb)) (fun _ => kk)
        | ge => exact lv_icmp_ge C.1 C.2.1 hd ht (fun q => absurd q (of_decide_eq_false hb)) (fun _ => kk)
        | gt => exact lv_icmp_gt C.1 C.2.1 hd ht (fun q => absurd q (of_decide_eq_false hb)) (fun _ => kk)
        | le => exact lv_icmp_le C.1 C.2.1 hd ht (fun q => absurd q (of_decide_eq_false hb)) (fun _ => kk)
    case tableswitch dd lw hi offs =>
      obtain ⟨x, r, rfl, hb, rfl, rfl, rfl⟩ := xi_tsw h
      intro ls H locs hl hP hS
      have kk := k ls H locs hl hP hS
      rcases hb with ⟨h0, ht⟩ | ⟨⟨h0, h1⟩, off, ho, ht⟩
      · exact lv_tableOut C.1 C.2.1 hd h0 ht kk
      · exact lv_tableIn C.1 C.2.1 hd h0 h1 ho ht kk
    case ldc i' =>
      obtain rfl : n = 2 := hn.resolve_left (fun q => by cases q)
      have h : ex_lcs (ex_ldc M.2.2.1 i') (pc + 2) lo st w = some (.inl ((a, b, f), d)) := h
      unfold ex_lcs at h
      split at h
      · next kr pl hf2 =>
        obtain ⟨rfl, rfl, rfl, rfl⟩ := xi_go h
        have hc := ex_allA_of ex_ldc_ck hf2
        have hc : (Nat.beq (kr % 2) 1 && Option.rec (motive := fun _ => Bool) false (fun x => Nat.beq x.1 M.2.2.1 && Nat.beq x.2.1 i') (ex_at ex_str (kr / 2))) = true := hc
        rw [Bool.and_eq_true] at hc
        have h1 := Nat.eq_of_beq_eq_true hc.1
        have h2 := hc.2
        cases hx : ex_at ex_str (kr / 2) with
        | none => rw [hx] at h2; cases h2
        | some x =>
          rw [hx] at h2
          have h2 : (Nat.beq x.1 M.2.2.1 && Nat.beq x.2.1 i') = true := h2
          rw [Bool.and_eq_true] at h2
          have e1 := Nat.eq_of_beq_eq_true h2.1
          have e2 := Nat.eq_of_beq_eq_true h2.2
          rw [ex_at_eq] at hx
          have hZ := C.2.2.2.2.2.2.2.2.2.1.2.2.2.2 _ _ hx
          rw [e1, e2, show 2 * (kr / 2) + 1 = kr by omega] at hZ
          exact fun ls H locs hl hP hS => va_ldcS C.1 C.2.1 C.2.2.2.1 hZ hd (k ls H locs hl hP hS)
      · next v pl hf2 =>
        obtain ⟨rfl, rfl, rfl, rfl⟩ := xi_go h
        have hc := ex_allA_of ex_ldc_ck hf2
        have hc := of_decide_eq_true hc
        have hw : (Cond.constant (ex_cn M.2.2.1) i' v).before args s = true := by
          rcases hc with ⟨h1, h2⟩ | ⟨h1, h2⟩
          · have h3 := C.word (lw_in h1) rfl
            have h3 : (Cond.constant (ex_cn M.2.2.1) i' (Int32.ofNat v.toNatClampNeg)).before args s = true := h3
            rw [h2] at h3
            exact h3
          · have h3 := C.word (lw_in h1) rfl
            have h3 : (Cond.constant (ex_cn M.2.2.1) i' (-Int32.ofNat (-v).toNatClampNeg)).before args s = true := h3
            rw [h2] at h3
            exact h3
        exact fun ls H locs hl hP hS => lv_ldc C.1 C.2.1 C.2.2.2.1 hw hd (k ls H locs hl hP hS)
      · cases h
    case ldc_w i' =>
      obtain rfl : n = 3 := hn.resolve_left (fun q => by cases q)
      have h : ex_lc (ex_ldc M.2.2.1 i') (pc + 3) lo st w = some (.inl ((a, b, f), d)) := h
      unfold ex_lc at h
      split at h
      · next v pl hf2 =>
        obtain ⟨rfl, rfl, rfl, rfl⟩ := xi_go h
        have hc := ex_allA_of ex_ldc_ck hf2
        have hc := of_decide_eq_true hc
        have hw : (Cond.constant (ex_cn M.2.2.1) i' v).before args s = true := by
          rcases hc with ⟨h1, h2⟩ | ⟨h1, h2⟩
          · have h3 := C.word (lw_in h1) rfl
            have h3 : (Cond.constant (ex_cn M.2.2.1) i' (Int32.ofNat v.toNatClampNeg)).before args s = true := h3
            rw [h2] at h3
            exact h3
          · have h3 := C.word (lw_in h1) rfl
            have h3 : (Cond.constant (ex_cn M.2.2.1) i' (-Int32.ofNat (-v).toNatClampNeg)).before args s = true := h3
            rw [h2] at h3
            exact h3
        exact fun ls H locs hl hP hS => lv_ldcw C.1 C.2.1 C.2.2.2.1 hw hd (k ls H locs hl hP hS)
      · cases h
    case ldc2_w i' =>
      obtain rfl : n = 3 := hn.resolve_left (fun q => by cases q)
      have h : ex_lc2 (ex_ldc M.2.2.1 i') (pc + 3) lo st w = some (.inl ((a, b, f), d)) := h
      unfold ex_lc2 at h
      split at h
      · next v pl hf2 =>
        obtain ⟨rfl, rfl, rfl, rfl⟩ := xi_go h
        have hc := ex_allA_of ex_ldc_ck hf2
        have hc := of_decide_eq_true hc
        have hw : (Cond.constantLong (ex_cn M.2.2.1) i' v).before args s = true := by
          rcases hc with ⟨h1, h2⟩ | ⟨h1, h2⟩
          · have h3 := C.word (lw_in h1) rfl
            have h3 : (Cond.constantLong (ex_cn M.2.2.1) i' (Int64.ofNat v.toNatClampNeg)).before args s = true := h3
            rw [h2] at h3
            exact h3
          · have h3 := C.word (lw_in h1) rfl
            have h3 : (Cond.constantLong (ex_cn M.2.2.1) i' (-Int64.ofNat (-v).toNatClampNeg)).before args s = true := h3
            rw [h2] at h3
            exact h3
        exact fun ls H locs hl hP hS => lv_ldc2 C.1 C.2.1 C.2.2.2.1 hw hd (k ls H locs hl hP hS)
      · cases h
    case getfield i' =>
      obtain rfl : n = 3 := hn.resolve_left (fun q => by cases q)
      have h : ex_gfs (ex_sfl M.2.2.1 i') (ex_fld M.2.2.1 i') pc lo st w = some (.inl ((a, b, f), d)) := h
      unfold ex_gfs at h
      split at h
      · next kf pl hf2 => exact xw_sgf C hd hf2 h k
      · exact xw_gf C hd h k
    case getstatic i' =>
      obtain rfl : n = 3 := hn.resolve_left (fun q => by cases q)
      exact xw_gst C hd h k
    case putfield i' =>
      obtain rfl : n = 3 := hn.resolve_left (fun q => by cases q)
      exact xw_pf C hgo hd h k
    case iaload =>
      obtain rfl : n = 1 := hn.resolve_left (by decide)
      exact xw_ald (by_ := false) C hX hd h k
    case baload =>
      obtain rfl : n = 1 := hn.resolve_left (by decide)
      exact xw_ald (by_ := true) C hX hd h k
    case iastore =>
      obtain rfl : n = 1 := hn.resolve_left (by decide)
      exact xw_ast (by_ := false) C hd h k
    case bastore =>
      obtain rfl : n = 1 := hn.resolve_left (by decide)
      exact xw_ast (by_ := true) C hd h k
    case aaload =>
      obtain rfl : n = 1 := hn.resolve_left (by decide)
      exact xw_alq C hd h k
    case aastore =>
      obtain rfl : n = 1 := hn.resolve_left (by decide)
      exact xw_asq C hd h k
    case arraylength =>
      obtain rfl : n = 1 := hn.resolve_left (by decide)
      exact xw_aln C hX hd h k
    case new i' =>
      obtain rfl : n = 3 := hn.resolve_left (fun q => by cases q)
      exact xw_new C hL hS0 hR hd h k
    case newarray ty' =>
      obtain rfl : n = 2 := hn.resolve_left (fun q => by cases q)
      exact xw_nwa C hL hS0 hR hd h k
    case anewarray i' =>
      obtain rfl : n = 3 := hn.resolve_left (fun q => by cases q)
      exact xw_nwq C hL hS0 hR hd h k
    case invokevirtual i' =>
      obtain rfl : n = 3 := hn.resolve_left (fun q => by cases q)
      have h : ex_iv 0 (ex_itr M.2.2.1 i') (ex_cal M.2.2.1 i') pc lo st w = some (.inl ((a, b, f), d)) := h
      unfold ex_iv at h
      split at h
      · next k2 pl hf2 => exact xw_int (kd := 0) C hnL hR0 hRm hf2 hd h k
      · exact absurd h (fun q => xn_cl q)
    case invokestatic i' =>
      obtain rfl : n = 3 := hn.resolve_left (fun q => by cases q)
      have h : ex_iv 1 (ex_itr M.2.2.1 i') (ex_cal M.2.2.1 i') pc lo st w = some (.inl ((a, b, f), d)) := h
      unfold ex_iv at h
      split at h
      · next k2 pl hf2 => exact xw_int (kd := 1) C hnL hR0 hRm hf2 hd h k
      · exact absurd h (fun q => xn_cl q)
    case invokespecial i' =>
      obtain rfl : n = 3 := hn.resolve_left (fun q => by cases q)
      have h : ex_iv 2 (ex_itr M.2.2.1 i') (ex_cal M.2.2.1 i') pc lo st w = some (.inl ((a, b, f), d)) := h
      unfold ex_iv at h
      split at h
      · next k2 pl hf2 => exact xw_int (kd := 2) C hnL hR0 hRm hf2 hd h k
      · exact absurd h (fun q => xn_cl q)
    case ireturn =>
      exact absurd h (fun q => xn_ret q)
    case lreturn =>
      exact absurd h (fun q => xn_lret q)
    case return_ =>
      exact absurd h (fun q => xn_vret q)
    all_goals cases h
  · cases h
end EXI
