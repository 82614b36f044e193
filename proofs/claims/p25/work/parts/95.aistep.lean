/-! ONE STEP of the abstract interpreter. -/
noncomputable def ai_c (b : Bool) (z : Int) : ai_V := .inl (b, z, z, [])
theorem ai_cI {ρ : List Int} (x : Int32) : ai_gv ρ (ai_c false x.toInt) (some (.int x)) := ai_gv.ofI ⟨Int.le_refl _, Int.le_refl _, ai_gr.no⟩
theorem ai_cL {ρ : List Int} (x : Int64) : ai_gv ρ (ai_c true x.toInt) (some (.long x)) := ai_gv.ofL ⟨Int.le_refl _, Int.le_refl _, ai_gr.no⟩
noncomputable def ai_lc (t : Option (Value × Nat)) (pc : Nat) (S : ai_S) : Option (List ai_O) := match t with
  | some (.int v, _) => ai_push pc (ai_c false v.toInt) S
  | _ => none
noncomputable def ai_lc2 (t : Option (Value × Nat)) (pc : Nat) (S : ai_S) : Option (List ai_O) := match t with
  | some (.long v, _) => ai_push pc (ai_c true v.toInt) S
  | _ => none
/-- texts -/
noncomputable def ai_lcs (t : Option (Value × Nat)) (pc : Nat) (S : ai_S) : Option (List ai_O) := match t with
  | some (.retAddr k, _) => ai_push pc (.inr (some (.retAddr k))) S
  | some (.int v, _) => ai_push pc (ai_c false v.toInt) S
  | _ => none
noncomputable def ai_sgf (k pc : Nat) (S : ai_S) : Option (List ai_O) := match S.2.2.1 with
  | .inr (some (.retAddr a)) :: r => match ex_sk a with
    | true => match k with
      | 0 => ai_1 (pc + 3) (S.1, S.2.1, .inr (some (.retAddr (a + 1))) :: r, S.2.2.2)
      | _ => ai_1 (pc + 3) (S.1, S.2.1, ai_c false (0 : Int32).toInt :: r, S.2.2.2)
    | false => none
  | _ => none
noncomputable def ai_gfs (u : Option (Nat × Nat)) (t : Option (Nat × Nat × Nat)) (pc : Nat) (S : ai_S) : Option (List ai_O) := match u with
  | some (k, _) => ai_sgf k pc S
  | none => ai_gf t pc S
noncomputable def ai_sta (t : Option (Nat × Nat)) (pc : Nat) (S : ai_S) : Option (List ai_O) := match t with
  | some (k, _) => match k with
    | 0 => ai_push (pc + 3) (ai_c false (1 : Int32).toInt) S
    | _ => ai_push (pc + 3) (.inr (some (.float 0))) S
  | none => none
noncomputable def ai_tbl (l : List Int32) : Bool := List.rec (motive := fun _ => Bool) true (fun x _ ih => (ai_le 0 x.toInt && ai_le x.toInt 127) && ih) l
noncomputable def ai_alds (by_ : Bool) (pc : Nat) (S : ai_S) : Option (List ai_O) := match S.2.2.1 with
  | .inl (false, i) :: .inr (some (.retAddr a)) :: r => match by_, ex_sb a with
    | true, some l => match ai_le 0 (ai_eff S.1 i).1 && (ai_le ((ai_eff S.1 i).2.1 + 1) l.length && ai_tbl l) with
      | true => ai_1 (pc + 1) (S.1, S.2.1, .inl (false, 0, 127, []) :: r, S.2.2.2)
      | false => none
    | _, _ => none
  | _ => ai_ald by_ pc S
noncomputable def ai_alns (pc : Nat) (S : ai_S) : Option (List ai_O) := match S.2.2.1 with
  | .inr (some (.retAddr a)) :: r => match ex_sb a with
    | some l => match Nat.blt 0 a with
      | true => ai_1 (pc + 1) (S.1, S.2.1, ai_c false (Int32.ofNat l.length).toInt :: r, S.2.2.2)
      | false => none
    | none => none
  | _ => ai_aln pc S
noncomputable def ai_tp1 (_ : ai_N) : ai_N := ai_top false
noncomputable def ai_tp2 (_ _ : ai_N) : ai_N := ai_top false
noncomputable def ai_tl2 (_ _ : ai_N) : ai_N := ai_top true
noncomputable def ai_b8 (_ : ai_N) : ai_N := (-128, 127, [])
noncomputable def ai_u16 (_ : ai_N) : ai_N := (0, 65535, [])
noncomputable def ai_b16 (_ : ai_N) : ai_N := (-32768, 32767, [])
noncomputable def ai_ins (ins : Instr) : ex_M → Nat → ai_S → Option (List ai_O) := match ins with
  | .aload_n k => fun _ pc S => ai_ldA (pc + 1) k S
  | .aload i => fun _ pc S => ai_ldA (pc + 2) i S
  | .iload_n k => fun _ pc S => ai_ld false (pc + 1) k S
  | .iload i => fun _ pc S => ai_ld false (pc + 2) i S
  | .lload_n k => fun _ pc S => ai_ld true (pc + 1) k S
  | .lload i => fun _ pc S => ai_ld true (pc + 2) i S
  | .astore_n k => fun _ pc S => ai_stA (pc + 1) k S
  | .astore i => fun _ pc S => ai_stA (pc + 2) i S
  | .istore_n k => fun _ pc S => ai_stI (pc + 1) k S
  | .istore i => fun _ pc S => ai_stI (pc + 2) i S
  | .lstore_n k => fun _ pc S => ai_stL (pc + 1) k S
  | .lstore i => fun _ pc S => ai_stL (pc + 2) i S
  | .iinc i n => fun _ pc S => ai_inc i n pc S
  | .iconst n => fun _ pc S => ai_push (pc + 1) (ai_c false (Int32.ofInt n).toInt) S
  | .bipush n => fun _ pc S => ai_push (pc + 2) (ai_c false (Int8.ofInt n).toInt32.toInt) S
  | .sipush n => fun _ pc S => ai_push (pc + 3) (ai_c false (Int16.ofInt n).toInt32.toInt) S
  | .lconst n => fun _ pc S => ai_push (pc + 1) (ai_c true (Int64.ofNat (n : Nat)).toInt) S
  | .ldc i => fun M pc S => ai_lcs (ex_ldc M.2.2.1 i) (pc + 2) S
  | .ldc_w i => fun M pc S => ai_lc (ex_ldc M.2.2.1 i) (pc + 3) S
  | .ldc2_w i => fun M pc S => ai_lc2 (ex_ldc M.2.2.1 i) (pc + 3) S
  | .iadd => fun _ pc S => ai_i2 (ai_add false) (pc + 1) S
  | .isub => fun _ pc S => ai_i2 (ai_sub false) (pc + 1) S
  | .imul => fun _ pc S => ai_i2 (ai_op (fun x y => x * y) (ai_mul false)) (pc + 1) S
  | .iand => fun _ pc S => ai_i2 (ai_op (fun x y => x &&& y) ai_and) (pc + 1) S
  | .ior => fun _ pc S => ai_i2 (ai_op (fun x y => x ||| y) ai_tp2) (pc + 1) S
  | .ixor => fun _ pc S => ai_i2 (ai_op (fun x y => x ^^^ y) ai_tp2) (pc + 1) S
  | .ishl => fun _ pc S => ai_i2 (ai_op (fun x y => x <<< (y &&& 31)) ai_shl) (pc + 1) S
  | .ishr => fun _ pc S => ai_i2 (ai_op (fun x y => x >>> (y &&& 31)) ai_tp2) (pc + 1) S
  | .iushr => fun _ pc S => ai_i2 (ai_op (fun x y => (x.toUInt32 >>> (y.toUInt32 &&& Int32.toUInt32 31)).toInt32) ai_tp2) (pc + 1) S
  | .idiv => fun _ pc S => ai_d2 (ai_div false) (pc + 1) S
  | .irem => fun _ pc S => ai_d2 (ai_rem false) (pc + 1) S
  | .ineg => fun _ pc S => ai_i1 ai_tp1 (pc + 1) S
  | .i2b => fun _ pc S => ai_i1 ai_b8 (pc + 1) S
  | .i2s => fun _ pc S => ai_i1 ai_b16 (pc + 1) S
  | .i2c => fun _ pc S => ai_i1 ai_u16 (pc + 1) S
  | .i2l => fun _ pc S => ai_i2l (pc + 1) S
  | .l2i => fun _ pc S => ai_l2i (pc + 1) S
  | .ladd => fun _ pc S => ai_l2 (ai_add true) (pc + 1) S
  | .lmul => fun _ pc S => ai_l2 (ai_mul true) (pc + 1) S
  | .land => fun _ pc S => ai_l2 ai_land (pc + 1) S
  | .lor => fun _ pc S => ai_l2 ai_tl2 (pc + 1) S
  | .ldiv => fun _ pc S => ai_e2 (ai_div true) (pc + 1) S
  | .lrem => fun _ pc S => ai_e2 (ai_rem true) (pc + 1) S
  | .lshl => fun _ pc S => ai_ls (pc + 1) S
  | .lshr => fun _ pc S => ai_ls (pc + 1) S
  | .lushr => fun _ pc S => ai_ls (pc + 1) S
  | .lcmp => fun _ pc S => ai_lcm (pc + 1) S
  | .dup => fun _ pc S => ai_dup pc S
  | .dup2 => fun _ pc S => ai_dup2 pc S
  | .pop => fun _ pc S => ai_pop pc S
  | .goto off => fun _ pc S => ai_jp off pc S
  | .ifCond c off => fun _ pc S => ai_b0 c off pc S
  | .if_icmp c off => fun _ pc S => ai_b2 c off pc S
  | .tableswitch d lw hi offs => fun _ pc S => ai_tsw d lw hi offs pc S
  | .getfield i => fun M pc S => ai_gfs (ex_sfl M.2.2.1 i) (ex_fld M.2.2.1 i) pc S
  | .getstatic i => fun M pc S => ai_sta (ex_sta M.2.2.1 i) pc S
  | .putfield i => fun M pc S => ai_pf (ex_fld M.2.2.1 i) pc S
  | .iaload => fun _ pc S => ai_ald false pc S
  | .baload => fun _ pc S => ai_alds true pc S
  | .iastore => fun _ pc S => ai_ast false pc S
  | .bastore => fun _ pc S => ai_ast true pc S
  | .aaload => fun _ pc S => ai_alq pc S
  | .arraylength => fun _ pc S => ai_alns pc S
  | .invokevirtual i => fun M pc S => ai_iv 0 (ex_itr M.2.2.1 i) (ex_cal M.2.2.1 i) pc S
  | .invokestatic i => fun M pc S => ai_iv 1 (ex_itr M.2.2.1 i) (ex_cal M.2.2.1 i) pc S
  | .invokespecial i => fun M pc S => ai_iv 2 (ex_itr M.2.2.1 i) (ex_cal M.2.2.1 i) pc S
  | .ireturn => fun M _ S => ai_ret M.2.2.2.1 S
  | .lreturn => fun M _ S => ai_lret M.2.2.2.1 S
  | .return_ => fun M _ S => ai_vret M.2.2.2.1 S
  | _ => fun _ _ _ => none
section AIS
variable {ρ : List Int} {w0 w : ex_W} {S : ai_S} {lo : ex_L} {st : List Value} {outs : List ai_O} {pc i : Nat} {X : List Int32} {M : ex_M}
theorem ai_lcs_s {t : Option (Value × Nat)} (h : ai_lcs t pc S = some outs) (H : ai_g ρ w0 S lo st w) : ai_sd ρ w0 w (ex_lcs t pc lo st w) outs := by
  unfold ai_lcs at h
  split at h
  · exact ai_push_s h H rfl
  · exact ai_push_s h H (ai_cI _)
  · cases h
theorem ai_gfs_s {u : Option (Nat × Nat)} {t : Option (Nat × Nat × Nat)} (h : ai_gfs u t pc S = some outs) (H : ai_g ρ w0 S lo st w) : ai_sd ρ w0 w (ex_gfs u t pc lo st w) outs := by
  unfold ai_gfs at h
  split at h
  · next k z =>
    show ai_sd ρ w0 w (ex_sgf k pc lo st w) outs
    unfold ai_sgf at h
    split at h
    · next a r hs =>
      have hst := H.2.2.1
      rw [hs] at hst
      obtain ⟨v, r', rfl, h1, h2⟩ := hst.cons
      cases (show some v = some (.retAddr a) from h1)
      split at h
      · next hk =>
        unfold ex_sgf
        dsimp only
        rw [if_pos hk]
        match k, h with
        | 0, h => exact ai_1_s h (List.prefix_refl ρ) ⟨H.1, H.2.1, ⟨rfl, h2⟩, H.2.2.2⟩
        | _ + 1, h => exact ai_1_s h (List.prefix_refl ρ) ⟨H.1, H.2.1, ⟨ai_cI _, h2⟩, H.2.2.2⟩
      · cases h
    · cases h
  · exact ai_gf_s h H
theorem ai_sta_s {t : Option (Nat × Nat)} (h : ai_sta t pc S = some outs) (H : ai_g ρ w0 S lo st w) : ai_sd ρ w0 w (ex_gst t pc lo st w) outs := by
  unfold ai_sta at h
  unfold ex_gst
  split at h
  · next k z =>
    match k, h with
    | 0, h => exact ai_push_s h H (ai_cI _)
    | _ + 1, h => exact ai_push_s h H rfl
  · cases h
theorem ai_tbl_g {l : List Int32} : ai_tbl l = true → ∀ x ∈ l, 0 ≤ x.toInt ∧ x.toInt ≤ 127 := by
  induction l with
  | nil => intro _ x hx; cases hx
  | cons y l ih =>
    intro h x hx
    have h : ((ai_le 0 y.toInt && ai_le y.toInt 127) && ai_tbl l) = true := h
    rw [Bool.and_eq_true, Bool.and_eq_true, ai_le_iff, ai_le_iff] at h
    rcases List.mem_cons.mp hx with rfl | hx
    · exact h.1
    · exact ih h.2 x hx
theorem ai_alds_s {by_ isL : Bool} (h : ai_alds by_ pc S = some outs) (H : ai_g ρ w0 S lo st w) : ai_sd ρ w0 w (ex_ald by_ X isL pc lo st w) outs := by
  unfold ai_alds at h
  split at h
  · next i a r hs =>
    have hst := H.2.2.1
    rw [hs] at hst
    obtain ⟨v, r', rfl, h1, h2⟩ := hst.cons
    obtain ⟨v2, r2, rfl, h3, h4⟩ := h2.cons
    cases (show some v2 = some (.retAddr a) from h3)
    obtain ⟨j, rfl, h5⟩ := h1.int
    have h6 := ai_eff_g H.1 h5
    obtain ⟨h7, h8, -⟩ := h6
    split at h
    · next l hb =>
      split at h
      · next hq =>
        rw [Bool.and_eq_true, Bool.and_eq_true, ai_le_iff, ai_le_iff] at hq
        obtain ⟨b1, b2, b3⟩ := hq
        obtain ⟨i1, i2, i3⟩ := ai_ixN (j := j) (n := l.length) (by omega) (by omega)
        have hx : l[j.toNatClampNeg]? = some (ex_gd l j.toNatClampNeg) := by
          rw [ex_gd_eq, List.getD_eq_getElem?_getD, List.getElem?_eq_getElem i2]
          rfl
        have hm := ai_tbl_g b3 _ (List.mem_of_getElem? hx)
        unfold ex_ald
        dsimp only
        rw [if_neg (fun q => by cases q.1), hb]
        dsimp only
        rw [if_pos ⟨rfl, i1⟩]
        exact ai_1_s h (List.prefix_refl ρ) ⟨H.1, H.2.1, ⟨ai_gv.ofI ⟨hm.1, hm.2, ai_gr.no⟩, h4⟩, H.2.2.2⟩
      · cases h
    · cases h
  · exact ai_ald_s h H
theorem ai_alns_s {isL : Bool} (h : ai_alns pc S = some outs) (H : ai_g ρ w0 S lo st w) : ai_sd ρ w0 w (ex_aln X isL pc lo st w) outs := by
  unfold ai_alns at h
  split at h
  · next a r hs =>
    have hst := H.2.2.1
    rw [hs] at hst
    obtain ⟨v2, r2, rfl, h3, h4⟩ := hst.cons
    cases (show some v2 = some (.retAddr a) from h3)
    split at h
    · next l hb =>
      split at h
      · next hq =>
        have hq := Nat.blt_eq.mp hq
        unfold ex_aln
        dsimp only
        rw [if_neg (fun q => by omega), hb]
        exact ai_1_s h (List.prefix_refl ρ) ⟨H.1, H.2.1, ⟨ai_cI _, h4⟩, H.2.2.2⟩
      · cases h
    · cases h
  · exact ai_aln_s h H
theorem ai_u16_g (u : Int32) : 0 ≤ (u.toUInt32 % 65536).toInt32.toInt ∧ (u.toUInt32 % 65536).toInt32.toInt ≤ 65535 := by
  have h1 : (u.toUInt32 % 65536).toNat < 65536 := by
    rw [UInt32.toNat_mod]
    exact Nat.mod_lt _ (by decide)
  have h2 : (u.toUInt32 % 65536).toInt32.toInt = ((u.toUInt32 % 65536).toNat : Int) := by
    generalize u.toUInt32 % 65536 = x at h1 ⊢
    show x.toBitVec.toInt = _
    rw [BitVec.toInt_eq_toNat_of_lt (by show 2 * x.toNat < 2 ^ 32; omega)]
    rfl
  rw [h2]
  omega
theorem ai_tp2_g {x y : ai_N} {z : Int} (h : ai_ok false z) : ai_gn ρ (ai_tp2 x y) z := ai_top_g h
theorem ai_ins_s {ins : Instr} (h : ai_ins ins M pc S = some outs) (H : ai_g ρ w0 S lo st w) : ai_sd ρ w0 w (ex_ins ins X M pc lo st w) outs := by
  cases ins
  case aload_n k => exact ai_ldA_s h H
  case aload k => exact ai_ldA_s h H
  case iload_n k => exact ai_ldI_s h H
  case iload k => exact ai_ldI_s h H
  case lload_n k => exact ai_ldL_s h H
  case lload k => exact ai_ldL_s h H
  case astore_n k => exact ai_stA_s h H
  case astore k => exact ai_stA_s h H
  case istore_n k => exact ai_stI_s h H
  case istore k => exact ai_stI_s h H
  case lstore_n k => exact ai_stL_s h H
  case lstore k => exact ai_stL_s h H
  case iinc i n => exact ai_inc_s h H
  case iconst n => exact ai_push_s h H (ai_cI _)
  case bipush n => exact ai_push_s h H (ai_cI _)
  case sipush n => exact ai_push_s h H (ai_cI _)
  case lconst n => exact ai_push_s h H (ai_cL _)
  case ldc i => exact ai_lcs_s h H
  case ldc_w i =>
    have h : ai_lc (ex_ldc M.2.2.1 i) (pc + 3) S = some outs := h
    show ai_sd ρ w0 w (ex_lc (ex_ldc M.2.2.1 i) (pc + 3) lo st w) outs
    unfold ai_lc at h
    unfold ex_lc
    split at h
    · next v z hz => rw [hz]; exact ai_push_s h H (ai_cI _)
    · cases h
  case ldc2_w i =>
    have h : ai_lc2 (ex_ldc M.2.2.1 i) (pc + 3) S = some outs := h
    show ai_sd ρ w0 w (ex_lc2 (ex_ldc M.2.2.1 i) (pc + 3) lo st w) outs
    unfold ai_lc2 at h
    unfold ex_lc2
    split at h
    · next v z hz => rw [hz]; exact ai_push_s h H (ai_cL _)
    · cases h
  case iadd => exact ai_i2_s (fun x y u v hx hy => ai_add_g hx hy (ai_wrapI (Int32.toInt_add u v))) h H
  case isub => exact ai_i2_s (fun x y u v hx hy => ai_sub_g hx hy (ai_wrapI (Int32.toInt_sub u v))) h H
  case imul => exact ai_i2_s (f := fun x y => x * y) (fun x y u v hx hy => ai_op_g (f := fun x y => x * y) (ai_mul_g hx hy (ai_wrapI (Int32.toInt_mul u v))) hx hy) h H
  case iand => exact ai_i2_s (f := fun x y => x &&& y) (fun x y u v hx hy => ai_op_g (f := fun x y => x &&& y) (ai_and_g hx hy) hx hy) h H
  case ior => exact ai_i2_s (f := fun x y => x ||| y) (fun x y u v hx hy => ai_op_g (f := fun x y => x ||| y) (ai_tp2_g (ai_okI _)) hx hy) h H
  case ixor => exact ai_i2_s (f := fun x y => x ^^^ y) (fun x y u v hx hy => ai_op_g (f := fun x y => x ^^^ y) (ai_tp2_g (ai_okI _)) hx hy) h H
  case ishl => exact ai_i2_s (f := fun x y => x <<< (y &&& 31)) (fun x y u v hx hy => ai_op_g (f := fun x y => x <<< (y &&& 31)) (ai_shl_g hx hy) hx hy) h H
  case ishr => exact ai_i2_s (f := fun x y => x >>> (y &&& 31)) (fun x y u v hx hy => ai_op_g (f := fun x y => x >>> (y &&& 31)) (ai_tp2_g (ai_okI _)) hx hy) h H
  case iushr => exact ai_i2_s (f := fun x y => (x.toUInt32 >>> (y.toUInt32 &&& Int32.toUInt32 31)).toInt32) (fun x y u v hx hy => ai_op_g (f := fun x y => (x.toUInt32 >>> (y.toUInt32 &&& Int32.toUInt32 31)).toInt32) (ai_tp2_g (ai_okI _)) hx hy) h H
  case idiv => exact ai_d2_s (fun x y u v hx hy => ai_div_g hx hy (ai_okI u) (ai_wrapI (ai_divI u v))) h H
  case irem => exact ai_d2_s (fun x y u v hx hy => ai_rem_g hx hy (ai_okI v) (ai_wrapI (ai_remI u v))) h H
  case ineg => exact ai_i1_s (fun x u hx => ai_top_g (ai_okI _)) h H
  case i2b => exact ai_i1_s (fun x u hx => ⟨(ai_byte u).1, (ai_byte u).2, ai_gr.no⟩) h H
  case i2s => exact ai_i1_s (fun x u hx => ⟨(ai_short u).1, (ai_short u).2, ai_gr.no⟩) h H
  case i2c => exact ai_i1_s (fun x u hx => ⟨(ai_u16_g u).1, (ai_u16_g u).2, ai_gr.no⟩) h H
  case i2l => exact ai_i2l_s h H
  case l2i => exact ai_l2i_s h H
  case ladd => exact ai_l2_s (fun x y u v hx hy => ai_add_g hx hy (ai_wrapL (Int64.toInt_add u v))) h H
  case lmul => exact ai_l2_s (fun x y u v hx hy => ai_mul_g hx hy (ai_wrapL (Int64.toInt_mul u v))) h H
  case land => exact ai_l2_s (fun x y u v hx hy => ai_land_g hx hy) h H
  case lor => exact ai_l2_s (fun x y u v hx hy => ai_top_g (ai_okL _)) h H
  case ldiv => exact ai_e2_s (fun x y u v hx hy => ai_div_g hx hy (ai_okL u) (ai_wrapL (ai_divL u v))) h H
  case lrem => exact ai_e2_s (fun x y u v hx hy => ai_rem_g hx hy (ai_okL v) (ai_wrapL (ai_remL u v))) h H
  case lshl => exact ai_ls_s h H
  case lshr => exact ai_ls_s h H
  case lushr => exact ai_ls_s h H
  case lcmp => exact ai_lcm_s h H
  case dup => exact ai_dup_s h H
  case dup2 => exact ai_dup2_s h H
  case pop => exact ai_pop_s h H
  case goto off => exact ai_jp_s h H
  case ifCond c off => exact ai_b0_s h H
  case if_icmp c off => exact ai_b2_s h H
  case tableswitch d lw hi offs => exact ai_tsw_s h H
  case getfield i => exact ai_gfs_s h H
  case getstatic i => exact ai_sta_s h H
  case putfield i => exact ai_pf_s h H
  case iaload => exact ai_ald_s h H
  case baload => exact ai_alds_s h H
  case iastore => exact ai_ast_s h H
  case bastore => exact ai_ast_s h H
  case aaload => exact ai_alq_s h H
  case arraylength => exact ai_alns_s h H
  case invokevirtual i => exact ai_iv_s h H
  case invokestatic i => exact ai_iv_s h H
  case invokespecial i => exact ai_iv_s h H
  case ireturn => exact ai_ret_s h H
  case lreturn => exact ai_lret_s h H
  case return_ => exact ai_vret_s h H
  all_goals (cases h; done)
noncomputable def ai_step (M : ex_M) (pc : Nat) (S : ai_S) : Option (List ai_O) := match ex_g3 M.2.1 pc with
  | some ins => ai_ins ins M pc S
  | none => none
theorem ai_step_s (h : ai_step M pc S = some outs) (H : ai_g ρ w0 S lo st w) : ai_sd ρ w0 w (ex_step X M (pc, lo, st) w) outs := by
  unfold ai_step at h
  split at h
  · next ins hi =>
    unfold ex_step
    rw [show ex_g3 M.2.1 (pc, lo, st).1 = some ins from hi]
    exact ai_ins_s h H
  · cases h
end AIS
