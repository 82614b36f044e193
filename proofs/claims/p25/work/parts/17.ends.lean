/-! CALLS AND RETURNS: which instructions they are; cells only grow. -/
section EXR
variable {pc : Nat} {lo : ex_L} {st : List Value} {w : ex_W} {M : ex_M} {i : Nat} {X : List Int32} {z : (Nat × List Value × ex_F) ⊕ Option Value}
theorem xr_go {a : Nat} (h : ex_go a lo st w = some (.inr z)) : False := by
  unfold ex_go at h
  cases h
theorem xr_ldA {n : Nat} (h : ex_ldA n lo i st w = some (.inr z)) : False := by
  unfold ex_ldA at h
  repeat' split at h
  all_goals first | (cases h; done) | exact xr_go h
theorem xr_ldI {n : Nat} (h : ex_ldI n lo i st w = some (.inr z)) : False := by
  unfold ex_ldI at h
  repeat' split at h
  all_goals first | (cases h; done) | exact xr_go h
theorem xr_ldL {n : Nat} (h : ex_ldL n lo i st w = some (.inr z)) : False := by
  unfold ex_ldL at h
  repeat' split at h
  all_goals first | (cases h; done) | exact xr_go h
theorem xr_stA {n : Nat} (h : ex_stA n lo i st w = some (.inr z)) : False := by
  unfold ex_stA at h
  repeat' split at h
  all_goals first | (cases h; done) | exact xr_go h
theorem xr_stI {n : Nat} (h : ex_stI n lo i st w = some (.inr z)) : False := by
  unfold ex_stI at h
  repeat' split at h
  all_goals first | (cases h; done) | exact xr_go h
theorem xr_stL {n : Nat} (h : ex_stL n lo i st w = some (.inr z)) : False := by
  unfold ex_stL at h
  repeat' split at h
  all_goals first | (cases h; done) | exact xr_go h
theorem xr_inc {n : Int} (h : ex_inc i n pc lo st w = some (.inr z)) : False := by
  unfold ex_inc at h
  repeat' split at h
  all_goals first | (cases h; done) | exact xr_go h
theorem xr_lc {t : Option (Value × Nat)} (h : ex_lc t pc lo st w = some (.inr z)) : False := by
  unfold ex_lc at h
  repeat' split at h
  all_goals first | (cases h; done) | exact xr_go h
theorem xr_lc2 {t : Option (Value × Nat)} (h : ex_lc2 t pc lo st w = some (.inr z)) : False := by
  unfold ex_lc2 at h
  repeat' split at h
  all_goals first | (cases h; done) | exact xr_go h
theorem xr_i2 {g : Int32 → Int32 → Int32} (h : ex_i2 g pc lo st w = some (.inr z)) : False := by
  unfold ex_i2 at h
  repeat' split at h
  all_goals first | (cases h; done) | exact xr_go h
theorem xr_l2 {g : Int64 → Int64 → Int64} (h : ex_l2 g pc lo st w = some (.inr z)) : False := by
  unfold ex_l2 at h
  repeat' split at h
  all_goals first | (cases h; done) | exact xr_go h
theorem xr_d2 {g : Int32 → Int32 → Int32} (h : ex_d2 g pc lo st w = some (.inr z)) : False := by
  unfold ex_d2 at h
  repeat' split at h
  all_goals first | (cases h; done) | exact xr_go h
theorem xr_e2 {g : Int64 → Int64 → Int64} (h : ex_e2 g pc lo st w = some (.inr z)) : False := by
  unfold ex_e2 at h
  repeat' split at h
  all_goals first | (cases h; done) | exact xr_go h
theorem xr_i1 {g : Int32 → Int32} (h : ex_i1 g pc lo st w = some (.inr z)) : False := by
  unfold ex_i1 at h
  repeat' split at h
  all_goals first | (cases h; done) | exact xr_go h
theorem xr_ls {g : Int64 → Int32 → Int64} (h : ex_ls g pc lo st w = some (.inr z)) : False := by
  unfold ex_ls at h
  repeat' split at h
  all_goals first | (cases h; done) | exact xr_go h
theorem xr_l2i (h : ex_l2i pc lo st w = some (.inr z)) : False := by
  unfold ex_l2i at h
  repeat' split at h
  all_goals first | (cases h; done) | exact xr_go h
theorem xr_i2l (h : ex_i2l pc lo st w = some (.inr z)) : False := by
  unfold ex_i2l at h
  repeat' split at h
  all_goals first | (cases h; done) | exact xr_go h
theorem xr_lcm (h : ex_lcm pc lo st w = some (.inr z)) : False := by
  unfold ex_lcm at h
  repeat' split at h
  all_goals first | (cases h; done) | exact xr_go h
theorem xr_dup (h : ex_dup pc lo st w = some (.inr z)) : False := by
  unfold ex_dup at h
  repeat' split at h
  all_goals first | (cases h; done) | exact xr_go h
theorem xr_dup2 (h : ex_dup2 pc lo st w = some (.inr z)) : False := by
  unfold ex_dup2 at h
  repeat' split at h
  all_goals first | (cases h; done) | exact xr_go h
theorem xr_pop (h : ex_pop pc lo st w = some (.inr z)) : False := by
  unfold ex_pop at h
  repeat' split at h
  all_goals first | (cases h; done) | exact xr_go h
theorem xr_pop2 (h : ex_pop2 pc lo st w = some (.inr z)) : False := by
  unfold ex_pop2 at h
  repeat' split at h
  all_goals first | (cases h; done) | exact xr_go h
theorem xr_jp {off : Int} (h : ex_jp pc off lo st w = some (.inr z)) : False := by
  unfold ex_jp at h
  repeat' split at h
  all_goals first | (cases h; done) | exact xr_go h
theorem xr_if {q : Bool} {off : Int} (h : ex_if q pc off lo st w = some (.inr z)) : False := by
  unfold ex_if at h
  repeat' split at h
  all_goals first | (cases h; done) | exact xr_go h
theorem xr_b0 {cd : Jvm.ClassFile.Cond} {off : Int} (h : ex_b0 cd off pc lo st w = some (.inr z)) : False := by
  unfold ex_b0 at h
  repeat' split at h
  all_goals first | (cases h; done) | exact xr_go h | exact xr_if h
theorem xr_b2 {cd : Jvm.ClassFile.Cond} {off : Int} (h : ex_b2 cd off pc lo st w = some (.inr z)) : False := by
  unfold ex_b2 at h
  repeat' split at h
  all_goals first | (cases h; done) | exact xr_go h | exact xr_if h
theorem xr_tsw {dd lw hi : Int} {offs : Array Int} (h : ex_tsw dd lw hi offs pc lo st w = some (.inr z)) : False := by
  unfold ex_tsw at h
  repeat' split at h
  all_goals first | (cases h; done) | exact xr_go h | exact xr_jp h
theorem xr_gf {t : Option (Nat × Nat × Nat)} (h : ex_gf t pc lo st w = some (.inr z)) : False := by
  unfold ex_gf at h
  repeat' split at h
  all_goals first | (cases h; done) | exact xr_go h
theorem xr_lcs {t : Option (Value × Nat)} (h : ex_lcs t pc lo st w = some (.inr z)) : False := by
  unfold ex_lcs at h
  repeat' split at h
  all_goals first | (cases h; done) | exact xr_go h
theorem xr_sgf {kf : Nat} (h : ex_sgf kf pc lo st w = some (.inr z)) : False := by
  unfold ex_sgf at h
  repeat' split at h
  all_goals first | (cases h; done) | exact xr_go h
theorem xr_gst {t : Option (Nat × Nat)} (h : ex_gst t pc lo st w = some (.inr z)) : False := by
  unfold ex_gst at h
  repeat' split at h
  all_goals first | (cases h; done) | exact xr_go h
theorem xr_gfs {u : Option (Nat × Nat)} {t : Option (Nat × Nat × Nat)} (h : ex_gfs u t pc lo st w = some (.inr z)) : False := by
  unfold ex_gfs at h
  split at h
  · exact xr_sgf h
  · exact xr_gf h
theorem xr_pf {t : Option (Nat × Nat × Nat)} {cn : Nat} {q : Bool} (h : ex_pf t cn q pc lo st w = some (.inr z)) : False := by
  unfold ex_pf at h
  repeat' split at h
  all_goals first | (cases h; done) | exact xr_go h
theorem xr_ald {q y : Bool} (h : ex_ald q X y pc lo st w = some (.inr z)) : False := by
  unfold ex_ald at h
  repeat' split at h
  all_goals first | (cases h; done) | exact xr_go h
theorem xr_ast {q : Bool} (h : ex_ast q pc lo st w = some (.inr z)) : False := by
  unfold ex_ast at h
  repeat' split at h
  all_goals first | (cases h; done) | exact xr_go h
theorem xr_alq (h : ex_alq pc lo st w = some (.inr z)) : False := by
  unfold ex_alq at h
  repeat' split at h
  all_goals first | (cases h; done) | exact xr_go h
theorem xr_asq (h : ex_asq pc lo st w = some (.inr z)) : False := by
  unfold ex_asq at h
  repeat' split at h
  all_goals first | (cases h; done) | exact xr_go h
theorem xr_aln {y : Bool} (h : ex_aln X y pc lo st w = some (.inr z)) : False := by
  unfold ex_aln at h
  repeat' split at h
  all_goals first | (cases h; done) | exact xr_go h
theorem xr_nwo {t : Option (Nat × Nat)} (h : ex_nwo t pc lo st w = some (.inr z)) : False := by
  unfold ex_nwo at h
  repeat' split at h
  all_goals first | (cases h; done) | exact xr_go h
theorem xr_nwa {ty : FieldType} (h : ex_nwa ty pc lo st w = some (.inr z)) : False := by
  unfold ex_nwa at h
  repeat' split at h
  all_goals first | (cases h; done) | exact xr_go h
theorem xr_nwq {t : Option (Nat × Nat)} (h : ex_nwq t pc lo st w = some (.inr z)) : False := by
  unfold ex_nwq at h
  repeat' split at h
  all_goals first | (cases h; done) | exact xr_go h
theorem xr_int {kd k : Nat} (h : ex_int kd k pc lo st w = some (.inr z)) : False := by
  unfold ex_int at h
  repeat' split at h
  all_goals first | (cases h; done) | exact xr_go h
/-- which instructions end in a call or a return -/
theorem ex_step_inr (h : ex_step X M (pc, lo, st) w = some (.inr z)) : ∃ ins, ex_g3 M.2.1 pc = some ins ∧ ((∃ kd i, kd < 3 ∧ ins = ex_ivI kd i ∧ ex_cl kd (ex_cal M.2.2.1 i) pc lo st w = some (.inr z)) ∨ (ins = .ireturn ∧ ex_ret M.2.2.2.1 st = some (.inr z)) ∨ (ins = .lreturn ∧ ex_lret M.2.2.2.1 st = some (.inr z)) ∨ (ins = .return_ ∧ ex_vret M.2.2.2.1 st = some (.inr z))) := by
  unfold ex_step at h
  split at h
  · next ins hf =>
    refine ⟨ins, hf, ?_⟩
    cases ins
    case invokevirtual i' =>
      have h : ex_iv 0 (ex_itr M.2.2.1 i') (ex_cal M.2.2.1 i') pc lo st w = some (.inr z) := h
      unfold ex_iv at h
      split at h
      · exact absurd h (fun q => xr_int q)
      · exact Or.inl ⟨0, i', by decide, rfl, h⟩
    case invokestatic i' =>
      have h : ex_iv 1 (ex_itr M.2.2.1 i') (ex_cal M.2.2.1 i') pc lo st w = some (.inr z) := h
      unfold ex_iv at h
      split at h
      · exact absurd h (fun q => xr_int q)
      · exact Or.inl ⟨1, i', by decide, rfl, h⟩
    case invokespecial i' =>
      have h : ex_iv 2 (ex_itr M.2.2.1 i') (ex_cal M.2.2.1 i') pc lo st w = some (.inr z) := h
      unfold ex_iv at h
      split at h
      · exact absurd h (fun q => xr_int q)
      · exact Or.inl ⟨2, i', by decide, rfl, h⟩
    case ireturn => exact Or.inr (Or.inl ⟨rfl, h⟩)
    case lreturn => exact Or.inr (Or.inr (Or.inl ⟨rfl, h⟩))
    case return_ => exact Or.inr (Or.inr (Or.inr ⟨rfl, h⟩))
    case aload_n _ => exact absurd h (fun q => xr_ldA q)
    case aload _ => exact absurd h (fun q => xr_ldA q)
    case iload_n _ => exact absurd h (fun q => xr_ldI q)
    case iload _ => exact absurd h (fun q => xr_ldI q)
    case lload_n _ => exact absurd h (fun q => xr_ldL q)
    case lload _ => exact absurd h (fun q => xr_ldL q)
    case istore_n _ => exact absurd h (fun q => xr_stI q)
    case istore _ => exact absurd h (fun q => xr_stI q)
    case astore_n _ => exact absurd h (fun q => xr_stA q)
    case astore _ => exact absurd h (fun q => xr_stA q)
    case lstore_n _ => exact absurd h (fun q => xr_stL q)
    case lstore _ => exact absurd h (fun q => xr_stL q)
    case iinc _ _ => exact absurd h (fun q => xr_inc q)
    case iconst _ => exact absurd h (fun q => xr_go q)
    case bipush _ => exact absurd h (fun q => xr_go q)
    case sipush _ => exact absurd h (fun q => xr_go q)
    case lconst _ => exact absurd h (fun q => xr_go q)
    case ldc _ => exact absurd h (fun q => xr_lcs q)
    case ldc_w _ => exact absurd h (fun q => xr_lc q)
    case ldc2_w _ => exact absurd h (fun q => xr_lc2 q)
    case dup => exact absurd h (fun q => xr_dup q)
    case dup2 => exact absurd h (fun q => xr_dup2 q)
    case pop => exact absurd h (fun q => xr_pop q)
    case pop2 => exact absurd h (fun q => xr_pop2 q)
    case goto _ => exact absurd h (fun q => xr_jp q)
    case ifCond _ _ => exact absurd h (fun q => xr_b0 q)
    case if_icmp _ _ => exact absurd h (fun q => xr_b2 q)
    case tableswitch _ _ _ _ => exact absurd h (fun q => xr_tsw q)
    case getfield _ => exact absurd h (fun q => xr_gfs q)
    case getstatic _ => exact absurd h (fun q => xr_gst q)
    case putfield _ => exact absurd h (fun q => xr_pf q)
    case iaload => exact absurd h (fun q => xr_ald q)
    case baload => exact absurd h (fun q => xr_ald q)
    case iastore => exact absurd h (fun q => xr_ast q)
    case bastore => exact absurd h (fun q => xr_ast q)
    case aaload => exact absurd h (fun q => xr_alq q)
    case aastore => exact absurd h (fun q => xr_asq q)
    case arraylength => exact absurd h (fun q => xr_aln q)
    case new _ => exact absurd h (fun q => xr_nwo q)
    case newarray _ => exact absurd h (fun q => xr_nwa q)
    case anewarray _ => exact absurd h (fun q => xr_nwq q)
    case i2l => exact absurd h (fun q => xr_i2l q)
    case l2i => exact absurd h (fun q => xr_l2i q)
    case lcmp => exact absurd h (fun q => xr_lcm q)
    case ineg => exact absurd h (fun q => xr_i1 q)
    case i2b => exact absurd h (fun q => xr_i1 q)
    case i2s => exact absurd h (fun q => xr_i1 q)
    case i2c => exact absurd h (fun q => xr_i1 q)
    case iadd => exact absurd h (fun q => xr_i2 q)
    case isub => exact absurd h (fun q => xr_i2 q)
    case imul => exact absurd h (fun q => xr_i2 q)
    case iand => exact absurd h (fun q => xr_i2 q)
    case ior => exact absurd h (fun q => xr_i2 q)
    case ixor => exact absurd h (fun q => xr_i2 q)
    case ishl => exact absurd h (fun q => xr_i2 q)
    case ishr => exact absurd h (fun q => xr_i2 q)
    case iushr => exact absurd h (fun q => xr_i2 q)
    case idiv => exact absurd h (fun q => xr_d2 q)
    case irem => exact absurd h (fun q => xr_d2 q)
    case ladd => exact absurd h (fun q => xr_l2 q)
    case lmul => exact absurd h (fun q => xr_l2 q)
    case land => exact absurd h (fun q => xr_l2 q)
    case lor => exact absurd h (fun q => xr_l2 q)
    case ldiv => exact absurd h (fun q => xr_e2 q)
    case lrem => exact absurd h (fun q => xr_e2 q)
    case lshl => exact absurd h (fun q => xr_ls q)
    case lshr => exact absurd h (fun q => xr_ls q)
    case lushr => exact absurd h (fun q => xr_ls q)
    all_goals cases h
  · cases h
variable {a : Nat} {b : ex_L} {f : List Value} {d : ex_W}
def ex_le (w d : ex_W) : Prop := w.length ≤ d.length ∧ ex_sl w ≤ ex_sl d
theorem ex_le.rf (w : ex_W) : ex_le w w := ⟨Nat.le_refl _, Nat.le_refl _⟩
theorem ex_le.tr {u v w : ex_W} (h : ex_le u v) (g : ex_le v w) : ex_le u w := ⟨Nat.le_trans h.1 g.1, Nat.le_trans h.2 g.2⟩
theorem ex_le.set {q : Nat} {x y : ex_E} (h : ex_at w q = some x) (hs : ex_sz y = ex_sz x) : ex_le w (ex_put w q y) := by
  rw [ex_put_eq]
  exact ⟨by rw [List.length_set]; exact Nat.le_refl _, by rw [ex_sl_set (ex_lg h) hs]; exact Nat.le_refl _⟩
theorem ex_le.app {x : ex_E} : ex_le w (w ++ [x]) := ⟨by simp, by rw [ex_sl_app]; exact Nat.le_add_right _ _⟩
theorem xm_go {a' : Nat} {b' : ex_L} {f' : List Value} {d' : ex_W} (h : ex_go a' b' f' d' = some (.inl ((a, b, f), d))) (g : ex_le w d') : ex_le w d := by
  obtain ⟨-, -, -, rfl⟩ := xi_go h
  exact g
theorem xm_ldA {n : Nat} (h : ex_ldA n lo i st w = some (.inl ((a, b, f), d))) : ex_le w d := by
  unfold ex_ldA at h
  repeat' split at h
  all_goals first | (cases h; done) | exact xm_go h (ex_le.rf _)
theorem xm_ldI {n : Nat} (h : ex_ldI n lo i st w = some (.inl ((a, b, f), d))) : ex_le w d := by
  unfold ex_ldI at h
  repeat' split at h
  all_goals first | (cases h; done) | exact xm_go h (ex_le.rf _)
theorem xm_ldL {n : Nat} (h : ex_ldL n lo i st w = some (.inl ((a, b, f), d))) : ex_le w d := by
  unfold ex_ldL at h
  repeat' split at h
  all_goals first | (cases h; done) | exact xm_go h (ex_le.rf _)
theorem xm_stA {n : Nat} (h : ex_stA n lo i st w = some (.inl ((a, b, f), d))) : ex_le w d := by
  unfold ex_stA at h
  repeat' split at h
  all_goals first | (cases h; done) | exact xm_go h (ex_le.rf _)
theorem xm_stI {n : Nat} (h : ex_stI n lo i st w = some (.inl ((a, b, f), d))) : ex_le w d := by
  unfold ex_stI at h
  repeat' split at h
  all_goals first | (cases h; done) | exact xm_go h (ex_le.rf _)
theorem xm_stL {n : Nat} (h : ex_stL n lo i st w = some (.inl ((a, b, f), d))) : ex_le w d := by
  unfold ex_stL at h
  repeat' split at h
  all_goals first | (cases h; done) | exact xm_go h (ex_le.rf _)
theorem xm_inc {n : Int} (h : ex_inc i n pc lo st w = some (.inl ((a, b, f), d))) : ex_le w d := by
  unfold ex_inc at h
  repeat' split at h
  all_goals first | (cases h; done) | exact xm_go h (ex_le.rf _)
theorem xm_lc {t : Option (Value × Nat)} (h : ex_lc t pc lo st w = some (.inl ((a, b, f), d))) : ex_le w d := by
  unfold ex_lc at h
  repeat' split at h
  all_goals first | (cases h; done) | exact xm_go h (ex_le.rf _)
theorem xm_lc2 {t : Option (Value × Nat)} (h : ex_lc2 t pc lo st w = some (.inl ((a, b, f), d))) : ex_le w d := by
  unfold ex_lc2 at h
  repeat' split at h
  all_goals first | (cases h; done) | exact xm_go h (ex_le.rf _)
theorem xm_i2 {g : Int32 → Int32 → Int32} (h : ex_i2 g pc lo st w = some (.inl ((a, b, f), d))) : ex_le w d := by
  unfold ex_i2 at h
  repeat' split at h
  all_goals first | (cases h; done) | exact xm_go h (ex_le.rf _)
theorem xm_l2 {g : Int64 → Int64 → Int64} (h : ex_l2 g pc lo st w = some (.inl ((a, b, f), d))) : ex_le w d := by
  unfold ex_l2 at h
  repeat' split at h
  all_goals first | (cases h; done) | exact xm_go h (ex_le.rf _)
theorem xm_d2 {g : Int32 → Int32 → Int32} (h : ex_d2 g pc lo st w = some (.inl ((a, b, f), d))) : ex_le w d := by
  unfold ex_d2 at h
  repeat' split at h
  all_goals first | (cases h; done) | exact xm_go h (ex_le.rf _)
theorem xm_e2 {g : Int64 → Int64 → Int64} (h : ex_e2 g pc lo st w = some (.inl ((a, b, f), d))) : ex_le w d := by
  unfold ex_e2 at h
  repeat' split at h
  all_goals first | (cases h; done) | exact xm_go h (ex_le.rf _)
theorem xm_i1 {g : Int32 → Int32} (h : ex_i1 g pc lo st w = some (.inl ((a, b, f), d))) : ex_le w d := by
  unfold ex_i1 at h
  repeat' split at h
  all_goals first | (cases h; done) | exact xm_go h (ex_le.rf _)
theorem xm_ls {g : Int64 → Int32 → Int64} (h : ex_ls g pc lo st w = some (.inl ((a, b, f), d))) : ex_le w d := by
  unfold ex_ls at h
  repeat' split at h
  all_goals first | (cases h; done) | exact xm_go h (ex_le.rf _)
theorem xm_l2i (h : ex_l2i pc lo st w = some (.inl ((a, b, f), d))) : ex_le w d := by
  unfold ex_l2i at h
  repeat' split at h
  all_goals first | (cases h; done) | exact xm_go h (ex_le.rf _)
theorem xm_i2l (h : ex_i2l pc lo st w = some (.inl ((a, b, f), d))) : ex_le w d := by
  unfold ex_i2l at h
  repeat' split at h
  all_goals first | (cases h; done) | exact xm_go h (ex_le.rf _)
theorem xm_lcm (h : ex_lcm pc lo st w = some (.inl ((a, b, f), d))) : ex_le w d := by
  unfold ex_lcm at h
  repeat' split at h
  all_goals first | (cases h; done) | exact xm_go h (ex_le.rf _)
theorem xm_dup (h : ex_dup pc lo st w = some (.inl ((a, b, f), d))) : ex_le w d := by
  unfold ex_dup at h
  repeat' split at h
  all_goals first | (cases h; done) | exact xm_go h (ex_le.rf _)
theorem xm_dup2 (h : ex_dup2 pc lo st w = some (.inl ((a, b, f), d))) : ex_le w d := by
  unfold ex_dup2 at h
  repeat' split at h
  all_goals first | (cases h; done) | exact xm_go h (ex_le.rf _)
theorem xm_pop (h : ex_pop pc lo st w = some (.inl ((a, b, f), d))) : ex_le w d := by
  unfold ex_pop at h
  repeat' split at h
  all_goals first | (cases h; done) | exact xm_go h (ex_le.rf _)
theorem xm_pop2 (h : ex_pop2 pc lo st w = some (.inl ((a, b, f), d))) : ex_le w d := by
  unfold ex_pop2 at h
  repeat' split at h
  all_goals first | (cases h; done) | exact xm_go h (ex_le.rf _)
theorem xm_jp {off : Int} (h : ex_jp pc off lo st w = some (.inl ((a, b, f), d))) : ex_le w d := by
  unfold ex_jp at h
  repeat' split at h
  all_goals first | (cases h; done) | exact xm_go h (ex_le.rf _)
theorem xm_if {q : Bool} {off : Int} (h : ex_if q pc off lo st w = some (.inl ((a, b, f), d))) : ex_le w d := by
  unfold ex_if at h
  repeat' split at h
  all_goals first | (cases h; done) | exact xm_go h (ex_le.rf _)
theorem xm_b0 {cd : Jvm.ClassFile.Cond} {off : Int} (h : ex_b0 cd off pc lo st w = some (.inl ((a, b, f), d))) : ex_le w d := by
  unfold ex_b0 at h
  repeat' split at h
  all_goals first | (cases h; done) | exact xm_go h (ex_le.rf _) | exact xm_if h
theorem xm_b2 {cd : Jvm.ClassFile.Cond} {off : Int} (h : ex_b2 cd off pc lo st w = some (.inl ((a, b, f), d))) : ex_le w d := by
  unfold ex_b2 at h
  repeat' split at h
  all_goals first | (cases h; done) | exact xm_go h (ex_le.rf _) | exact xm_if h
theorem xm_tsw {dd lw hi : Int} {offs : Array Int} (h : ex_tsw dd lw hi offs pc lo st w = some (.inl ((a, b, f), d))) : ex_le w d := by
  unfold ex_tsw at h
  repeat' split at h
  all_goals first | (cases h; done) | exact xm_go h (ex_le.rf _) | exact xm_jp h
theorem xm_gf {t : Option (Nat × Nat × Nat)} (h : ex_gf t pc lo st w = some (.inl ((a, b, f), d))) : ex_le w d := by
  unfold ex_gf at h
  repeat' split at h
  all_goals first | (cases h; done) | exact xm_go h (ex_le.rf _)
theorem xm_lcs {t : Option (Value × Nat)} (h : ex_lcs t pc lo st w = some (.inl ((a, b, f), d))) : ex_le w d := by
  unfold ex_lcs at h
  repeat' split at h
  all_goals first | (cases h; done) | exact xm_go h (ex_le.rf _)
theorem xm_sgf {kf : Nat} (h : ex_sgf kf pc lo st w = some (.inl ((a, b, f), d))) : ex_le w d := by
  unfold ex_sgf at h
  repeat' split at h
  all_goals first | (cases h; done) | exact xm_go h (ex_le.rf _)
theorem xm_gst {t : Option (Nat × Nat)} (h : ex_gst t pc lo st w = some (.inl ((a, b, f), d))) : ex_le w d := by
  unfold ex_gst at h
  repeat' split at h
  all_goals first | (cases h; done) | exact xm_go h (ex_le.rf _)
theorem xm_gfs {u : Option (Nat × Nat)} {t : Option (Nat × Nat × Nat)} (h : ex_gfs u t pc lo st w = some (.inl ((a, b, f), d))) : ex_le w d := by
  unfold ex_gfs at h
  split at h
  · exact xm_sgf h
  · exact xm_gf h
theorem xm_pf {t : Option (Nat × Nat × Nat)} {cn : Nat} {q : Bool} (h : ex_pf t cn q pc lo st w = some (.inl ((a, b, f), d))) : ex_le w d := by
  unfold ex_pf at h
  repeat' split at h
  all_goals first | (cases h; done) | exact xm_go h (ex_le.set (by assumption) (by simp [ex_sz]))
theorem xm_ald {q y : Bool} (h : ex_ald q X y pc lo st w = some (.inl ((a, b, f), d))) : ex_le w d := by
  unfold ex_ald at h
  repeat' split at h
  all_goals first | (cases h; done) | exact xm_go h (ex_le.rf _)
theorem xm_ast {q : Bool} (h : ex_ast q pc lo st w = some (.inl ((a, b, f), d))) : ex_le w d := by
  unfold ex_ast at h
  repeat' split at h
  all_goals first | (cases h; done) | exact xm_go h (ex_le.set (by assumption) (by simp [ex_sz, ex_put_eq]))
theorem xm_alq (h : ex_alq pc lo st w = some (.inl ((a, b, f), d))) : ex_le w d := by
  unfold ex_alq at h
  repeat' split at h
  all_goals first | (cases h; done) | exact xm_go h (ex_le.rf _)
theorem xm_asq (h : ex_asq pc lo st w = some (.inl ((a, b, f), d))) : ex_le w d := by
  unfold ex_asq at h
  repeat' split at h
  all_goals first | (cases h; done) | exact xm_go h (ex_le.set (by assumption) (by simp [ex_sz, ex_put_eq]))
theorem xm_aln {y : Bool} (h : ex_aln X y pc lo st w = some (.inl ((a, b, f), d))) : ex_le w d := by
  unfold ex_aln at h
  repeat' split at h
  all_goals first | (cases h; done) | exact xm_go h (ex_le.rf _)
theorem xm_nwo {t : Option (Nat × Nat)} (h : ex_nwo t pc lo st w = some (.inl ((a, b, f), d))) : ex_le w d := by
  unfold ex_nwo at h
  repeat' split at h
  all_goals first | (cases h; done) | exact xm_go h (ex_le.app)
theorem xm_nwa {ty : FieldType} (h : ex_nwa ty pc lo st w = some (.inl ((a, b, f), d))) : ex_le w d := by
  unfold ex_nwa at h
  repeat' split at h
  all_goals first | (cases h; done) | exact xm_go h (ex_le.app)
theorem xm_nwq {t : Option (Nat × Nat)} (h : ex_nwq t pc lo st w = some (.inl ((a, b, f), d))) : ex_le w d := by
  unfold ex_nwq at h
  repeat' split at h
  all_goals first | (cases h; done) | exact xm_go h (ex_le.app)
theorem xm_int {kd k : Nat} (h : ex_int kd k pc lo st w = some (.inl ((a, b, f), d))) : ex_le w d := by
  unfold ex_int at h
  split at h
  · repeat' split at h
    all_goals first | (cases h; done) | exact xm_go h (ex_le.rf _)
  · repeat' split at h
    all_goals first | (cases h; done) | exact xm_go h (ex_le.rf _)
  · repeat' split at h
    all_goals first | (cases h; done) | exact xm_go h (ex_le.rf _)
  · split at h
    · split at h
      · next hw1 hw2 =>
        split at h
        · next hc => exact xm_go h (ex_le.set hw2 (by obtain ⟨-, -, -, -, -, -, -, h4, h5⟩ := hc; simp only [ex_sz]; exact ex_cpy_len h4 h5))
        · cases h
      · cases h
    · cases h
  · cases h
theorem ex_step_le (h : ex_step X M (pc, lo, st) w = some (.inl ((a, b, f), d))) : ex_le w d := by
  unfold ex_step at h
  split at h
  · next ins hf =>
    cases ins
    case invokevirtual i' =>
      have h : ex_iv 0 (ex_itr M.2.2.1 i') (ex_cal M.2.2.1 i') pc lo st w = some (.inl ((a, b, f), d)) := h
      unfold ex_iv at h
      split at h
      · exact xm_int h
      · exact absurd h (fun q => xn_cl q)
    case invokestatic i' =>
      have h : ex_iv 1 (ex_itr M.2.2.1 i') (ex_cal M.2.2.1 i') pc lo st w = some (.inl ((a, b, f), d)) := h
      unfold ex_iv at h
      split at h
      · exact xm_int h
      · exact absurd h (fun q => xn_cl q)
    case invokespecial i' =>
      have h : ex_iv 2 (ex_itr M.2.2.1 i') (ex_cal M.2.2.1 i') pc lo st w = some (.inl ((a, b, f), d)) := h
      unfold ex_iv at h
      split at h
      · exact xm_int h
      · exact absurd h (fun q => xn_cl q)
    case ireturn => exact absurd h (fun q => xn_ret q)
    case lreturn => exact absurd h (fun q => xn_lret q)
    case return_ => exact absurd h (fun q => xn_vret q)
    case aload_n _ => exact xm_ldA h
    case aload _ => exact xm_ldA h
    case iload_n _ => exact xm_ldI h
    case iload _ => exact xm_ldI h
    case lload_n _ => exact xm_ldL h
    case lload _ => exact xm_ldL h
    case istore_n _ => exact xm_stI h
    case istore _ => exact xm_stI h
    case astore_n _ => exact xm_stA h
    case astore _ => exact xm_stA h
    case lstore_n _ => exact xm_stL h
    case lstore _ => exact xm_stL h
    case iinc _ _ => exact xm_inc h
    case iconst _ => exact xm_go h (ex_le.rf _)
    case bipush _ => exact xm_go h (ex_le.rf _)
    case sipush _ => exact xm_go h (ex_le.rf _)
    case lconst _ => exact xm_go h (ex_le.rf _)
    case ldc _ => exact xm_lcs h
    case ldc_w _ => exact xm_lc h
    case ldc2_w _ => exact xm_lc2 h
    case dup => exact xm_dup h
    case dup2 => exact xm_dup2 h
    case pop => exact xm_pop h
    case pop2 => exact xm_pop2 h
    case goto _ => exact xm_jp h
    case ifCond _ _ => exact xm_b0 h
    case if_icmp _ _ => exact xm_b2 h
    case tableswitch _ _ _ _ => exact xm_tsw h
    case getfield _ => exact xm_gfs h
    case getstatic _ => exact xm_gst h
    case putfield _ => exact xm_pf h
    case iaload => exact xm_ald h
    case baload => exact xm_ald h
    case iastore => exact xm_ast h
    case bastore => exact xm_ast h
    case aaload => exact xm_alq h
    case aastore => exact xm_asq h
    case arraylength => exact xm_aln h
    case new _ => exact xm_nwo h
    case newarray _ => exact xm_nwa h
    case anewarray _ => exact xm_nwq h
    case i2l => exact xm_i2l h
    case l2i => exact xm_l2i h
    case lcmp => exact xm_lcm h
    case ineg => exact xm_i1 h
    case i2b => exact xm_i1 h
    case i2s => exact xm_i1 h
    case i2c => exact xm_i1 h
    case iadd => exact xm_i2 h
    case isub => exact xm_i2 h
    case imul => exact xm_i2 h
    case iand => exact xm_i2 h
    case ior => exact xm_i2 h
    case ixor => exact xm_i2 h
    case ishl => exact xm_i2 h
    case ishr => exact xm_i2 h
    case iushr => exact xm_i2 h
    case idiv => exact xm_d2 h
    case irem => exact xm_d2 h
    case ladd => exact xm_l2 h
    case lmul => exact xm_l2 h
    case land => exact xm_l2 h
    case lor => exact xm_l2 h
    case ldiv => exact xm_e2 h
    case lrem => exact xm_e2 h
    case lshl => exact xm_ls h
    case lshr => exact xm_ls h
    case lushr => exact xm_ls h
    all_goals cases h
  · cases h
theorem ex_run_le : ∀ (n dp : Nat) (M : ex_M) (g : ex_F) (w : ex_W) (r : Option Value) (w' : ex_W), ex_run X n dp M g w = some (r, w') → ex_le w w' := by
  intro n
  induction n with
  | zero => intro dp M g w r w' h; cases h
  | succ n ih =>
    intro dp M g w r w' h
    rw [ex_run_s] at h
    unfold ex_nxt at h
    split at h
    · cases h
    · next q hq =>
      obtain ⟨⟨a, b, f⟩, d⟩ := q
      exact (ex_step_le (pc := g.1) (lo := g.2.1) (st := g.2.2) hq).tr (ih _ _ _ _ _ _ h)
    · next cal as gg hq =>
      split at h
      · next d' M' hM' =>
        split at h
        · split at h
          · next r1 w1 h1 => exact (ih _ _ _ _ _ _ h1).tr (ih _ _ _ _ _ _ h)
          · cases h
        · cases h
      · cases h
    · cases h
      exact ex_le.rf _
end EXR
