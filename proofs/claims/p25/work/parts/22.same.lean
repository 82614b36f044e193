/-! METHODS THAT MAKE NO CELLS: all but the law and the constructors. -/
noncomputable def ex_naI (c : Nat) (ins : Instr) : Bool := match ins with
  | .new _ => false
  | .newarray _ => false
  | .anewarray _ => false
  | .invokevirtual i => Option.rec (motive := fun _ => Bool) true (fun q => Nat.blt 0 q.1 && !(ex_m q.1).2.2.2.2.2.2.2.1) (ex_cal c i)
  | .invokestatic i => Option.rec (motive := fun _ => Bool) true (fun q => Nat.blt 0 q.1 && !(ex_m q.1).2.2.2.2.2.2.2.1) (ex_cal c i)
  | .invokespecial i => Option.rec (motive := fun _ => Bool) true (fun q => Nat.blt 0 q.1 && !(ex_m q.1).2.2.2.2.2.2.2.1) (ex_cal c i)
  | _ => true
noncomputable def ex_naB (M : ex_M) : Bool := M.2.2.2.2.2.2.2.1 || (Nat.beq M.1 0 || ex_allT M.2.1 (fun _ ins => ex_naI M.2.2.1 ins))
set_option maxRecDepth 100000 in
theorem ex_na_ck : ex_lst.all ex_naB = true := by decide +kernel
theorem ex_na_of {M : ex_M} (h : M ∈ ex_lst) (h0 : M.1 ≠ 0) (hI : M.2.2.2.2.2.2.2.1 = false) : ex_allT M.2.1 (fun _ ins => ex_naI M.2.2.1 ins) = true := by
  have h1 := List.all_eq_true.mp ex_na_ck M h
  unfold ex_naB at h1
  rw [hI, Bool.false_or] at h1
  cases hb : Nat.beq M.1 0 with
  | true => exact absurd (Nat.eq_of_beq_eq_true hb) h0
  | false => rw [hb, Bool.false_or] at h1; exact h1
def ex_sm (w d : ex_W) : Prop := d.length = w.length ∧ ex_sl d = ex_sl w
theorem ex_sm.rf (w : ex_W) : ex_sm w w := ⟨rfl, rfl⟩
theorem ex_sm.tr {u v w : ex_W} (h : ex_sm u v) (g : ex_sm v w) : ex_sm u w := ⟨g.1.trans h.1, g.2.trans h.2⟩
section EXSM
variable {pc : Nat} {lo : ex_L} {st : List Value} {w : ex_W} {M : ex_M} {i : Nat} {X : List Int32} {a : Nat} {b : ex_L} {f : List Value} {d : ex_W}
theorem ex_sm.set {q : Nat} {x y : ex_E} (h : ex_at w q = some x) (hs : ex_sz y = ex_sz x) : ex_sm w (ex_put w q y) := by
  rw [ex_put_eq]
  exact ⟨List.length_set, ex_sl_set (ex_lg h) hs⟩
theorem xs_go {a' : Nat} {b' : ex_L} {f' : List Value} {d' : ex_W} (h : ex_go a' b' f' d' = some (.inl ((a, b, f), d))) (g : ex_sm w d') : ex_sm w d := by
  obtain ⟨-, -, -, rfl⟩ := xi_go h
  exact g
theorem xs_ldA {n : Nat} (h : ex_ldA n lo i st w = some (.inl ((a, b, f), d))) : ex_sm w d := by
  unfold ex_ldA at h
  repeat' split at h
  all_goals first | (cases h; done) | exact xs_go h (ex_sm.rf _)
theorem xs_ldI {n : Nat} (h : ex_ldI n lo i st w = some (.inl ((a, b, f), d))) : ex_sm w d := by
  unfold ex_ldI at h
  repeat' split at h
  all_goals first | (cases h; done) | exact xs_go h (ex_sm.rf _)
theorem xs_ldL {n : Nat} (h : ex_ldL n lo i st w = some (.inl ((a, b, f), d))) : ex_sm w d := by
  unfold ex_ldL at h
  repeat' split at h
  all_goals first | (cases h; done) | exact xs_go h (ex_sm.rf _)
theorem xs_stA {n : Nat} (h : ex_stA n lo i st w = some (.inl ((a, b, f), d))) : ex_sm w d := by
  unfold ex_stA at h
  repeat' split at h
  all_goals first | (cases h; done) | exact xs_go h (ex_sm.rf _)
theorem xs_stI {n : Nat} (h : ex_stI n lo i st w = some (.inl ((a, b, f), d))) : ex_sm w d := by
  unfold ex_stI at h
  repeat' split at h
  all_goals first | (cases h; done) | exact xs_go h (ex_sm.rf _)
theorem xs_stL {n : Nat} (h : ex_stL n lo i st w = some (.inl ((a, b, f), d))) : ex_sm w d := by
  unfold ex_stL at h
  repeat' split at h
  all_goals first | (cases h; done) | exact xs_go h (ex_sm.rf _)
theorem xs_inc {n : Int} (h : ex_inc i n pc lo st w = some (.inl ((a, b, f), d))) : ex_sm w d := by
  unfold ex_inc at h
  repeat' split at h
  all_goals first | (cases h; done) | exact xs_go h (ex_sm.rf _)
theorem xs_lc {t : Option (Value × Nat)} (h : ex_lc t pc lo st w = some (.inl ((a, b, f), d))) : ex_sm w d := by
  unfold ex_lc at h
  repeat' split at h
  all_goals first | (cases h; done) | exact xs_go h (ex_sm.rf _)
theorem xs_lc2 {t : Option (Value × Nat)} (h : ex_lc2 t pc lo st w = some (.inl ((a, b, f), d))) : ex_sm w d := by
  unfold ex_lc2 at h
  repeat' split at h
  all_goals first | (cases h; done) | exact xs_go h (ex_sm.rf _)
theorem xs_i2 {g : Int32 → Int32 → Int32} (h : ex_i2 g pc lo st w = some (.inl ((a, b, f), d))) : ex_sm w d := by
  unfold ex_i2 at h
  repeat' split at h
  all_goals first | (cases h; done) | exact xs_go h (ex_sm.rf _)
theorem xs_l2 {g : Int64 → Int64 → Int64} (h : ex_l2 g pc lo st w = some (.inl ((a, b, f), d))) : ex_sm w d := by
  unfold ex_l2 at h
  repeat' split at h
  all_goals first | (cases h; done) | exact xs_go h (ex_sm.rf _)
theorem xs_d2 {g : Int32 → Int32 → Int32} (h : ex_d2 g pc lo st w = some (.inl ((a, b, f), d))) : ex_sm w d := by
  unfold ex_d2 at h
  repeat' split at h
  all_goals first | (cases h; done) | exact xs_go h (ex_sm.rf _)
theorem xs_e2 {g : Int64 → Int64 → Int64} (h : ex_e2 g pc lo st w = some (.inl ((a, b, f), d))) : ex_sm w d := by
  unfold ex_e2 at h
  repeat' split at h
  all_goals first | (cases h; done) | exact xs_go h (ex_sm.rf _)
theorem xs_i1 {g : Int32 → Int32} (h : ex_i1 g pc lo st w = some (.inl ((a, b, f), d))) : ex_sm w d := by
  unfold ex_i1 at h
  repeat' split at h
  all_goals first | (cases h; done) | exact xs_go h (ex_sm.rf _)
theorem xs_ls {g : Int64 → Int32 → Int64} (h : ex_ls g pc lo st w = some (.inl ((a, b, f), d))) : ex_sm w d := by
  unfold ex_ls at h
  repeat' split at h
  all_goals first | (cases h; done) | exact xs_go h (ex_sm.rf _)
theorem xs_l2i (h : ex_l2i pc lo st w = some (.inl ((a, b, f), d))) : ex_sm w d := by
  unfold ex_l2i at h
  repeat' split at h
  all_goals first | (cases h; done) | exact xs_go h (ex_sm.rf _)
theorem xs_i2l (h : ex_i2l pc lo st w = some (.inl ((a, b, f), d))) : ex_sm w d := by
  unfold ex_i2l at h
  repeat' split at h
  all_goals first | (cases h; done) | exact xs_go h (ex_sm.rf _)
theorem xs_lcm (h : ex_lcm pc lo st w = some (.inl ((a, b, f), d))) : ex_sm w d := by
  unfold ex_lcm at h
  repeat' split at h
  all_goals first | (cases h; done) | exact xs_go h (ex_sm.rf _)
theorem xs_dup (h : ex_dup pc lo st w = some (.inl ((a, b, f), d))) : ex_sm w d := by
  unfold ex_dup at h
  repeat' split at h
  all_goals first | (cases h; done) | exact xs_go h (ex_sm.rf _)
theorem xs_dup2 (h : ex_dup2 pc lo st w = some (.inl ((a, b, f), d))) : ex_sm w d := by
  unfold ex_dup2 at h
  repeat' split at h
  all_goals first | (cases h; done) | exact xs_go h (ex_sm.rf _)
theorem xs_pop (h : ex_pop pc lo st w = some (.inl ((a, b, f), d))) : ex_sm w d := by
  unfold ex_pop at h
  repeat' split at h
  all_goals first | (cases h; done) | exact xs_go h (ex_sm.rf _)
theorem xs_pop2 (h : ex_pop2 pc lo st w = some (.inl ((a, b, f), d))) : ex_sm w d := by
  unfold ex_pop2 at h
  repeat' split at h
  all_goals first | (cases h; done) | exact xs_go h (ex_sm.rf _)
theorem xs_jp {off : Int} (h : ex_jp pc off lo st w = some (.inl ((a, b, f), d))) : ex_sm w d := by
  unfold ex_jp at h
  repeat' split at h
  all_goals first | (cases h; done) | exact xs_go h (ex_sm.rf _)
theorem xs_if {q : Bool} {off : Int} (h : ex_if q pc off lo st w = some (.inl ((a, b, f), d))) : ex_sm w d := by
  unfold ex_if at h
  repeat' split at h
  all_goals first | (cases h; done) | exact xs_go h (ex_sm.rf _)
theorem xs_b0 {cd : Jvm.ClassFile.Cond} {off : Int} (h : ex_b0 cd off pc lo st w = some (.inl ((a, b, f), d))) : ex_sm w d := by
  unfold ex_b0 at h
  repeat' split at h
  all_goals first | (cases h; done) | exact xs_go h (ex_sm.rf _) | exact xs_if h
theorem xs_b2 {cd : Jvm.ClassFile.Cond} {off : Int} (h : ex_b2 cd off pc lo st w = some (.inl ((a, b, f), d))) : ex_sm w d := by
  unfold ex_b2 at h
  repeat' split at h
  all_goals first | (cases h; done) | exact xs_go h (ex_sm.rf _) | exact xs_if h
theorem xs_tsw {dd lw hi : Int} {offs : Array Int} (h : ex_tsw dd lw hi offs pc lo st w = some (.inl ((a, b, f), d))) : ex_sm w d := by
  unfold ex_tsw at h
  repeat' split at h
  all_goals first | (cases h; done) | exact xs_go h (ex_sm.rf _) | exact xs_jp h
theorem xs_gf {t : Option (Nat × Nat × Nat)} (h : ex_gf t pc lo st w = some (.inl ((a, b, f), d))) : ex_sm w d := by
  unfold ex_gf at h
  repeat' split at h
  all_goals first | (cases h; done) | exact xs_go h (ex_sm.rf _)
theorem xs_lcs {t : Option (Value × Nat)} (h : ex_lcs t pc lo st w = some (.inl ((a, b, f), d))) : ex_sm w d := by
  unfold ex_lcs at h
  repeat' split at h
  all_goals first | (cases h; done) | exact xs_go h (ex_sm.rf _)
theorem xs_sgf {kf : Nat} (h : ex_sgf kf pc lo st w = some (.inl ((a, b, f), d))) : ex_sm w d := by
  unfold ex_sgf at h
  repeat' split at h
  all_goals first | (cases h; done) | exact xs_go h (ex_sm.rf _)
theorem xs_gst {t : Option (Nat × Nat)} (h : ex_gst t pc lo st w = some (.inl ((a, b, f), d))) : ex_sm w d := by
  unfold ex_gst at h
  repeat' split at h
  all_goals first | (cases h; done) | exact xs_go h (ex_sm.rf _)
theorem xs_gfs {u : Option (Nat × Nat)} {t : Option (Nat × Nat × Nat)} (h : ex_gfs u t pc lo st w = some (.inl ((a, b, f), d))) : ex_sm w d := by
  unfold ex_gfs at h
  split at h
  · exact xs_sgf h
  · exact xs_gf h
theorem xs_pf {t : Option (Nat × Nat × Nat)} {cn : Nat} {q : Bool} (h : ex_pf t cn q pc lo st w = some (.inl ((a, b, f), d))) : ex_sm w d := by
  unfold ex_pf at h
  repeat' split at h
  all_goals first | (cases h; done) | exact xs_go h (ex_sm.set (by assumption) (by simp [ex_sz]))
theorem xs_ald {q y : Bool} (h : ex_ald q X y pc lo st w = some (.inl ((a, b, f), d))) : ex_sm w d := by
  unfold ex_ald at h
  repeat' split at h
  all_goals first | (cases h; done) | exact xs_go h (ex_sm.rf _)
theorem xs_ast {q : Bool} (h : ex_ast q pc lo st w = some (.inl ((a, b, f), d))) : ex_sm w d := by
  unfold ex_ast at h
  repeat' split at h
  all_goals first | (cases h; done) | exact xs_go h (ex_sm.set (by assumption) (by simp [ex_sz, ex_put_eq]))
theorem xs_alq (h : ex_alq pc lo st w = some (.inl ((a, b, f), d))) : ex_sm w d := by
  unfold ex_alq at h
  repeat' split at h
  all_goals first | (cases h; done) | exact xs_go h (ex_sm.rf _)
theorem xs_asq (h : ex_asq pc lo st w = some (.inl ((a, b, f), d))) : ex_sm w d := by
  unfold ex_asq at h
  repeat' split at h
  all_goals first | (cases h; done) | exact xs_go h (ex_sm.set (by assumption) (by simp [ex_sz, ex_put_eq]))
theorem xs_aln {y : Bool} (h : ex_aln X y pc lo st w = some (.inl ((a, b, f), d))) : ex_sm w d := by
  unfold ex_aln at h
  repeat' split at h
  all_goals first | (cases h; done) | exact xs_go h (ex_sm.rf _)
theorem xs_int {kd k : Nat} (h : ex_int kd k pc lo st w = some (.inl ((a, b, f), d))) : ex_sm w d := by
  unfold ex_int at h
  split at h
  · repeat' split at h
    all_goals first | (cases h; done) | exact xs_go h (ex_sm.rf _)
  · repeat' split at h
    all_goals first | (cases h; done) | exact xs_go h (ex_sm.rf _)
  · repeat' split at h
    all_goals first | (cases h; done) | exact xs_go h (ex_sm.rf _)
  · split at h
    · split at h
      · next hw1 hw2 =>
        split at h
        · next hc => exact xs_go h (ex_sm.set hw2 (by obtain ⟨-, -, -, -, -, -, -, h4, h5⟩ := hc; simp only [ex_sz]; exact ex_cpy_len h4 h5))
        · cases h
      · cases h
    · cases h
  · cases h
theorem ex_step_sm (hna : ex_allT M.2.1 (fun _ ins => ex_naI M.2.2.1 ins) = true) (h : ex_step X M (pc, lo, st) w = some (.inl ((a, b, f), d))) : ex_sm w d := by
  unfold ex_step at h
  split at h
  · next ins hf =>
    have hi := ex_allT_of hna hf
    cases ins
    case invokevirtual i' =>
      have h : ex_iv 0 (ex_itr M.2.2.1 i') (ex_cal M.2.2.1 i') pc lo st w = some (.inl ((a, b, f), d)) := h
      unfold ex_iv at h
      split at h
      · exact xs_int h
      · exact absurd h (fun q => xn_cl q)
    case invokestatic i' =>
      have h : ex_iv 1 (ex_itr M.2.2.1 i') (ex_cal M.2.2.1 i') pc lo st w = some (.inl ((a, b, f), d)) := h
      unfold ex_iv at h
      split at h
      · exact xs_int h
      · exact absurd h (fun q => xn_cl q)
    case invokespecial i' =>
      have h : ex_iv 2 (ex_itr M.2.2.1 i') (ex_cal M.2.2.1 i') pc lo st w = some (.inl ((a, b, f), d)) := h
      unfold ex_iv at h
      split at h
      · exact xs_int h
      · exact absurd h (fun q => xn_cl q)
    case ireturn => exact absurd h (fun q => xn_ret q)
    case lreturn => exact absurd h (fun q => xn_lret q)
    case return_ => exact absurd h (fun q => xn_vret q)
    case aload_n _ => exact xs_ldA h
    case aload _ => exact xs_ldA h
    case iload_n _ => exact xs_ldI h
    case iload _ => exact xs_ldI h
    case lload_n _ => exact xs_ldL h
    case lload _ => exact xs_ldL h
    case istore_n _ => exact xs_stI h
    case istore _ => exact xs_stI h
    case astore_n _ => exact xs_stA h
    case astore _ => exact xs_stA h
    case lstore_n _ => exact xs_stL h
    case lstore _ => exact xs_stL h
    case iinc _ _ => exact xs_inc h
    case iconst _ => exact xs_go h (ex_sm.rf _)
    case bipush _ => exact xs_go h (ex_sm.rf _)
    case sipush _ => exact xs_go h (ex_sm.rf _)
    case lconst _ => exact xs_go h (ex_sm.rf _)
    case ldc _ => exact xs_lcs h
    case ldc_w _ => exact xs_lc h
    case ldc2_w _ => exact xs_lc2 h
    case dup => exact xs_dup h
    case dup2 => exact xs_dup2 h
    case pop => exact xs_pop h
    case pop2 => exact xs_pop2 h
    case goto _ => exact xs_jp h
    case ifCond _ _ => exact xs_b0 h
    case if_icmp _ _ => exact xs_b2 h
    case tableswitch _ _ _ _ => exact xs_tsw h
    case getfield _ => exact xs_gfs h
    case getstatic _ => exact xs_gst h
    case putfield _ => exact xs_pf h
    case iaload => exact xs_ald h
    case baload => exact xs_ald h
    case iastore => exact xs_ast h
    case bastore => exact xs_ast h
    case aaload => exact xs_alq h
    case aastore => exact xs_asq h
    case arraylength => exact xs_aln h
    case i2l => exact xs_i2l h
    case l2i => exact xs_l2i h
    case lcmp => exact xs_lcm h
    case ineg => exact xs_i1 h
    case i2b => exact xs_i1 h
    case i2s => exact xs_i1 h
    case i2c => exact xs_i1 h
    case iadd => exact xs_i2 h
    case isub => exact xs_i2 h
    case imul => exact xs_i2 h
    case iand => exact xs_i2 h
    case ior => exact xs_i2 h
    case ixor => exact xs_i2 h
    case ishl => exact xs_i2 h
    case ishr => exact xs_i2 h
    case iushr => exact xs_i2 h
    case idiv => exact xs_d2 h
    case irem => exact xs_d2 h
    case ladd => exact xs_l2 h
    case lmul => exact xs_l2 h
    case land => exact xs_l2 h
    case lor => exact xs_l2 h
    case ldiv => exact xs_e2 h
    case lrem => exact xs_e2 h
    case lshl => exact xs_ls h
    case lshr => exact xs_ls h
    case lushr => exact xs_ls h
    all_goals first | (cases h; done) | (cases hi; done)
  · cases h
theorem ex_cl_na {kd cal : Nat} {as : List Value} {g : ex_F} {j : Nat} (hi : Option.rec (motive := fun _ => Bool) true (fun q : Nat × Nat × Nat × Nat × Nat × Nat × Nat => Nat.blt 0 q.1 && !(ex_m q.1).2.2.2.2.2.2.2.1) (ex_cal M.2.2.1 j) = true) (h : ex_cl kd (ex_cal M.2.2.1 j) pc lo st w = some (.inr (.inl (cal, as, g)))) : cal ≠ 0 ∧ (ex_m cal).2.2.2.2.2.2.2.1 = false := by
  unfold ex_cl at h
  split at h
  · next cal0 n0 k0 rc p1 p2 p3 hf =>
    rw [hf] at hi
    have hi : (Nat.blt 0 cal0 && !(ex_m cal0).2.2.2.2.2.2.2.1) = true := hi
    rw [Bool.and_eq_true, Bool.not_eq_true'] at hi
    have h0 : cal0 ≠ 0 ∧ (ex_m cal0).2.2.2.2.2.2.2.1 = false := ⟨by have := Nat.blt_eq.mp hi.1; omega, hi.2⟩
    repeat' split at h
    all_goals first | (cases h; done) | (cases h; exact h0)
  · cases h
theorem ex_run_sm : ∀ (n dp : Nat) (M : ex_M) (g : ex_F) (w : ex_W) (r : Option Value) (w' : ex_W), M ∈ ex_lst → M.1 ≠ 0 → M.2.2.2.2.2.2.2.1 = false → ex_run X n dp M g w = some (r, w') → ex_sm w w' := by
  intro n
  induction n with
  | zero => intro dp M g w r w' _ _ _ h; cases h
  | succ n ih =>
    intro dp M g w r w' hM h0 hI h
    have hna := ex_na_of hM h0 hI
    rw [ex_run_s] at h
    unfold ex_nxt at h
    split at h
    · cases h
    · next q hq =>
      obtain ⟨⟨a, b, f⟩, d⟩ := q
      exact (ex_step_sm (pc := g.1) (lo := g.2.1) (st := g.2.2) hna hq).tr (ih _ _ _ _ _ _ hM h0 hI h)
    · next cal as gg hq =>
      split at h
      · next d' M' hM' =>
        split at h
        · split at h
          · next r1 w1 h1 =>
            obtain ⟨e1, e2⟩ := ex_num hM'
            have hc : cal ≠ 0 ∧ (ex_m cal).2.2.2.2.2.2.2.1 = false := by
              obtain ⟨ins, hf, hc⟩ := ex_step_inr (pc := g.1) (lo := g.2.1) (st := g.2.2) hq
              have hi := ex_allT_of hna hf
              rcases hc with ⟨kd, i, hkd, rfl, hc⟩ | ⟨rfl, hc⟩ | ⟨rfl, hc⟩ | ⟨rfl, hc⟩
              · match kd, hkd, hi, hc with
                | 0, _, hi, hc => exact ex_cl_na hi hc
                | 1, _, hi, hc => exact ex_cl_na hi hc
                | 2, _, hi, hc => exact ex_cl_na hi hc
              · unfold ex_ret at hc
                repeat' split at hc
                all_goals cases hc
              · unfold ex_lret at hc
                repeat' split at hc
                all_goals cases hc
              · unfold ex_vret at hc
                repeat' split at hc
                all_goals cases hc
            have hne : M'.1 ≠ 0 := by rw [e1]; exact hc.1
            have hgm : ex_gm M' := (ex_gms M' e2).resolve_left (fun q => hne (by rw [q]; rfl))
            have hI' : M'.2.2.2.2.2.2.2.1 = false := by rw [← ex_m_eq hM' hgm e1]; exact hc.2
            exact (ih _ _ _ _ _ _ e2 hne hI' h1).tr (ih _ _ _ _ _ _ hM h0 hI h)
          · cases h
        · cases h
      · cases h
    · cases h
      exact ex_sm.rf _
theorem Go.sm {dp : Nat} {g : ex_F} {r : Option Value} {w' : ex_W} (hM : M ∈ ex_lst) (h0 : M.1 ≠ 0) (hI : M.2.2.2.2.2.2.2.1 = false) (h : Go X dp M g w (r, w')) : ex_sm w w' := by
  obtain ⟨n, hn⟩ := h
  exact ex_run_sm _ _ _ _ _ _ _ hM h0 hI hn
end EXSM
