/-! RUNS OF THE ABSTRACT MACHINE, put together. -/
theorem ex_run_up {X : List Int32} : ∀ (n d : Nat) (M : ex_M) (f : ex_F) (w : ex_W) (q : Option Value × ex_W), ex_run X n d M f w = some q → ∀ k, n ≤ k → ex_run X k d M f w = some q := by
  intro n
  induction n with
  | zero => intro d M f w q h; cases h
  | succ n ih =>
    intro d M f w q h k hk
    obtain ⟨k, rfl⟩ : ∃ j, k = j + 1 := ⟨k - 1, by omega⟩
    have hk : n ≤ k := by omega
    rw [ex_run_s] at h ⊢
    unfold ex_nxt at h ⊢
    split at h
    · cases h
    · exact ih _ _ _ _ _ h k hk
    · split at h
      · split at h
        · next hl =>
          split at h
          · next r w' h1 =>
            simp only [hl, if_true]
            rw [ih _ _ _ _ _ h1 k hk]
            exact ih _ _ _ _ _ h k hk
          · cases h
        · cases h
      · cases h
    · exact h
/-- a frame runs to an answer and cells -/
def Go (X : List Int32) (d : Nat) (M : ex_M) (f : ex_F) (w : ex_W) (q : Option Value × ex_W) : Prop := ∃ n, ex_run X n d M f w = some q
section GO
variable {X : List Int32} {d : Nat} {M : ex_M} {f f' : ex_F} {w w' : ex_W} {q : Option Value × ex_W}
theorem Go.next (h : ex_step X M f w = some (.inl (f', w'))) (k : Go X d M f' w' q) : Go X d M f w q := by
  obtain ⟨n, hn⟩ := k
  refine ⟨n + 1, ?_⟩
  rw [ex_run_s, h]
  exact hn
theorem Go.ret {v : Option Value} (h : ex_step X M f w = some (.inr (.inr v))) : Go X d M f w (v, w) := ⟨1, by rw [ex_run_s, h]; rfl⟩
theorem Go.call {cal : Nat} {as : List Value} {g : ex_F} {M' : ex_M} {r : Option Value} (h : ex_step X M f w = some (.inr (.inl (cal, as, g)))) (hM : ex_at ex_lst cal = some M') (hl : (ex_lay as).length ≤ M'.2.2.2.2.1) (hc : Go X d M' (ex_ent M' as) w (r, w')) (k : Go X (d + 1) M (g.1, g.2.1, r.toList ++ g.2.2) w' q) : Go X (d + 1) M f w q := by
  obtain ⟨n, hn⟩ := hc
  obtain ⟨n2, hn2⟩ := k
  refine ⟨max n n2 + 1, ?_⟩
  rw [ex_run_s, h]
  show (match d + 1, ex_at ex_lst cal with
    | d' + 1, some M' => if (ex_lay as).length ≤ M'.2.2.2.2.1 then (match ex_run X (max n n2) d' M' (ex_ent M' as) w with
      | some (r, w') => ex_run X (max n n2) (d' + 1) M (g.1, g.2.1, r.toList ++ g.2.2) w'
      | none => none) else none
    | _, _ => none) = some q
  rw [hM]
  simp only [hl, if_true]
  rw [ex_run_up _ _ _ _ _ _ hn _ (Nat.le_max_left _ _)]
  exact ex_run_up _ _ _ _ _ _ hn2 _ (Nat.le_max_right _ _)
theorem Go.of {n : Nat} (h : ex_run X n d M f w = some q) : Go X d M f w q := ⟨n, h⟩
end GO
/-- the script is the law's alone -/
theorem ex_step_X {X Y : List Int32} {M : ex_M} (h : M.1 ≠ 0) (f : ex_F) (w : ex_W) : ex_step X M f w = ex_step Y M f w := by
  have hb : Nat.beq M.1 0 = false := by
    cases hb : Nat.beq M.1 0 with
    | false => rfl
    | true => exact absurd (Nat.eq_of_beq_eq_true hb) h
  unfold ex_step
  split
  · next ins hf =>
    cases ins <;> first | rfl | skip
    case iaload =>
      show ex_ald false X (Nat.beq M.1 0) f.1 f.2.1 f.2.2 w = ex_ald false Y (Nat.beq M.1 0) f.1 f.2.1 f.2.2 w
      rw [hb]
      unfold ex_ald
      split <;> first | rfl | simp
    case arraylength =>
      show ex_aln X (Nat.beq M.1 0) f.1 f.2.1 f.2.2 w = ex_aln Y (Nat.beq M.1 0) f.1 f.2.1 f.2.2 w
      rw [hb]
      unfold ex_aln
      split <;> first | rfl | simp
  · rfl
theorem ex_run_X {X Y : List Int32} : ∀ (n d : Nat) (M : ex_M) (f : ex_F) (w : ex_W), M.1 ≠ 0 → ex_run X n d M f w = ex_run Y n d M f w := by
  intro n
  induction n with
  | zero => intros; rfl
  | succ n ih =>
    intro d M f w h
    rw [ex_run_s, ex_run_s, ex_step_X (Y := Y) h]
    unfold ex_nxt
    split
    · rfl
    · exact ih _ _ _ _ h
    · next cal as g hq =>
      split
      · next d' M' hM' =>
        split
        · have hne : M'.1 ≠ 0 := by
            obtain ⟨ins, hf, hc⟩ := ex_step_inr (pc := f.1) (lo := f.2.1) (st := f.2.2) hq
            rcases hc with ⟨kd, i, hkd, rfl, hc⟩ | ⟨rfl, hc⟩ | ⟨rfl, hc⟩ | ⟨rfl, hc⟩
            · rw [(ex_num hM').1]
              exact ex_cl_ne hc
            · unfold ex_ret at hc
              repeat' split at hc
              all_goals cases hc
            · unfold ex_lret at hc
              repeat' split at hc
              all_goals cases hc
            · unfold ex_vret at hc
              repeat' split at hc
              all_goals cases hc
          rw [ih d' M' _ _ hne]
          split
          · exact ih _ _ _ _ h
          · rfl
        · rfl
      · rfl
    · rfl
theorem Go.X {X Y : List Int32} {d : Nat} {M : ex_M} {f : ex_F} {w : ex_W} {q : Option Value × ex_W} (h : M.1 ≠ 0) (k : Go X d M f w q) : Go Y d M f w q := by
  obtain ⟨n, hn⟩ := k
  exact ⟨n, by rw [ex_run_X (Y := X) n d M f w h]; exact hn⟩
