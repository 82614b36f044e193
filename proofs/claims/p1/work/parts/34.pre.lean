/-! LONG RUNS IN PIECES: so many instructions of a frame (calls run to their ends), from one written state to the next. -/
noncomputable def ex_pn (X : List Int32) (fuel d : Nat) (ih : ex_F → ex_W → Option (ex_F × ex_W)) (w : ex_W) (a : Option ex_A) : Option (ex_F × ex_W) := match a with
  | some (.inl q) => ih q.1 q.2
  | some (.inr (.inl (cal, as, g))) => match d, ex_at ex_lst cal with
    | d' + 1, some M' => if (ex_lay as).length ≤ M'.2.2.2.2.1 then (match ex_run X fuel d' M' (ex_ent M' as) w with
      | some (r, w') => ih (g.1, g.2.1, r.toList ++ g.2.2) w'
      | none => none) else none
    | _, _ => none
  | _ => none
noncomputable def ex_pc (X : List Int32) (fuel d : Nat) (M : ex_M) (k : Nat) : ex_F → ex_W → Option (ex_F × ex_W) := Nat.rec (motive := fun _ => ex_F → ex_W → Option (ex_F × ex_W)) (fun f w => some (f, w)) (fun _ ih f w => ex_pn X fuel d ih w (ex_step X M f w)) k
theorem ex_pc_go {X : List Int32} {fuel : Nat} {M : ex_M} {q : Option Value × ex_W} : ∀ (k d : Nat) (f : ex_F) (w : ex_W) (f' : ex_F) (w' : ex_W), ex_pc X fuel d M k f w = some (f', w') → Go X d M f' w' q → Go X d M f w q := by
  intro k
  induction k with
  | zero =>
    intro d f w f' w' h g
    cases h
    exact g
  | succ k ih =>
    intro d f w f' w' h g
    replace h : ex_pn X fuel d (ex_pc X fuel d M k) w (ex_step X M f w) = some (f', w') := h
    unfold ex_pn at h
    split at h
    · next p hp => exact Go.next hp (ih _ _ _ _ _ h g)
    · next cal as gg hp =>
      split at h
      · rename_i hM
        split at h
        · next hl =>
          split at h
          · next r w1 h1 => exact Go.call hp hM hl (Go.of h1) (ih _ _ _ _ _ h g)
          · cases h
        · cases h
      · cases h
    · cases h
noncomputable def ex_isF (q : Option (ex_F × ex_W)) (pc : Nat) (lo : ex_L) (st : List Value) (w : ex_W) : Bool := match q with
  | some ((a, b, c), u) => Nat.beq a pc && (decide (b = lo) && (decide (c = st) && ex_eqW u w))
  | none => false
theorem ex_isF_of {q : Option (ex_F × ex_W)} {pc : Nat} {lo : ex_L} {st : List Value} {w : ex_W} (h : ex_isF q pc lo st w = true) : q = some ((pc, lo, st), w) := by
  unfold ex_isF at h
  split at h
  · simp only [Bool.and_eq_true, decide_eq_true_eq] at h
    rw [Nat.eq_of_beq_eq_true h.1, h.2.1, h.2.2.1, ex_eqW_of _ _ h.2.2.2]
  · cases h
/-- class and reference answer alike, with a long -/
def A2L (jx jm : ex_M) (as : List Value) : Prop := ∃ (v : Int64) (wx wm : ex_W) (fs : List Value), Go [] 39 jx (ex_ent jx (.ref 0 :: as)) fr_w (some (.long v), wx) ∧ ex_at wx 59 = some (.inr (.inr (8, fs))) ∧ Go [] 39 jm (ex_ent jm (.ref 59 :: as)) wx (some (.long v), wm)
noncomputable def ck2L (jx jm : ex_M) (n : Nat) (as : List Value) : Bool := match ex_run [] n 39 jx (ex_ent jx (.ref 0 :: as)) fr_w with
  | some (some (.long v), w1) => match ex_at w1 59 with
    | some (.inr (.inr (8, _))) => match ex_run [] n 39 jm (ex_ent jm (.ref 59 :: as)) w1 with
      | some (some (.long v2), _) => decide (v = v2)
      | _ => false
    | _ => false
  | _ => false
theorem ck2L_of {jx jm : ex_M} {n : Nat} {as : List Value} (h : ck2L jx jm n as = true) : A2L jx jm as := by
  unfold ck2L at h
  split at h
  · next v w1 h1 =>
    split at h
    · next fs h2 =>
      split at h
      · next v2 w2 h3 =>
        obtain rfl : v = v2 := of_decide_eq_true h
        exact ⟨v, w1, w2, fs, Go.of h1, h2, Go.of h3⟩
      · cases h
    · cases h
  · cases h
