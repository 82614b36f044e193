/-! Arrays.fill of ints: the first loop over the abstract machine. -/
theorem ex_ast_i {pc a i : Nat} {lo : ex_L} {r : List Value} {x : Int32} {l : List Int32} {w : ex_W} (h : ex_at w a = some (.inl (.int, l))) (hi : i < l.length) (hn : l.length < 2 ^ 31) : ex_ast false pc lo (.int x :: .int (nI i) :: .ref a :: r) w = some (.inl ((pc + 1, lo, r), ex_put w a (.inl (.int, ex_put l i x)))) := by
  unfold ex_ast
  simp only [h]
  rw [if_pos ⟨by decide, by unfold ex_ix; exact decide_eq_true (nI_in hi hn)⟩, nI_clamp (by omega)]
  rfl
theorem ex_aln_i {X : List Int32} {b : Bool} {pc a : Nat} {lo : ex_L} {r : List Value} {l : List Int32} {w : ex_W} (h : ex_at w a = some (.inl (.int, l))) : ex_aln X b pc lo (.ref a :: r) w = some (.inl ((pc + 1, lo, .int (Int32.ofNat l.length) :: r), w)) := by
  unfold ex_aln
  simp only [h]
  rw [if_pos (Or.inl trivial)]
  rfl
theorem ex_put_put {α : Type} (l : List α) (i : Nat) (x y : α) : ex_put (ex_put l i x) i y = ex_put l i y := by
  rw [ex_put_eq, ex_put_eq, ex_put_eq, List.set_set]
theorem ex_put_at {α : Type} {l : List α} {i : Nat} {x : α} (h : i < l.length) : ex_at (ex_put l i x) i = some x := by
  rw [ex_at_eq, ex_put_eq, List.getElem?_set]
  simp [h]
theorem ex_at_lt {α : Type} {l : List α} {i : Nat} {x : α} (h : ex_at l i = some x) : i < l.length := by
  rw [ex_at_eq] at h
  exact (List.getElem?_eq_some_iff.mp h).1
theorem ex_fillp {l : List Int32} {v : Int32} {i : Nat} (h : i < l.length) : ex_put (List.replicate i v ++ l.drop i) i v = List.replicate (i + 1) v ++ l.drop (i + 1) := by
  rw [ex_put_eq]
  apply List.ext_getElem?
  intro j
  rw [List.getElem?_set]
  by_cases hj : i = j
  · subst hj
    have h1 : i < (List.replicate i v ++ l.drop i).length := by simp; omega
    rw [if_pos rfl, if_pos h1, List.getElem?_append_left (by simp), List.getElem?_replicate, if_pos (by omega)]
  · by_cases hk : j < i
    · simp [hj, List.getElem?_append, hk, List.getElem?_replicate, show j < i + 1 by omega]
    · have h2 : ¬ j < i + 1 := by omega
      simp [hj, List.getElem?_append, hk, h2, List.getElem?_drop]
      congr 1
      omega
set_option maxRecDepth 100000 in
theorem go_fill {X : List Int32} {d a : Nat} {v : Int32} {l : List Int32} {w : ex_W} (ha : ex_at w a = some (.inl (.int, l))) (hl : l.length < 2 ^ 31) : Go X d mt_162 (ex_ent mt_162 [.ref a, .int v]) w (none, ex_put w a (.inl (.int, List.replicate l.length v))) := by
  have hal := ex_at_lt ha
  have loop : ∀ (k i : Nat), i + k = l.length → Go X d mt_162 (5, [some (.ref a), some (.int v), some (.int (nI i)), some (.int (nI l.length))], []) (ex_put w a (.inl (.int, List.replicate i v ++ l.drop i))) (none, ex_put w a (.inl (.int, List.replicate l.length v))) := by
    intro k
    induction k with
    | zero =>
      intro i hi
      have e : i = l.length := by omega
      subst e
      refine Go.next (f' := (6, [some (.ref a), some (.int v), some (.int (nI l.length)), some (.int (nI l.length))], [.int (nI l.length)])) (w' := _) ((ex_stp (ins := .iload_n 2) rfl).trans rfl) ?_
      refine Go.next (f' := (7, [some (.ref a), some (.int v), some (.int (nI l.length)), some (.int (nI l.length))], [.int (nI l.length), .int (nI l.length)])) (w' := _) ((ex_stp (ins := .iload_n 3) rfl).trans rfl) ?_
      refine Go.next (f' := (20, [some (.ref a), some (.int v), some (.int (nI l.length)), some (.int (nI l.length))], [])) (w' := _) ((ex_stp (ins := .if_icmp .ge 13) rfl).trans (ex_b2_t (c := .ge) (off := 13) (pc := 7) (r := []) (by rw [c2_ge]; exact decide_eq_true (Int.le_refl _)) (by decide))) ?_
      rw [List.drop_length, List.append_nil]
      exact Go.ret ((ex_stp (ins := .return_) rfl).trans rfl)
    | succ k ih =>
      intro i hi
      have hlt : i < l.length := by omega
      refine Go.next (f' := (6, [some (.ref a), some (.int v), some (.int (nI i)), some (.int (nI l.length))], [.int (nI i)])) (w' := _) ((ex_stp (ins := .iload_n 2) rfl).trans rfl) ?_
      refine Go.next (f' := (7, [some (.ref a), some (.int v), some (.int (nI i)), some (.int (nI l.length))], [.int (nI l.length), .int (nI i)])) (w' := _) ((ex_stp (ins := .iload_n 3) rfl).trans rfl) ?_
      refine Go.next (f' := (10, [some (.ref a), some (.int v), some (.int (nI i)), some (.int (nI l.length))], [])) (w' := _) ((ex_stp (ins := .if_icmp .ge 13) rfl).trans (ex_b2_f (c := .ge) (off := 13) (pc := 7) (r := []) (by rw [c2_ge]; exact decide_eq_false (by rw [nI_toInt hl, nI_toInt (by omega)]; omega)) (by decide))) ?_
      refine Go.next (f' := (11, [some (.ref a), some (.int v), some (.int (nI i)), some (.int (nI l.length))], [.ref a])) (w' := _) ((ex_stp (ins := .aload_n 0) rfl).trans rfl) ?_
      refine Go.next (f' := (12, [some (.ref a), some (.int v), some (.int (nI i)), some (.int (nI l.length))], [.int (nI i), .ref a])) (w' := _) ((ex_stp (ins := .iload_n 2) rfl).trans rfl) ?_
      refine Go.next (f' := (13, [some (.ref a), some (.int v), some (.int (nI i)), some (.int (nI l.length))], [.int v, .int (nI i), .ref a])) (w' := _) ((ex_stp (ins := .iload_n 1) rfl).trans rfl) ?_
      refine Go.next (f' := (14, [some (.ref a), some (.int v), some (.int (nI i)), some (.int (nI l.length))], [])) (w' := _) ((ex_stp (ins := .iastore) rfl).trans (ex_ast_i (ex_put_at hal) (by simp; omega) (by simp; omega))) ?_
      rw [ex_put_put, ex_fillp hlt]
      refine Go.next (f' := (17, [some (.ref a), some (.int v), some (.int (nI (i + 1))), some (.int (nI l.length))], [])) (w' := _) ((ex_stp (ins := .iinc 2 1) rfl).trans (by rw [nI_succ]; rfl)) ?_
      refine Go.next (f' := (5, [some (.ref a), some (.int v), some (.int (nI (i + 1))), some (.int (nI l.length))], [])) (w' := _) ((ex_stp (ins := .goto (-12)) rfl).trans rfl) ?_
      exact ih (i + 1) (by omega)
  refine Go.next (f' := (1, [some (.ref a), some (.int v), none, none], [.int 0])) (w' := w) ((ex_stp (ins := .iconst 0) rfl).trans rfl) ?_
  refine Go.next (f' := (2, [some (.ref a), some (.int v), some (.int 0), none], [])) (w' := w) ((ex_stp (ins := .istore_n 2) rfl).trans rfl) ?_
  refine Go.next (f' := (3, [some (.ref a), some (.int v), some (.int 0), none], [.ref a])) (w' := w) ((ex_stp (ins := .aload_n 0) rfl).trans rfl) ?_
  refine Go.next (f' := (4, [some (.ref a), some (.int v), some (.int 0), none], [.int (nI l.length)])) (w' := w) ((ex_stp (ins := .arraylength) rfl).trans (ex_aln_i (X := X) (b := Nat.beq mt_162.1 0) (pc := 3) (lo := [some (.ref a), some (.int v), some (.int 0), none]) (r := []) ha)) ?_
  refine Go.next (f' := (5, [some (.ref a), some (.int v), some (.int 0), some (.int (nI l.length))], [])) (w' := w) ((ex_stp (ins := .istore_n 3) rfl).trans rfl) ?_
  have h0 := loop l.length 0 (by omega)
  rw [List.replicate_zero, List.drop_zero, List.nil_append] at h0
  have e : ex_put w a (.inl (.int, l)) = w := by
    rw [ex_put_eq]
    apply List.ext_getElem?
    intro j
    rw [List.getElem?_set]
    by_cases hj : a = j
    · subst hj
      rw [if_pos rfl, if_pos hal, ← ex_at_eq, ha]
    · rw [if_neg hj]
  rw [e] at h0
  exact h0
