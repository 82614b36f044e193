/-! common of the reference: the rest's size falls. -/
noncomputable def cm_k (o : Option Value) : Option Value := match o with
  | some v => if ex_two v = true then none else some v
  | none => none
theorem cm_st4 (A o1 B q3 o4 o5 o6 o7 o8 o9 : Option Value) (v : Value) : ex_wr2 [A, o1, B, q3, o4, o5, o6, o7, o8, o9] 4 v = [A, o1, B, cm_k q3, some v, none, o6, o7, o8, o9] := by
  unfold ex_wr2 ex_kill ex_rd
  cases q3 with
  | none => rfl
  | some u =>
    show ex_put (ex_put (if ex_two u = true then ex_put [A, o1, B, some u, o4, o5, o6, o7, o8, o9] 3 none else [A, o1, B, some u, o4, o5, o6, o7, o8, o9]) 5 none) 4 (some v) = [A, o1, B, (if ex_two u = true then none else some u), some v, none, o6, o7, o8, o9]
    split <;> rfl
theorem cm_stL4 (A o1 B q3 o4 o5 o6 o7 o8 o9 : Option Value) (v : Int64) {n : Nat} {r : List Value} {w : ex_W} : ex_stL n [A, o1, B, q3, o4, o5, o6, o7, o8, o9] 4 (.long v :: r) w = some (.inl ((n, [A, o1, B, cm_k q3, some (.long v), none, o6, o7, o8, o9], r), w)) := by
  unfold ex_stL
  dsimp only
  rw [if_pos (show 4 + 1 < [A, o1, B, q3, o4, o5, o6, o7, o8, o9].length from Nat.lt_of_lt_of_le (by decide : 5 < 10) (Nat.le_refl 10)), cm_st4]
  rfl
theorem cm_b0f {c : Jvm.ClassFile.Cond} {off : Int} {pc : Nat} {lo : ex_L} {x : Int32} {r : List Value} {w : ex_W} (h : ex_c0 c x = false) {h0 : 0 ≤ (pc : Int) + off} : ex_b0 c off pc lo (.int x :: r) w = some (.inl ((pc + 3, lo, r), w)) := by
  unfold ex_b0 ex_if
  simp [h, h0, ex_go]
theorem ex_stp {X : List Int32} {M : ex_M} {pc : Nat} {lo : ex_L} {st : List Value} {w : ex_W} {ins : Instr} (h : ex_g3 M.2.1 pc = some ins) : ex_step X M (pc, lo, st) w = ex_ins ins X M pc lo st w := by
  unfold ex_step
  rw [show ex_g3 M.2.1 (pc, lo, st).1 = some ins from h]
theorem cm_rem {x y : Int64} (hy : ¬ y = 0) : (x - x / y * y).toInt.natAbs < y.toInt.natAbs := by
  have h0 : ¬ y.toInt = 0 := fun h => hy (Int64.toInt_inj.mp (by rw [h]; rfl))
  have h1 : (x.toInt.tmod y.toInt).natAbs < y.toInt.natAbs := by
    rw [Int.natAbs_tmod]
    exact Nat.mod_lt _ (by omega)
  have h2 := ai_okL y
  have hw := ai_wrapL (ai_remL x y)
  have h3 : -9223372036854775808 ≤ y.toInt := h2.1
  have h4 : y.toInt ≤ 9223372036854775807 := h2.2
  rw [hw.2 ⟨by show -9223372036854775808 ≤ _; omega, by show _ ≤ 9223372036854775807; omega⟩]
  exact h1
set_option maxRecDepth 100000 in
theorem cm_loop {X : List Int32} {d : Nat} {w : ex_W} : ∀ (n : Nat) (x y : Int64) (A o1 B q3 o8 o9 : Option Value), y.toInt.natAbs < n → ¬ x = 0 → ∃ r : Int64, ¬ r = 0 ∧ Go X d mt_133 (6, [A, o1, B, q3, some (.long x), none, some (.long y), none, o8, o9], []) w (some (.long r), w) := by
  intro n
  induction n with
  | zero => intro x y A o1 B q3 o8 o9 h; omega
  | succ n ih =>
    intro x y A o1 B q3 o8 o9 h hx
    by_cases hy : y = 0
    · refine ⟨x, hx, ?_⟩
      subst hy
      refine Go.next (f' := (8, [A, o1, B, q3, some (.long x), none, some (.long 0), none, o8, o9], [.long 0])) (w' := w) ((ex_stp (ins := .lload 6) rfl).trans rfl) ?_
      refine Go.next (f' := (9, [A, o1, B, q3, some (.long x), none, some (.long 0), none, o8, o9], [.long 0, .long 0])) (w' := w) ((ex_stp (ins := .lconst 0) rfl).trans rfl) ?_
      refine Go.next (f' := (10, [A, o1, B, q3, some (.long x), none, some (.long 0), none, o8, o9], [.int 0])) (w' := w) ((ex_stp (ins := .lcmp) rfl).trans rfl) ?_
      refine Go.next (f' := (31, [A, o1, B, q3, some (.long x), none, some (.long 0), none, o8, o9], [])) (w' := w) ((ex_stp (ins := .ifCond .eq 21) rfl).trans rfl) ?_
      refine Go.next (f' := (33, [A, o1, B, q3, some (.long x), none, some (.long 0), none, o8, o9], [.long x])) (w' := w) ((ex_stp (ins := .lload 4) rfl).trans rfl) ?_
      exact Go.ret ((ex_stp (ins := .lreturn) rfl).trans rfl)
    · obtain ⟨r, hr, hg⟩ := ih y (x - x / y * y) A o1 B (cm_k q3) (some (.long (x - x / y * y))) none (by have := cm_rem (x := x) hy; omega) hy
      refine ⟨r, hr, ?_⟩
      have hc : ex_c0 .eq (lg_cmp y 0) = false := by
        have h0 : ¬ y.toInt = (0 : Int64).toInt := fun q => hy (Int64.toInt_inj.mp q)
        unfold lg_cmp
        simp only [Int64.lt_iff_toInt_lt, ← Int64.toInt_inj]
        rcases Int.lt_trichotomy y.toInt (0 : Int64).toInt with q | q | q
        · rw [if_neg (by omega), if_neg (by omega)]; rfl
        · exact absurd q h0
        · rw [if_pos q]; rfl
      refine Go.next (f' := (8, [A, o1, B, q3, some (.long x), none, some (.long y), none, o8, o9], [.long y])) (w' := w) ((ex_stp (ins := .lload 6) rfl).trans rfl) ?_
      refine Go.next (f' := (9, [A, o1, B, q3, some (.long x), none, some (.long y), none, o8, o9], [.long 0, .long y])) (w' := w) ((ex_stp (ins := .lconst 0) rfl).trans rfl) ?_
      refine Go.next (f' := (10, [A, o1, B, q3, some (.long x), none, some (.long y), none, o8, o9], [.int (lg_cmp y 0)])) (w' := w) ((ex_stp (ins := .lcmp) rfl).trans rfl) ?_
      refine Go.next (f' := (13, [A, o1, B, q3, some (.long x), none, some (.long y), none, o8, o9], [])) (w' := w) ((ex_stp (ins := .ifCond .eq 21) rfl).trans (cm_b0f (h0 := by decide) hc)) ?_
      refine Go.next (f' := (15, [A, o1, B, q3, some (.long x), none, some (.long y), none, o8, o9], [.long x])) (w' := w) ((ex_stp (ins := .lload 4) rfl).trans rfl) ?_
      refine Go.next (f' := (17, [A, o1, B, q3, some (.long x), none, some (.long y), none, o8, o9], [.long y, .long x])) (w' := w) ((ex_stp (ins := .lload 6) rfl).trans rfl) ?_
      refine Go.next (f' := (18, [A, o1, B, q3, some (.long x), none, some (.long y), none, o8, o9], [.long (x - x / y * y)])) (w' := w) ((ex_stp (ins := .lrem) rfl).trans (if_neg hy)) ?_
      refine Go.next (f' := (20, [A, o1, B, q3, some (.long x), none, some (.long y), none, some (.long (x - x / y * y)), none], [])) (w' := w) ((ex_stp (ins := .lstore 8) rfl).trans rfl) ?_
      refine Go.next (f' := (22, [A, o1, B, q3, some (.long x), none, some (.long y), none, some (.long (x - x / y * y)), none], [.long y])) (w' := w) ((ex_stp (ins := .lload 6) rfl).trans rfl) ?_
      refine Go.next (f' := (24, [A, o1, B, cm_k q3, some (.long y), none, some (.long y), none, some (.long (x - x / y * y)), none], [])) (w' := w) ((ex_stp (ins := .lstore 4) rfl).trans (cm_stL4 _ _ _ _ _ _ _ _ _ _ _)) ?_
      refine Go.next (f' := (26, [A, o1, B, cm_k q3, some (.long y), none, some (.long y), none, some (.long (x - x / y * y)), none], [.long (x - x / y * y)])) (w' := w) ((ex_stp (ins := .lload 8) rfl).trans rfl) ?_
      refine Go.next (f' := (28, [A, o1, B, cm_k q3, some (.long y), none, some (.long (x - x / y * y)), none, some (.long (x - x / y * y)), none], [])) (w' := w) ((ex_stp (ins := .lstore 6) rfl).trans rfl) ?_
      refine Go.next (f' := (6, [A, o1, B, cm_k q3, some (.long y), none, some (.long (x - x / y * y)), none, some (.long (x - x / y * y)), none], [])) (w' := w) ((ex_stp (ins := .goto (-22)) rfl).trans rfl) ?_
      exact hg
def cm_K : ai_K := (133, 0, ([], [.inl (true, (.ofNat 1, .ofNat 9223372036854775807, [])), .inr none, .inl (true, (.negSucc 9223372036854775807, .ofNat 9223372036854775807, [])), .inr none, .inr none, .inr none, .inr none, .inr none, .inr none, .inr none], [], List.replicate 76 (false, none)), [], [(some (.inl (true, (.ofNat 1, .ofNat 9223372036854775807, []))), [], []), (some (.inl (true, (.negSucc 9223372036854775807, .negSucc 0, []))), [], [])])
set_option maxRecDepth 100000 in
theorem cm_holds : ai_holds cm_K := by
  intro M hM X d hd ρ lo w H
  obtain rfl : mt_133 = M := Option.some.inj hM
  have hl : lo.length = 10 := H.2.1.1.symm
  match lo, hl, H with
  | [o0, o1, o2, o3, o4, o5, o6, o7, o8, o9], _, H =>
    obtain ⟨x0, e0, g0⟩ := H.2.1.2 0 _ rfl
    cases e0
    obtain ⟨v0, z0, rfl, n0, i0⟩ := g0
    obtain ⟨a, rfl, rfl⟩ := ai_nzL n0
    obtain ⟨x2, e2, g2⟩ := H.2.1.2 2 _ rfl
    cases e2
    obtain ⟨v2, z2, rfl, n2, i2⟩ := g2
    obtain ⟨b, rfl, rfl⟩ := ai_nzL n2
    have ha : ¬ a = 0 := by
      intro q
      have h1 : (1 : Int) ≤ a.toInt := i0.1
      rw [q] at h1
      exact absurd h1 (by decide)
    obtain ⟨r, hr, hg⟩ := cm_loop (X := X) (d := d) (w := w) (b.toInt.natAbs + 1) a b (some (.long a)) o1 (some (.long b)) (cm_k o3) o8 o9 (by omega) ha
    refine ⟨some (.long r), w, ?_, ?_⟩
    · refine Go.next (f' := (1, [some (.long a), o1, some (.long b), o3, o4, o5, o6, o7, o8, o9], [.long a])) (w' := w) ((ex_stp (ins := .lload_n 0) rfl).trans rfl) ?_
      refine Go.next (f' := (3, [some (.long a), o1, some (.long b), cm_k o3, some (.long a), none, o6, o7, o8, o9], [])) (w' := w) ((ex_stp (ins := .lstore 4) rfl).trans (cm_stL4 _ _ _ _ _ _ _ _ _ _ _)) ?_
      refine Go.next (f' := (4, [some (.long a), o1, some (.long b), cm_k o3, some (.long a), none, o6, o7, o8, o9], [.long b])) (w' := w) ((ex_stp (ins := .lload_n 2) rfl).trans rfl) ?_
      refine Go.next (f' := (6, [some (.long a), o1, some (.long b), cm_k o3, some (.long a), none, some (.long b), none, o8, o9], [])) (w' := w) ((ex_stp (ins := .lstore 6) rfl).trans rfl) ?_
      exact hg
    · have h1 := ai_okL r
      have h2 : -9223372036854775808 ≤ r.toInt := h1.1
      have h3 : r.toInt ≤ 9223372036854775807 := h1.2
      have h4 : ¬ r.toInt = 0 := fun q => hr (Int64.toInt_inj.mp (by rw [q]; rfl))
      have hw : ∀ (p : Nat) (x : ex_E), w[p]? = some x → (ai_get [] p = none → w[p]? = some x) ∧ ∀ c, ai_get [] p = some c → ai_gc ρ c x := fun p x hx => ⟨fun _ => hx, fun c hc => by cases hc⟩
      by_cases hp : 1 ≤ r.toInt
      · exact ⟨_, List.mem_cons_self, H.1, ai_gv.ofL ⟨hp, h3, ai_gr.no⟩, rfl, hw⟩
      · exact ⟨_, List.mem_cons_of_mem _ List.mem_cons_self, H.1, ai_gv.ofL ⟨h2, by show r.toInt ≤ -1; omega, ai_gr.no⟩, rfl, hw⟩
