/-! THE MACHINE FOLLOWS THE ABSTRACT ONE, instruction by instruction. -/
/-- the good words: those that every state behind a call has too -/
def ex_tw : List Cond := lw_tbl.filter goodWord
theorem ex_tw_in {w : Cond} (h : w ∈ lw_tbl) (g : goodWord w = true) : w ∈ ex_tw := List.mem_filter.mpr ⟨h, g⟩
def ex_tys (G : ex_G) : List (ClassId × FieldType) := [(G.2.2.1 .int, .int), (G.2.2.1 .byte, .byte), (G.2.2.1 .boolean, .boolean), (G.2.2.2.1 6, .object RX6), (G.2.2.2.1 4, .object RX4)]
/-- how many slots a cell has -/
def ex_sz (x : ex_E) : Nat := match x with
  | .inl (_, l) => l.length
  | .inr (.inl (_, l)) => l.length
  | .inr (.inr (c, _)) => ex_nf c
def ex_sl (w : ex_W) : Nat := (w.map ex_sz).sum
/-- what was there before: the texts, two statics -/
def ex_J (G : ex_G) (s : State) (H : Heap) : Prop := vk_S ex_str.length (ex_str.map fun q => q.2.2.2.length) (ex_str.map fun q => q.2.2.2) (fun i => G.2.1 (2 * i + 1)) (fun i => G.2.1 (2 * i + 2)) (ex_Ar G) s H ∧ va_Z "java/lang/String" "COMPACT_STRINGS" "Z" (.int 1) (ex_Ar G) s H ∧ va_Z "jdk/internal/util/Preconditions" "SIOOBE_FORMATTER" "Ljava/util/function/BiFunction;" (ex_cv G (.float 0)) (ex_Ar G) s H ∧ ∀ (i : Nat) (q : Nat × Nat × String × List Int32), ex_str[i]? = some q → vk_R (ex_cn q.1) q.2.1 q.2.2.1 (G.2.1 (2 * i + 1)) s
theorem ex_J.warm {G : ex_G} {s U : State} {H H1 : Heap} (hW : s.WarmedH U.vm) (hq : ∀ a : Nat, a < H.size → ¬ ex_Ar G a → H1[a]? = H[a]?) (h : ex_J G s H) : ex_J G U H1 :=
  ⟨(vk_S.moved hW.alike h.1).kept hq, (va_Z.moved hW.alike h.2.1).kept hq, (va_Z.moved hW.alike h.2.2.1).kept hq, fun i q hi => vk_R.warm hW (h.2.2.2 i q hi)⟩
theorem ex_J.same {G : ex_G} {s U : State} {H : Heap} (hv : U.vm = s.vm) (ha : s.vm.Alike U.vm) (h : ex_J G s H) : ex_J G U H :=
  ⟨vk_S.moved ha h.1, va_Z.moved ha h.2.1, va_Z.moved ha h.2.2.1, fun i q hi => vk_R.same hv (h.2.2.2 i q hi)⟩
/-- what a method's frame stands on: the machine, its code, its words, the classes' numbers; the two constructors that are called by nest, the two rows of references -/
def ex_Cx (p : Program) (s : State) (m : MethodId) (args : Array Value) (meth : Method) (c : Code) (G : ex_G) (M : ex_M) (L0 : Nat) : Prop :=
  p.tables.exec = Jvm.exec ∧ c.code = M.2.2.2.2.2.2.2.2.2 ∧ c.maxLocals = M.2.2.2.2.1 ∧ s.vm.findClass (ex_cn M.2.2.1) = some m.cls ∧ (∀ w ∈ ex_tw, w.before args s = true) ∧ meth.locks = false ∧ (M.2.2.2.2.2.2.2.1 = true → meth.name = "<init>") ∧ va_K G.2.2.2.2 vwCl (ex_tys G) s ∧ (∀ d : ex_D, d.1 = 2 → ex_wd d ∈ lw_tbl → va_Nw (ex_wd d) s) ∧ (va_AO RX6 s ∧ ex_J G s s.heap) ∧ va_AO RX4 s ∧ s.heap.size = G.1 + L0
/-- the machine goes on from this abstract frame -/
def ex_K (p : Program) (l : Launch) (e : Env) (R : Room) (s : State) (m : MethodId) (args : Array Value) (below : List Frame) (meth : Method) (c : Code) (Q : State → Prop) (G : ex_G) (nL L0 S0 pc : Nat) (lo : ex_L) (st : List Value) (w : ex_W) : Prop :=
  ∀ (ls : Array Slot) (H : Heap) (locs : List Loc), ex_Lo G ls nL lo → va_P G.2.2.2.2 vwCl (ex_cw G w) H → va_S (ex_Ar G) s.heap H locs → W p l e R s m args below meth c H locs (w.length - L0) (ex_sl w - S0) Q (F0 m pc ls (st.map (ex_cv G)))
section EXW
variable {p : Program} {l : Launch} {e : Env} {R : Room} {s : State} {m : MethodId} {args : Array Value} {below : List Frame} {meth : Method} {c : Code} {Q : State → Prop} {G : ex_G} {nL L0 S0 pc : Nat} {lo : ex_L} {st : List Value} {w : ex_W} {cc : ByteArray}
variable {a : Nat} {b : ex_L} {f : List Value} {d : ex_W}
theorem xi_go {a' : Nat} {b' : ex_L} {f' : List Value} {d' : ex_W} (h : ex_go a' b' f' d' = some (.inl ((a, b, f), d))) : a = a' ∧ b = b' ∧ f = f' ∧ d = d' := by
  unfold ex_go at h
  simp only [Option.some.injEq, Sum.inl.injEq, Prod.mk.injEq] at h
  exact ⟨h.1.1.symm, h.1.2.1.symm, h.1.2.2.symm, h.2.symm⟩
theorem xi_i2 {g : Int32 → Int32 → Int32} {n : Nat} (h : ex_i2 g n lo st w = some (.inl ((a, b, f), d))) : ∃ y x r, st = .int y :: .int x :: r ∧ a = n ∧ b = lo ∧ f = .int (g x y) :: r ∧ d = w := by
  unfold ex_i2 at h
  split at h
  · obtain ⟨h1, h2, h3, h4⟩ := xi_go h
    exact ⟨_, _, _, rfl, h1, h2, h3, h4⟩
  · cases h
theorem xi_l2 {g : Int64 → Int64 → Int64} {n : Nat} (h : ex_l2 g n lo st w = some (.inl ((a, b, f), d))) : ∃ y x r, st = .long y :: .long x :: r ∧ a = n ∧ b = lo ∧ f = .long (g x y) :: r ∧ d = w := by
  unfold ex_l2 at h
  split at h
  · obtain ⟨h1, h2, h3, h4⟩ := xi_go h
    exact ⟨_, _, _, rfl, h1, h2, h3, h4⟩
  · cases h
theorem xi_d2 {g : Int32 → Int32 → Int32} {n : Nat} (h : ex_d2 g n lo st w = some (.inl ((a, b, f), d))) : ∃ y x r, st = .int y :: .int x :: r ∧ ¬ y = 0 ∧ a = n ∧ b = lo ∧ f = .int (g x y) :: r ∧ d = w := by
  unfold ex_d2 at h
  split at h
  · split at h
    · cases h
    · next h0 =>
      obtain ⟨h1, h2, h3, h4⟩ := xi_go h
      exact ⟨_, _, _, rfl, h0, h1, h2, h3, h4⟩
  · cases h
theorem xi_e2 {g : Int64 → Int64 → Int64} {n : Nat} (h : ex_e2 g n lo st w = some (.inl ((a, b, f), d))) : ∃ y x r, st = .long y :: .long x :: r ∧ ¬ y = 0 ∧ a = n ∧ b = lo ∧ f = .long (g x y) :: r ∧ d = w := by
  unfold ex_e2 at h
  split at h
  · split at h
    · cases h
    · next h0 =>
      obtain ⟨h1, h2, h3, h4⟩ := xi_go h
      exact ⟨_, _, _, rfl, h0, h1, h2, h3, h4⟩
  · cases h
theorem xi_i1 {g : Int32 → Int32} {n : Nat} (h : ex_i1 g n lo st w = some (.inl ((a, b, f), d))) : ∃ x r, st = .int x :: r ∧ a = n ∧ b = lo ∧ f = .int (g x) :: r ∧ d = w := by
  unfold ex_i1 at h
  split at h
  · obtain ⟨h1, h2, h3, h4⟩ := xi_go h
    exact ⟨_, _, rfl, h1, h2, h3, h4⟩
  · cases h
theorem xi_ls {g : Int64 → Int32 → Int64} {n : Nat} (h : ex_ls g n lo st w = some (.inl ((a, b, f), d))) : ∃ y x r, st = .int y :: .long x :: r ∧ a = n ∧ b = lo ∧ f = .long (g x y) :: r ∧ d = w := by
  unfold ex_ls at h
  split at h
  · obtain ⟨h1, h2, h3, h4⟩ := xi_go h
    exact ⟨_, _, _, rfl, h1, h2, h3, h4⟩
  · cases h
theorem xi_l2i {n : Nat} (h : ex_l2i n lo st w = some (.inl ((a, b, f), d))) : ∃ x r, st = .long x :: r ∧ a = n ∧ b = lo ∧ f = .int x.toInt32 :: r ∧ d = w := by
  unfold ex_l2i at h
  split at h
  · obtain ⟨h1, h2, h3, h4⟩ := xi_go h
    exact ⟨_, _, rfl, h1, h2, h3, h4⟩
  · cases h
theorem xi_i2l {n : Nat} (h : ex_i2l n lo st w = some (.inl ((a, b, f), d))) : ∃ x r, st = .int x :: r ∧ a = n ∧ b = lo ∧ f = .long x.toInt64 :: r ∧ d = w := by
  unfold ex_i2l at h
  split at h
  · obtain ⟨h1, h2, h3, h4⟩ := xi_go h
    exact ⟨_, _, rfl, h1, h2, h3, h4⟩
  · cases h
theorem xi_lcm {n : Nat} (h : ex_lcm n lo st w = some (.inl ((a, b, f), d))) : ∃ y x r, st = .long y :: .long x :: r ∧ a = n ∧ b = lo ∧ f = .int (lg_cmp x y) :: r ∧ d = w := by
  unfold ex_lcm at h
  split at h
  · obtain ⟨h1, h2, h3, h4⟩ := xi_go h
    exact ⟨_, _, _, rfl, h1, h2, h3, h4⟩
  · cases h
theorem xi_dup (h : ex_dup pc lo st w = some (.inl ((a, b, f), d))) : ∃ v r, st = v :: r ∧ v.category = 1 ∧ a = pc + 1 ∧ b = lo ∧ f = v :: v :: r ∧ d = w := by
  unfold ex_dup at h
  split at h
  · split at h
    · cases h
    · next h0 =>
      obtain ⟨h1, h2, h3, h4⟩ := xi_go h
      exact ⟨_, _, rfl, (lv_cat _).resolve_right (fun q => h0 ((ex_two_cat _).mpr q)), h1, h2, h3, h4⟩
  · cases h
theorem xi_pop (h : ex_pop pc lo st w = some (.inl ((a, b, f), d))) : ∃ v r, st = v :: r ∧ v.category = 1 ∧ a = pc + 1 ∧ b = lo ∧ f = r ∧ d = w := by
  unfold ex_pop at h
  split at h
  · split at h
    · cases h
    · next h0 =>
      obtain ⟨h1, h2, h3, h4⟩ := xi_go h
      exact ⟨_, _, rfl, (lv_cat _).resolve_right (fun q => h0 ((ex_two_cat _).mpr q)), h1, h2, h3, h4⟩
  · cases h
theorem xi_pop2 (h : ex_pop2 pc lo st w = some (.inl ((a, b, f), d))) : ∃ v r, st = v :: r ∧ v.category = 2 ∧ a = pc + 1 ∧ b = lo ∧ f = r ∧ d = w := by
  unfold ex_pop2 at h
  split at h
  · split at h
    · next h0 =>
      obtain ⟨h1, h2, h3, h4⟩ := xi_go h
      exact ⟨_, _, rfl, (ex_two_cat _).mp h0, h1, h2, h3, h4⟩
    · cases h
  · cases h
theorem xi_dup2 (h : ex_dup2 pc lo st w = some (.inl ((a, b, f), d))) : ∃ u v r, st = u :: v :: r ∧ u.category = 1 ∧ v.category = 1 ∧ a = pc + 1 ∧ b = lo ∧ f = u :: v :: u :: v :: r ∧ d = w := by
  unfold ex_dup2 at h
  split at h
  · split at h
    · cases h
    · next h0 =>
      obtain ⟨h1, h2, h3, h4⟩ := xi_go h
      exact ⟨_, _, _, rfl, (lv_cat _).resolve_right (fun q => h0 (Or.inl ((ex_two_cat _).mpr q))), (lv_cat _).resolve_right (fun q => h0 (Or.inr ((ex_two_cat _).mpr q))), h1, h2, h3, h4⟩
  · cases h
theorem xi_jp {off : Int} (h : ex_jp pc off lo st w = some (.inl ((a, b, f), d))) : (pc : Int) + off = (a : Int) ∧ b = lo ∧ f = st ∧ d = w := by
  unfold ex_jp at h
  split at h
  · next h0 =>
    obtain ⟨h1, h2, h3, h4⟩ := xi_go h
    refine ⟨?_, h2, h3, h4⟩
    rw [h1]
    unfold ex_tg
    exact (Int.toNat_of_nonneg h0).symm
  · cases h
theorem xi_if {q : Bool} {off : Int} (h : ex_if q pc off lo st w = some (.inl ((a, b, f), d))) : (pc : Int) + off = (ex_tg pc off : Int) ∧ ((q = true ∧ a = ex_tg pc off) ∨ (q = false ∧ a = pc + 3)) ∧ b = lo ∧ f = st ∧ d = w := by
  unfold ex_if at h
  split at h
  · next h0 =>
    refine ⟨(Int.toNat_of_nonneg h0).symm, ?_⟩
    split at h
    · obtain ⟨h1, h2, h3, h4⟩ := xi_go h
      exact ⟨Or.inl ⟨rfl, h1⟩, h2, h3, h4⟩
    · obtain ⟨h1, h2, h3, h4⟩ := xi_go h
      exact ⟨Or.inr ⟨rfl, h1⟩, h2, h3, h4⟩
  · cases h
theorem xi_b0 {cd : Jvm.ClassFile.Cond} {off : Int} (h : ex_b0 cd off pc lo st w = some (.inl ((a, b, f), d))) : ∃ x r, st = .int x :: r ∧ (pc : Int) + off = (ex_tg pc off : Int) ∧ ((ex_c0 cd x = true ∧ a = ex_tg pc off) ∨ (ex_c0 cd x = false ∧ a = pc + 3)) ∧ b = lo ∧ f = r ∧ d = w := by
  unfold ex_b0 at h
  split at h
  · exact ⟨_, _, rfl, xi_if h⟩
  · cases h
theorem xi_b2 {cd : Jvm.ClassFile.Cond} {off : Int} (h : ex_b2 cd off pc lo st w = some (.inl ((a, b, f), d))) : ∃ y x r, st = .int y :: .int x :: r ∧ (pc : Int) + off = (ex_tg pc off : Int) ∧ ((ex_c2 cd x y = true ∧ a = ex_tg pc off) ∨ (ex_c2 cd x y = false ∧ a = pc + 3)) ∧ b = lo ∧ f = r ∧ d = w := by
  unfold ex_b2 at h
  split at h
  · exact ⟨_, _, _, rfl, xi_if h⟩
  · cases h
theorem xi_tsw {dd lw hi : Int} {offs : Array Int} (h : ex_tsw dd lw hi offs pc lo st w = some (.inl ((a, b, f), d))) : ∃ x r, st = .int x :: r ∧ ((x.toInt < lw ∨ hi < x.toInt) ∧ (pc : Int) + dd = (a : Int) ∨ (¬ x.toInt < lw ∧ ¬ hi < x.toInt) ∧ ∃ off, offs[(x.toInt - lw).toNat]? = some off ∧ (pc : Int) + off = (a : Int)) ∧ b = lo ∧ f = r ∧ d = w := by
  unfold ex_tsw at h
  split at h
  · split at h
    · next h0 =>
      obtain ⟨h1, h2⟩ := xi_jp h
      exact ⟨_, _, rfl, Or.inl ⟨h0, h1⟩, h2⟩
    · next h0 =>
      split at h
      · next off ho =>
        obtain ⟨h1, h2⟩ := xi_jp h
        exact ⟨_, _, rfl, Or.inr ⟨⟨fun q => h0 (Or.inl q), fun q => h0 (Or.inr q)⟩, off, ho, h1⟩, h2⟩
      · cases h
  · cases h
theorem xi_ldI {n i : Nat} (h : ex_ldI n lo i st w = some (.inl ((a, b, f), d))) : ∃ x, ex_rd lo i = some (.int x) ∧ a = n ∧ b = lo ∧ f = .int x :: st ∧ d = w := by
  unfold ex_ldI at h
  split at h
  · next x h0 =>
    obtain ⟨h1, h2, h3, h4⟩ := xi_go h
    exact ⟨_, h0, h1, h2, h3, h4⟩
  · cases h
theorem xi_ldL {n i : Nat} (h : ex_ldL n lo i st w = some (.inl ((a, b, f), d))) : ∃ x, ex_rd lo i = some (.long x) ∧ a = n ∧ b = lo ∧ f = .long x :: st ∧ d = w := by
  unfold ex_ldL at h
  split at h
  · next x h0 =>
    obtain ⟨h1, h2, h3, h4⟩ := xi_go h
    exact ⟨_, h0, h1, h2, h3, h4⟩
  · cases h
theorem xi_ldA {n i : Nat} (h : ex_ldA n lo i st w = some (.inl ((a, b, f), d))) : ∃ v x, ex_rd lo i = some v ∧ ex_cv G v = .ref x ∧ a = n ∧ b = lo ∧ f = v :: st ∧ d = w := by
  unfold ex_ldA at h
  split at h
  · next x h0 =>
    obtain ⟨h1, h2, h3, h4⟩ := xi_go h
    exact ⟨_, _, h0, rfl, h1, h2, h3, h4⟩
  · next x h0 =>
    obtain ⟨h1, h2, h3, h4⟩ := xi_go h
    exact ⟨_, _, h0, rfl, h1, h2, h3, h4⟩
  · cases h
theorem xi_stI {n i : Nat} (h : ex_stI n lo i st w = some (.inl ((a, b, f), d))) : ∃ x r, st = .int x :: r ∧ i < lo.length ∧ a = n ∧ b = ex_wr1 lo i (.int x) ∧ f = r ∧ d = w := by
  unfold ex_stI at h
  split at h
  · split at h
    · next h0 =>
      obtain ⟨h1, h2, h3, h4⟩ := xi_go h
      exact ⟨_, _, rfl, h0, h1, h2, h3, h4⟩
    · cases h
  · cases h
theorem xi_stA {n i : Nat} (h : ex_stA n lo i st w = some (.inl ((a, b, f), d))) : ∃ x r, st = .ref x :: r ∧ i < lo.length ∧ a = n ∧ b = ex_wr1 lo i (.ref x) ∧ f = r ∧ d = w := by
  unfold ex_stA at h
  split at h
  · split at h
    · next h0 =>
      obtain ⟨h1, h2, h3, h4⟩ := xi_go h
      exact ⟨_, _, rfl, h0, h1, h2, h3, h4⟩
    · cases h
  · cases h
theorem xi_stL {n i : Nat} (h : ex_stL n lo i st w = some (.inl ((a, b, f), d))) : ∃ x r, st = .long x :: r ∧ i + 1 < lo.length ∧ a = n ∧ b = ex_wr2 lo i (.long x) ∧ f = r ∧ d = w := by
  unfold ex_stL at h
  split at h
  · split at h
    · next h0 =>
      obtain ⟨h1, h2, h3, h4⟩ := xi_go h
      exact ⟨_, _, rfl, h0, h1, h2, h3, h4⟩
    · cases h
  · cases h
theorem xi_inc {i : Nat} {n : Int} (h : ex_inc i n pc lo st w = some (.inl ((a, b, f), d))) : ∃ x, ex_rd lo i = some (.int x) ∧ a = pc + 3 ∧ b = ex_wr1 lo i (.int (x + Int32.ofInt n)) ∧ f = st ∧ d = w := by
  unfold ex_inc at h
  split at h
  · next x h0 =>
    obtain ⟨h1, h2, h3, h4⟩ := xi_go h
    exact ⟨_, h0, h1, h2, h3, h4⟩
  · cases h
/-- where the cells end: the heap holds what was there and the new cells, no more -/
theorem ex_size {H : Heap} {locs : List Loc} {g : JFrame} (hs : s.heap.size = G.1 + L0) (hL : L0 ≤ w.length) (hP : va_P G.2.2.2.2 vwCl (ex_cw G w) H) (hS : va_S (ex_Ar G) s.heap H locs)
    (k : H.size = G.1 + w.length → W p l e R s m args below meth c H locs (w.length - L0) (ex_sl w - S0) Q g) : W p l e R s m args below meth c H locs (w.length - L0) (ex_sl w - S0) Q g := by
  intro T hT X
  refine k ?_ T hT X
  have h1 := X.heapSize
  rw [hT, hs] at h1
  have h2 := hS.1
  rw [hs] at h2
  have h3 : G.1 + w.length ≤ H.size := by
    rcases Nat.eq_or_lt_of_le hL with e | e
    · omega
    · have hi : w.length - 1 < w.length := by omega
      have hx := ex_cw_get (G := G) (List.getElem?_eq_getElem hi)
      have h4 := (hP _ _ hx).lt
      have h5 : G.1 + (w.length - 1) < H.size := h4
      omega
  omega
end EXW
