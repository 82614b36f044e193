theorem ex_put_eq {α : Type} (x : α) (l : List α) : ∀ i : Nat, ex_put l i x = l.set i x := by
  induction l with
  | nil => intro i; rfl
  | cons a r ih =>
    intro i
    cases i with
    | zero => rfl
    | succ i => exact congrArg (fun q => a :: q) (ih i)
theorem ex_gd_eq (l : List Int32) (i : Nat) : ex_gd l i = l.getD i 0 := by
  unfold ex_gd
  rw [ex_at_eq, List.getD_eq_getElem?_getD]
  cases l[i]? <;> rfl
/-! WHAT THE ABSTRACT MACHINE'S STATES ARE OF THE MACHINE: place k is the cell base + k; 'retAddr k' stands for the k-th thing that was there before (0 the script). -/
abbrev ex_G : Type := Nat × (Nat → Nat) × (FieldType → ClassId) × (Nat → ClassId) × va_G
noncomputable def ex_cv (G : ex_G) (v : Value) : Value := match v with
  | .ref k => .ref (G.1 + k)
  | .retAddr k => .ref (G.2.1 k)
  | .int x => .int x
  | .long x => .long x
  | .float _ => (match G.2.1 25 with | 0 => .null | t + 1 => .ref t)
  | .double x => .double x
  | .null => .null
noncomputable def ex_ce (G : ex_G) (x : ex_E) : va_E := match x with
  | .inl (ty, l) => .inl (G.2.2.1 ty, l.length, .inl (fun j => l.getD j 0))
  | .inr (.inl (ci, l)) => .inl (G.2.2.2.1 ci, l.length, .inr (.inr (.inr (.inr (fun j => (l.getD j none).map (fun k => G.1 + k))))))
  | .inr (.inr (ci, fs)) => .inr (ci, fs.map (ex_cv G))
noncomputable def ex_cw (G : ex_G) (w : ex_W) : va_W := w.mapIdx (fun k x => (G.1 + k, ex_ce G x))
theorem ex_cw_get {G : ex_G} {w : ex_W} {k : Nat} {x : ex_E} (h : w[k]? = some x) : (ex_cw G w)[k]? = some (G.1 + k, ex_ce G x) := by
  unfold ex_cw
  rw [List.getElem?_mapIdx, h]
  rfl
theorem ex_cw_set {G : ex_G} {w : ex_W} {k : Nat} {x : ex_E} : (ex_cw G w).set k (G.1 + k, ex_ce G x) = ex_cw G (w.set k x) := by
  unfold ex_cw
  apply List.ext_getElem?
  intro i
  rw [List.getElem?_mapIdx, List.getElem?_set, List.getElem?_set, List.getElem?_mapIdx, List.length_mapIdx]
  by_cases h : k = i
  · subst h
    by_cases h2 : k < w.length
    · simp [h2]
    · simp [h2]
  · simp [h]
theorem ex_cw_app {G : ex_G} {w : ex_W} {x : ex_E} : ex_cw G (w ++ [x]) = ex_cw G w ++ [(G.1 + w.length, ex_ce G x)] := by
  unfold ex_cw
  rw [List.mapIdx_append]
  simp
def ex_Ar (G : ex_G) : Nat → Prop := fun q => G.1 ≤ q
theorem ex_Da {G : ex_G} {w : ex_W} : va_D (ex_Ar G) (ex_cw G w) := by
  refine ⟨fun i j a b ha hb hab => ?_, fun k q hk => ?_⟩
  · unfold ex_cw at ha hb
    rw [List.getElem?_mapIdx] at ha hb
    cases h1 : w[i]? with
    | none => rw [h1] at ha; cases ha
    | some x =>
      cases h2 : w[j]? with
      | none => rw [h2] at hb; cases hb
      | some y =>
        rw [h1] at ha; rw [h2] at hb
        cases ha; cases hb
        exact Nat.add_left_cancel hab
  · unfold ex_cw at hk
    rw [List.getElem?_mapIdx] at hk
    cases h1 : w[k]? with
    | none => rw [h1] at hk; cases hk
    | some x => rw [h1] at hk; cases hk; exact Nat.le_add_right _ _
theorem ex_cat (G : ex_G) (v : Value) : (ex_cv G v).category = v.category := by
  cases v
  case float x =>
    show (match G.2.1 25 with | 0 => Value.null | t + 1 => .ref t).category = 1
    split <;> rfl
  all_goals rfl
theorem ex_two_cat (v : Value) : (ex_two v = true) ↔ v.category = 2 := by cases v <;> simp [ex_two, Value.category]
theorem ex_cats_cv (G : ex_G) (st : List Value) : ((st.map (ex_cv G)).map fun v => v.category).sum = ex_cats st := by
  unfold ex_cats
  rw [List.map_map]
  congr 1
  apply List.map_congr_left
  intro v _
  exact ex_cat G v
/-- the locals -/
def ex_Lo (G : ex_G) (ls : Array Slot) (nL : Nat) (lo : ex_L) : Prop := lo.length = nL ∧ ls.size = nL ∧ lv_wf ls ∧ ∀ (i : Nat) (v : Value), ex_rd lo i = some v → ls[i]? = some (.val (ex_cv G v))
theorem ex_rd_some {lo : ex_L} {i : Nat} {v : Value} : ex_rd lo i = some v ↔ lo[i]? = some (some v) := by
  unfold ex_rd
  rw [ex_at_eq]
  cases h : lo[i]? with
  | none => simp
  | some x => cases x <;> simp
/-- the listed pairs of the kit's rows -/
noncomputable def ex_as (G : ex_G) (lo : ex_L) : List (Nat × Value) := (lo.zipIdx.filterMap (fun q => q.1.map (fun v => (q.2, ex_cv G v))))
theorem ex_as_mem {G : ex_G} {lo : ex_L} {q : Nat × Value} : q ∈ ex_as G lo ↔ ∃ v, ex_rd lo q.1 = some v ∧ q.2 = ex_cv G v := by
  unfold ex_as
  rw [List.mem_filterMap]
  constructor
  · rintro ⟨⟨o, i⟩, h1, h2⟩
    rw [List.mem_zipIdx_iff_getElem?] at h1
    cases o with
    | none => simp at h2
    | some v =>
      simp at h2
      subst h2
      exact ⟨v, ex_rd_some.mpr (by simpa using h1), rfl⟩
  · rintro ⟨v, h1, h2⟩
    refine ⟨(some v, q.1), ?_, ?_⟩
    · rw [List.mem_zipIdx_iff_getElem?]
      simpa using ex_rd_some.mp h1
    · simp [← h2]
theorem ex_Lo_has {G : ex_G} {ls : Array Slot} {nL : Nat} {lo : ex_L} (h : ex_Lo G ls nL lo) : lv_has ls nL (ex_as G lo) := by
  refine ⟨h.2.1, h.2.2.1, fun q hq => ?_⟩
  obtain ⟨v, h1, h2⟩ := ex_as_mem.mp hq
  rw [h2]
  exact h.2.2.2 _ _ h1
theorem ex_Lo_of {G : ex_G} {ls : Array Slot} {nL : Nat} {lo : ex_L} {lv : List (Nat × Value)} (hn : lo.length = nL) (h : lv_has ls nL lv) (hs : ∀ (i : Nat) (v : Value), ex_rd lo i = some v → (i, ex_cv G v) ∈ lv) : ex_Lo G ls nL lo :=
  ⟨hn, h.1, h.2.1, fun i v hv => h.2.2 (i, ex_cv G v) (hs i v hv)⟩
theorem ex_kill_len (lo : ex_L) (i : Nat) : (ex_kill lo i).length = lo.length := by
  unfold ex_kill
  split
  · rfl
  · split
    · split <;> simp [ex_put_eq]
    · rfl
theorem ex_wr1_len (lo : ex_L) (i : Nat) (v : Value) : (ex_wr1 lo i v).length = lo.length := by simp [ex_wr1, ex_put_eq, ex_kill_len]
theorem ex_wr2_len (lo : ex_L) (i : Nat) (v : Value) : (ex_wr2 lo i v).length = lo.length := by simp [ex_wr2, ex_put_eq, ex_kill_len]
theorem ex_kill_rd {lo : ex_L} {i k : Nat} {v : Value} (h : ex_rd (ex_kill lo i) k = some v) : ex_rd lo k = some v ∧ ¬ (k + 1 = i ∧ v.category = 2) := by
  unfold ex_kill at h
  cases i with
  | zero => exact ⟨h, fun q => by omega⟩
  | succ i =>
    simp only at h
    cases hr : ex_rd lo i with
    | none =>
      rw [hr] at h
      refine ⟨h, fun q => ?_⟩
      have : k = i := by omega
      subst this
      rw [hr] at h
      cases h
    | some u =>
      rw [hr] at h
      simp only at h
      by_cases h2 : ex_two u = true
      · rw [if_pos h2] at h
        rw [ex_rd_some, ex_put_eq, List.getElem?_set] at h
        by_cases hk : i = k
        · subst hk
          by_cases hl : i < lo.length
          · simp [hl] at h
          · simp [hl] at h
        · rw [if_neg hk] at h
          exact ⟨ex_rd_some.mpr h, fun q => hk (by omega)⟩
      · rw [if_neg h2] at h
        refine ⟨h, fun q => ?_⟩
        have : k = i := by omega
        subst this
        rw [hr] at h
        cases h
        exact h2 ((ex_two_cat _).mpr q.2)
/-- a value of one slot is kept -/
theorem ex_Lo_wr1 {G : ex_G} {ls : Array Slot} {nL i : Nat} {lo : ex_L} {v : Value} (hn : lo.length = nL) (h : lv_has ls nL ((i, ex_cv G v) :: (ex_as G lo).filter (fun q => !(q.1 == i) && !(q.1 + 1 == i && q.2.category == 2)))) : ex_Lo G ls nL (ex_wr1 lo i v) := by
  refine ex_Lo_of (by rw [ex_wr1_len]; exact hn) h fun k u hu => ?_
  unfold ex_wr1 at hu
  rw [ex_rd_some, ex_put_eq, List.getElem?_set] at hu
  by_cases hk : i = k
  · subst hk
    by_cases hl : i < (ex_kill lo i).length
    · simp [hl] at hu
      subst hu
      exact List.mem_cons_self
    · simp [hl] at hu
  · rw [if_neg hk] at hu
    obtain ⟨h1, h2⟩ := ex_kill_rd (ex_rd_some.mpr hu)
    refine List.mem_cons_of_mem _ (List.mem_filter.mpr ⟨ex_as_mem.mpr ⟨u, h1, rfl⟩, ?_⟩)
    have h3 : ¬ k = i := fun q => hk q.symm
    simp only [ex_cat]
    by_cases h4 : k + 1 = i
    · have h5 : ¬ u.category = 2 := fun q => h2 ⟨h4, q⟩
      simp [h3, h4, h5]
    · simp [h3, h4]
/-- a long is kept -/
theorem ex_Lo_wr2 {G : ex_G} {ls : Array Slot} {nL i : Nat} {lo : ex_L} {v : Value} (hn : lo.length = nL) (h : lv_has ls nL ((i, ex_cv G v) :: (ex_as G lo).filter (fun q => !(q.1 == i) && (!(q.1 == i + 1) && !(q.1 + 1 == i && q.2.category == 2))))) : ex_Lo G ls nL (ex_wr2 lo i v) := by
  refine ex_Lo_of (by rw [ex_wr2_len]; exact hn) h fun k u hu => ?_
  unfold ex_wr2 at hu
  rw [ex_rd_some, ex_put_eq, ex_put_eq, List.getElem?_set] at hu
  by_cases hk : i = k
  · subst hk
    simp at hu
    obtain ⟨_, rfl⟩ := hu
    exact List.mem_cons_self
  · rw [if_neg hk, List.getElem?_set] at hu
    by_cases hk2 : i + 1 = k
    · subst hk2
      by_cases hl : i + 1 < (ex_kill lo i).length
      · simp [hl] at hu
      · simp [hl] at hu
    · rw [if_neg hk2] at hu
      obtain ⟨h1, h2⟩ := ex_kill_rd (ex_rd_some.mpr hu)
      refine List.mem_cons_of_mem _ (List.mem_filter.mpr ⟨ex_as_mem.mpr ⟨u, h1, rfl⟩, ?_⟩)
      have h3 : ¬ k = i := fun q => hk q.symm
      have h6 : ¬ k = i + 1 := fun q => hk2 q.symm
      simp only [ex_cat]
      by_cases h4 : k + 1 = i
      · have h5 : ¬ u.category = 2 := fun q => h2 ⟨h4, q⟩
        simp [h3, h4, h5, h6]
      · simp [h3, h4, h6]
