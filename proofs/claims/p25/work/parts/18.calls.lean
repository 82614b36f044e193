/-! CALLS: a method's contract is what the abstract machine runs to. -/
def ex_rm (d gc gs : Nat) : Room := { frames := d + 1, cells := gc, slots := gs, locals := 200 * (d + 1) }
def ex_ws (M : ex_M) : List Cond := .code M.2.2.2.2.2.2.2.2.1 M.2.2.2.2.2.2.2.2.2 M.2.2.2.2.1 M.2.2.2.1 :: ex_tw
/-- the cells at a method's start -/
def ex_Pre (G : ex_G) (w : ex_W) (U : State) : Prop := U.heap.size = G.1 + w.length ∧ va_P G.2.2.2.2 vwCl (ex_cw G w) U.heap ∧ va_K G.2.2.2.2 vwCl (ex_tys G) U ∧ (∀ d : ex_D, d.1 = 2 → ex_wd d ∈ lw_tbl → va_Nw (ex_wd d) U) ∧ (va_AO RX6 U ∧ ex_J G U U.heap) ∧ va_AO RX4 U
/-- its end -/
def ex_Qc (G : ex_G) (r : Option Value) (w : ex_W) : Array Value → State → Outcome → State → Prop := fun _ st oc t => oc = .returned (r.map (ex_cv G)) ∧ va_P G.2.2.2.2 vwCl (ex_cw G w) t.heap ∧ va_F (ex_Ar G) st t
def ex_Met (l : Launch) (G : ex_G) (d : Nat) (M : ex_M) (as : List Value) (w : ex_W) (r : Option Value) (w' : ex_W) : Prop :=
  Met l M.2.2.2.2.2.2.2.2.1 (ex_ws M) (ex_rm d (w'.length - w.length) (ex_sl w' - ex_sl w)) (va_Pc (as.map (ex_cv G)) (ex_Pre G w)) (ex_Qc G r w') (w'.length - w.length) (ex_sl w' - ex_sl w) (ex_Ar G)
theorem ex_wd_warm {d : ex_D} (h : d.1 = 2) {s U : State} (hW : s.WarmedH U.vm) (hZ : va_Nw (ex_wd d) s) : va_Nw (ex_wd d) U := by
  obtain ⟨t, c, n, j, k⟩ := d
  cases h
  exact va_Nw.warmM hW hZ
theorem ex_wd_same {d : ex_D} (h : d.1 = 2) {u U : State} (hv : u.vm = U.vm) (hZ : va_Nw (ex_wd d) u) : va_Nw (ex_wd d) U := by
  obtain ⟨t, c, n, j, k⟩ := d
  cases h
  exact va_Nw.same rfl hv hZ
theorem ex_blind {G : ex_G} {w : ex_W} {av : List Value} : FrameBlind (va_Pc av (ex_Pre G w)) := by
  intro a U g mk q
  obtain ⟨q0, q1, q2, q3, q4, q5, q6⟩ := q
  exact ⟨q0, q1, q2, va_K.moved (u := U) (U := U.calling g mk a) (Vm.Alike.refl U.vm) q3, fun d h1 h2 => ex_wd_same h1 (rfl : U.vm = (U.calling g mk a).vm) (q4 d h1 h2), ⟨va_AO.moved (u := U) (U := U.calling g mk a) (Vm.Alike.refl U.vm) q5.1, ex_J.same (s := U) (U := U.calling g mk a) rfl (Vm.Alike.refl U.vm) q5.2⟩, va_AO.moved (u := U) (U := U.calling g mk a) (Vm.Alike.refl U.vm) q6⟩
section EXC
variable {p : Program} {l : Launch} {e : Env} {R : Room} {s : State} {m : MethodId} {args : Array Value} {below : List Frame} {meth : Method} {c : Code} {Q : State → Prop} {G : ex_G} {nL L0 S0 pc : Nat} {lo : ex_L} {st : List Value} {w : ex_W} {M : ex_M} {i : Nat} {X : List Int32} {H : Heap} {locs : List Loc}
theorem ex_pre (C : ex_Cx p s m args meth c G M L0) (hz : H.size = G.1 + w.length) (hP : va_P G.2.2.2.2 vwCl (ex_cw G w) H) (hS : va_S (ex_Ar G) s.heap H locs) (U : State) (hU : U.heap = H) (hW : s.WarmedH U.vm) : ex_Pre G w U :=
  ⟨by rw [hU]; exact hz, by rw [hU]; exact hP, va_K.moved hW.alike C.2.2.2.2.2.2.2.1, fun d h1 h2 => ex_wd_warm h1 hW (C.2.2.2.2.2.2.2.2.1 d h1 h2), ⟨va_AO.moved hW.alike C.2.2.2.2.2.2.2.2.2.1.1, ex_J.warm hW (by rw [hU]; exact hS.2.1) C.2.2.2.2.2.2.2.2.2.1.2⟩, va_AO.moved hW.alike C.2.2.2.2.2.2.2.2.2.2.1⟩
/-- behind a call -/
theorem ex_callW {ls : Array Slot} {st0 rest : List Value} {av : Array Value} {r : Option Value} {w' : ex_W} {cells slots mc ms : Nat} (hr : va_Run p l e R s m args below meth c H locs cells slots mc ms (F0 m pc ls st0) rest (ex_Qc G r w' av) (ex_Ar G)) (hS : va_S (ex_Ar G) s.heap H locs)
    (kk : ∀ (H1 : Heap) (locs1 : List Loc), va_P G.2.2.2.2 vwCl (ex_cw G w') H1 → va_S (ex_Ar G) s.heap H1 locs1 → W p l e R s m args below meth c H1 locs1 (cells + mc) (slots + ms) Q (F0 m (pc + 3) ls ((r.map (ex_cv G)).toList ++ rest))) : W p l e R s m args below meth c H locs cells slots Q (F0 m pc ls st0) := by
  intro T hT X
  obtain ⟨v, st₀, t, T', L, h0, X', hL, e1, e2, ⟨hv, hp, hz, hk⟩, stp⟩ := hr T hT X
  cases hv
  rw [h0] at hz hk
  obtain ⟨t2, a1, b1⟩ := kk T'.heap (locs ++ L) (by rw [e1]; exact hp)
    ⟨Nat.le_trans hS.1 (by rw [e1]; exact hz), fun q h1 h2 => by rw [e1, hk q (Nat.lt_of_lt_of_le h1 hS.1) h2]; exact hS.2.1 q h1 h2, fun q hq => by
      rcases List.mem_append.mp hq with h | h
      · exact hS.2.2 q h
      · exact hL q h⟩ T' rfl X'
  exact ⟨t2, stp t2 a1, b1⟩
theorem ex_good {M' : ex_M} (h : ex_gm M') : GoodIn ex_tw (ex_ws M') := by
  intro x hx
  rcases List.mem_cons.mp hx with h1 | h1
  · have h2 : x ∈ lw_tbl := by
      have := lw_in h.2.2.2.2.2.2.2
      rw [h1]
      have e := h.2.1
      have h3 : ex_wd (4, M'.1, 0, 0, 0) = .code (ex_m M'.1).2.2.2.2.2.2.2.2.1 (ex_m M'.1).2.2.2.2.2.2.2.2.2 (ex_m M'.1).2.2.2.2.1 (ex_m M'.1).2.2.2.1 := rfl
      rw [h3, ← e] at this
      exact this
    have hg : goodWord x = true := by rw [h1]; rfl
    exact ⟨ex_tw_in h2 hg, good_of_word hg⟩
  · exact ⟨h1, good_of_word (List.mem_filter.mp h1).2⟩
theorem ex_m_eq {cal : Nat} {M' : ex_M} (hM : ex_at ex_lst cal = some M') (hg : ex_gm M') (hn : M'.1 = cal) : ex_m cal = M' := by
  rw [← hn]
  exact hg.2.1.symm
end EXC
