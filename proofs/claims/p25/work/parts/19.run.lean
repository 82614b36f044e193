/-! THE MACHINE RUNS TO WHAT THE ABSTRACT ONE RUNS TO. -/
set_option maxRecDepth 100000 in
theorem ex_nums : (List.range ex_lst.length).all (fun j => Option.rec (motive := fun _ => Bool) false (fun M => Nat.beq M.1 j) (ex_at ex_lst j)) = true := by decide +kernel
theorem ex_num {j : Nat} {M : ex_M} (h : ex_at ex_lst j = some M) : M.1 = j ∧ M ∈ ex_lst := by
  have h1 : ex_lst[j]? = some M := by rw [← ex_at_eq]; exact h
  have h2 := List.all_eq_true.mp ex_nums j (List.mem_range.mpr (List.getElem?_eq_some_iff.mp h1).1)
  rw [h] at h2
  exact ⟨Nat.eq_of_beq_eq_true h2, List.mem_of_getElem? h1⟩
theorem ex_np_t {j n : Nat} {M : ex_M} (h : ex_at ex_lst j = some M) (hn : ex_g3 ex_np j = some (n, true)) : (parseMethodDescriptor M.2.2.2.2.2.2.2.2.1.desc).map (fun d => d.parameters.length) = some (n - 1) := by
  obtain ⟨h1, h2⟩ := ex_num h
  obtain ⟨n', b', h3, h4⟩ := ex_nps M h2
  rw [h1, hn] at h3
  cases h3
  exact h4
theorem ex_np_f {j n : Nat} {M : ex_M} (h : ex_at ex_lst j = some M) (hn : ex_g3 ex_np j = some (n, false)) : (parseMethodDescriptor M.2.2.2.2.2.2.2.2.1.desc).map (fun d => d.parameters.length) = some n := by
  obtain ⟨h1, h2⟩ := ex_num h
  obtain ⟨n', b', h3, h4⟩ := ex_nps M h2
  rw [h1, hn] at h3
  cases h3
  exact h4
theorem ex_stk {G : ex_G} {st tl : List Value} {n a : Nat} (h : (st.take n).reverse = .ref a :: tl) : st.map (ex_cv G) = (tl.map (ex_cv G)).reverse ++ .ref (G.1 + a) :: (st.drop n).map (ex_cv G) := by
  have h1 : st.take n = (.ref a :: tl).reverse := by rw [← h, List.reverse_reverse]
  have h2 : st.map (ex_cv G) = (st.take n ++ st.drop n).map (ex_cv G) := by rw [List.take_append_drop]
  rw [h2, h1]
  simp [ex_cv]
theorem ex_stkR {G : ex_G} {st tl : List Value} {n a : Nat} (h : (st.take n).reverse = .retAddr a :: tl) : st.map (ex_cv G) = (tl.map (ex_cv G)).reverse ++ .ref (G.2.1 a) :: (st.drop n).map (ex_cv G) := by
  have h1 : st.take n = (.retAddr a :: tl).reverse := by rw [← h, List.reverse_reverse]
  have h2 : st.map (ex_cv G) = (st.take n ++ st.drop n).map (ex_cv G) := by rw [List.take_append_drop]
  rw [h2, h1]
  simp [ex_cv]
theorem ex_stkS {G : ex_G} {st : List Value} {n : Nat} : st.map (ex_cv G) = (((st.take n).reverse).map (ex_cv G)).reverse ++ (st.drop n).map (ex_cv G) := by
  have h2 : st.map (ex_cv G) = (st.take n ++ st.drop n).map (ex_cv G) := by rw [List.take_append_drop]
  rw [h2]
  simp
theorem ex_toL {G : ex_G} (r : Option Value) (st : List Value) : (r.map (ex_cv G)).toList ++ st.map (ex_cv G) = (r.toList ++ st).map (ex_cv G) := by
  cases r <;> simp
theorem ex_tl {st tl : List Value} {n : Nat} {v : Value} (h : (st.take n).reverse = v :: tl) (hn : n ≤ st.length) : tl.length = n - 1 := by
  have h1 := congrArg List.length h
  rw [List.length_reverse, List.length_take] at h1
  simp at h1
  omega
/-- calls on a text are String's own -/
noncomputable def ex_rcB (c n : Nat) (q : Nat × Nat × Nat × Nat × Nat × Nat × Nat) : Bool := decide (q.2.2.2.1 = 100 → (ex_m q.1).2.2.1 = 12)
set_option maxRecDepth 100000 in
theorem ex_rc_ck : ex_allA ex_cal_all ex_rcB = true := by decide +kernel
section EXQ
variable {p : Program} {l : Launch} {e : Env} {R : Room} {s : State} {m : MethodId} {args : Array Value} {below : List Frame} {meth : Method} {c : Code} {Q : State → Prop} {G : ex_G} {nL L0 S0 pc : Nat} {lo : ex_L} {st : List Value} {w : ex_W} {M : ex_M} {i : Nat} {X : List Int32}
theorem xw_call {kd cal d' : Nat} {as : List Value} {g : ex_F} {M' : ex_M} {r : Option Value} {w' : ex_W} (C : ex_Cx p s m args meth c G M L0) (hnL : nL = M.2.2.2.2.1) (hL : L0 ≤ w.length) (hS0 : S0 ≤ ex_sl w) (hdg : decode M.2.2.2.2.2.2.2.2.2 pc = .ok (ex_ivI kd i, 3)) (h : ex_cl kd (ex_cal M.2.2.1 i) pc lo st w = some (.inr (.inl (cal, as, g)))) (hM' : ex_at ex_lst cal = some M') (hgm : ex_gm M') (hMet : ex_Met l G d' M' as w r w') (hle : ex_le w w') (hR : w'.length - L0 ≤ R.cells ∧ ex_sl w' - S0 ≤ R.slots) (hRf : d' + 2 ≤ R.frames ∧ 200 * (d' + 2) ≤ R.locals)
    (k : ex_K p l e R s m args below meth c Q G nL L0 S0 g.1 g.2.1 (r.toList ++ g.2.2) w') : ex_K p l e R s m args below meth c Q G nL L0 S0 pc lo st w := by
  have hcp := ex_cps M'.2.2.1 hgm.2.2.2.2.2.2.1
  rw [← hgm.2.2.1] at hcp
  have hroom : (ex_rm d' (w'.length - w.length) (ex_sl w' - ex_sl w)).frames + 1 ≤ R.frames ∧ 8 + (M'.2.2.2.2.1 + 11) + (ex_rm d' (w'.length - w.length) (ex_sl w' - ex_sl w)).locals ≤ R.locals := by
    have hmx : M'.2.2.2.2.1 ≤ 20 := hgm.2.2.2.2.1
    refine ⟨?_, ?_⟩
    · show d' + 1 + 1 ≤ _
      exact hRf.1
    · show 8 + (M'.2.2.2.2.1 + 11) + 200 * (d' + 1) ≤ _
      have := hRf.2
      omega
  have hini : Cond.initialized M'.2.2.2.2.2.2.2.2.1.cls ∈ lw_tbl := by
    have := lw_in hcp.2.2.2
    rw [hgm.2.2.1]
    exact this
  have hcl1 := hle.1
  have hcl2 := hle.2
  have hcell : w.length - L0 + (w'.length - w.length) = w'.length - L0 := by omega
  have hslot : ex_sl w - S0 + (ex_sl w' - ex_sl w) = ex_sl w' - S0 := by omega
  have hfit : w.length - L0 + (w'.length - w.length) ≤ R.cells ∧ ex_sl w - S0 + (ex_sl w' - ex_sl w) ≤ R.slots := by rw [hcell, hslot]; exact hR
  unfold ex_cl at h
  split at h
  · next cal0 n0 k0 rc p1 p2 p3 hf =>
    have hck := ex_allA_of ex_cal_ck hf
    unfold ex_calB at hck
    split at h
    · next hc0 =>
      obtain ⟨rfl, hn0, hcat⟩ := hc0
      split at h
      · -- of an object
        split at h
        · next a tl has =>
          split at h
          · next c' fs hw =>
            split at h
            · next hrc =>
              subst hrc
              cases h
              simp only [Bool.and_eq_true, decide_eq_true_eq] at hck
              obtain ⟨-, -, h1, h2, h3, h4, h5⟩ := hck
              have em := ex_m_eq hM' hgm (ex_num hM').1
              have g1 : Cond.methodLink (ex_cn M.2.2.1) i M'.2.2.2.2.2.2.2.2.1 ∈ lw_tbl := by have := lw_in h1; rw [← em]; exact this
              have g2 : Cond.instanceMethod M'.2.2.2.2.2.2.2.2.1 ∈ lw_tbl := by have := lw_in h2; rw [← em]; exact this
              have g3 : Cond.selects M'.2.2.2.2.2.2.2.2.1.cls M'.2.2.2.2.2.2.2.2.1 M'.2.2.2.2.2.2.2.2.1 ∈ lw_tbl := by have := lw_in h3; rw [← em]; exact this
              rw [has] at hMet
              have hnp := ex_np_t hM' h5
              intro ls H locs hl hP hS
              refine ex_size C.2.2.2.2.2.2.2.2.2.2.2 hL hP hS fun hz => ?_
              have hw := ex_lg hw
              have hoc : M'.2.2.2.2.2.2.1 < 9 := by
                have h9 : c' < 9 := by
                  obtain ⟨q, hq1, -⟩ := hP a _ (ex_cw_get hw)
                  exact (List.getElem?_eq_some_iff.mp hq1).1
                rw [← em, h4 h9]
                exact h9
              have h9 : c' < 9 := by
                obtain ⟨q, hq1, -⟩ := hP a _ (ex_cw_get hw)
                exact (List.getElem?_eq_some_iff.mp hq1).1
              have hcls : ex_on c' = M'.2.2.2.2.2.2.2.2.1.cls := by
                rw [hgm.2.2.1, hgm.2.2.2.2.2.1 hoc, ← em, h4 h9]
              have hgood : GoodIn ex_tw (wsV (ex_cn M.2.2.1) i M'.2.2.2.2.2.2.2.2.1.cls M'.2.2.2.2.2.2.2.2.1 (ex_ws M')) := by
                intro x hx
                unfold wsV at hx
                rcases List.mem_append.mp hx with hx | hx
                · simp only [List.mem_cons, List.not_mem_nil, or_false] at hx
                  rcases hx with rfl | rfl | rfl | rfl
                  · exact ⟨ex_tw_in g1 rfl, good_of_word rfl⟩
                  · exact ⟨ex_tw_in g2 rfl, good_of_word rfl⟩
                  · exact ⟨ex_tw_in g3 rfl, good_of_word rfl⟩
                  · exact ⟨ex_tw_in hini rfl, good_of_word rfl⟩
                · exact ex_good hgm x hx
              have cw := cwV (R := R) (s := s) (args := args) (rm := ex_rm d' (w'.length - w.length) (ex_sl w' - ex_sl w)) (n0 - 1) C.2.2.2.2.1 hgood rfl rfl rfl ⟨rfl, hcp.2.1, hcp.2.2.1, hnp⟩ hroom
              have hrec := va_recv C.2.2.2.2.2.2.2.1 hP (ex_cxs c' h9).1 (ex_cw_get hw)
              have hrec : ∃ cellB : Cell, H[G.1 + a]? = some cellB ∧ cellB.vm.isStatics = false ∧ s.vm.findClass M'.2.2.2.2.2.2.2.2.1.cls = some cellB.cls := by rw [← hcls]; exact hrec
              have run := va_runV (H := H) (locs := locs) (cells := w.length - L0) (slots := ex_sl w - S0) (below := below) (meth := meth) (e := e) (b := G.1 + a) (As := tl.map (ex_cv G)) (rest := (st.drop n0).map (ex_cv G)) (g := F0 m pc ls (st.map (ex_cv G))) ⟨C.1, C.2.1, C.2.2.1, C.2.2.2.1, C.2.2.2.2.1⟩ hMet cw ⟨ex_blind, hrec, fun U hU hW => ⟨rfl, ex_pre C hz hP hS U hU hW⟩⟩ rfl (by rw [List.length_map]; exact ex_tl has hn0) (by rw [← hnL]; exact hl.2.1) (ex_stk has) (lv_room (by rw [ex_cats_cv]; exact hcat)) hdg hfit
              refine ex_callW run hS fun H1 locs1 z1 z3 => ?_
              have kk := k ls H1 locs1 hl z1 z3
              rw [hcell, hslot, ex_toL]
              exact kk
            · cases h
          · cases h
        · next a tl has =>
          split at h
          · next hrc =>
            obtain ⟨rfl, hsk⟩ := hrc
            cases h
            simp only [Bool.and_eq_true, decide_eq_true_eq] at hck
            obtain ⟨-, -, h1, h2, h3, h4, h5⟩ := hck
            have em := ex_m_eq hM' hgm (ex_num hM').1
            have g1 : Cond.methodLink (ex_cn M.2.2.1) i M'.2.2.2.2.2.2.2.2.1 ∈ lw_tbl := by have := lw_in h1; rw [← em]; exact this
            have g2 : Cond.instanceMethod M'.2.2.2.2.2.2.2.2.1 ∈ lw_tbl := by have := lw_in h2; rw [← em]; exact this
            have g3 : Cond.selects M'.2.2.2.2.2.2.2.2.1.cls M'.2.2.2.2.2.2.2.2.1 M'.2.2.2.2.2.2.2.2.1 ∈ lw_tbl := by have := lw_in h3; rw [← em]; exact this
            rw [has] at hMet
            have hnp := ex_np_t hM' h5
            intro ls H locs hl hP hS
            refine ex_size C.2.2.2.2.2.2.2.2.2.2.2 hL hP hS fun hz => ?_
            have hcls : M'.2.2.2.2.2.2.2.2.1.cls = "java/lang/String" := by
              have hq := of_decide_eq_true (ex_allA_of ex_rc_ck hf) rfl
              rw [hgm.2.2.1, ← em, hq]
              rfl
            have hgood : GoodIn ex_tw (wsV (ex_cn M.2.2.1) i M'.2.2.2.2.2.2.2.2.1.cls M'.2.2.2.2.2.2.2.2.1 (ex_ws M')) := by
              intro x hx
              unfold wsV at hx
              rcases List.mem_append.mp hx with hx | hx
              · simp only [List.mem_cons, List.not_mem_nil, or_false] at hx
                rcases hx with rfl | rfl | rfl | rfl
                · exact ⟨ex_tw_in g1 rfl, good_of_word rfl⟩
                · exact ⟨ex_tw_in g2 rfl, good_of_word rfl⟩
                · exact ⟨ex_tw_in g3 rfl, good_of_word rfl⟩
                · exact ⟨ex_tw_in hini rfl, good_of_word rfl⟩
              · exact ex_good hgm x hx
            have cw := cwV (R := R) (s := s) (args := args) (rm := ex_rm d' (w'.length - w.length) (ex_sl w' - ex_sl w)) (n0 - 1) C.2.2.2.2.1 hgood rfl rfl rfl ⟨rfl, hcp.2.1, hcp.2.2.1, hnp⟩ hroom
            obtain ⟨e1, e2⟩ := ex_sk_of hsk
            have hrec := vk_recv C.2.2.2.2.2.2.2.2.2.1.2.1 e2 hS
            have hrec : ∃ cellB : Cell, H[G.2.1 a]? = some cellB ∧ cellB.vm.isStatics = false ∧ s.vm.findClass M'.2.2.2.2.2.2.2.2.1.cls = some cellB.cls := by
              rw [hcls]
              rw [e1] at hrec
              exact hrec
            have run := va_runV (H := H) (locs := locs) (cells := w.length - L0) (slots := ex_sl w - S0) (below := below) (meth := meth) (e := e) (b := G.2.1 a) (As := tl.map (ex_cv G)) (rest := (st.drop n0).map (ex_cv G)) (g := F0 m pc ls (st.map (ex_cv G))) ⟨C.1, C.2.1, C.2.2.1, C.2.2.2.1, C.2.2.2.2.1⟩ hMet cw ⟨ex_blind, hrec, fun U hU hW => ⟨rfl, ex_pre C hz hP hS U hU hW⟩⟩ rfl (by rw [List.length_map]; exact ex_tl has hn0) (by rw [← hnL]; exact hl.2.1) (ex_stkR has) (lv_room (by rw [ex_cats_cv]; exact hcat)) hdg hfit
            refine ex_callW run hS fun H1 locs1 z1 z3 => ?_
            have kk := k ls H1 locs1 hl z1 z3
            rw [hcell, hslot, ex_toL]
            exact kk
          · cases h
        · cases h
      · -- static
        cases h
        simp only [Bool.and_eq_true, decide_eq_true_eq] at hck
        obtain ⟨-, -, h1, h2, h5⟩ := hck
        have em := ex_m_eq hM' hgm (ex_num hM').1
        have g1 : Cond.methodLink (ex_cn M.2.2.1) i M'.2.2.2.2.2.2.2.2.1 ∈ lw_tbl := by have := lw_in h1; rw [← em]; exact this
        have g2 : Cond.static M'.2.2.2.2.2.2.2.2.1 ∈ lw_tbl := by have := lw_in h2; rw [← em]; exact this
        have hnp := ex_np_f hM' h5
        intro ls H locs hl hP hS
        refine ex_size C.2.2.2.2.2.2.2.2.2.2.2 hL hP hS fun hz => ?_
        have hgood : GoodIn ex_tw (va_wsS (ex_cn M.2.2.1) i M'.2.2.2.2.2.2.2.2.1 (ex_ws M')) := by
          intro x hx
          unfold va_wsS at hx
          rcases List.mem_append.mp hx with hx | hx
          · simp only [List.mem_cons, List.not_mem_nil, or_false] at hx
            rcases hx with rfl | rfl | rfl
            · exact ⟨ex_tw_in g1 rfl, good_of_word rfl⟩
            · exact ⟨ex_tw_in g2 rfl, good_of_word rfl⟩
            · exact ⟨ex_tw_in hini rfl, good_of_word rfl⟩
          · exact ex_good hgm x hx
        have cw := va_cwS (R := R) (s := s) (args := args) (rm := ex_rm d' (w'.length - w.length) (ex_sl w' - ex_sl w)) n0 C.2.2.2.2.1 hgood rfl rfl rfl ⟨hcp.2.1, hcp.2.2.1, hnp⟩ hroom
        have run := va_runS (H := H) (locs := locs) (cells := w.length - L0) (slots := ex_sl w - S0) (below := below) (meth := meth) (e := e) (As := (st.take n0).reverse.map (ex_cv G)) (rest := (st.drop n0).map (ex_cv G)) (g := F0 m pc ls (st.map (ex_cv G))) ⟨C.1, C.2.1, C.2.2.1, C.2.2.2.1, C.2.2.2.2.1⟩ hMet cw ⟨ex_blind, fun U hU hW => ⟨rfl, ex_pre C hz hP hS U hU hW⟩⟩ rfl (by rw [List.length_map, List.length_reverse, List.length_take]; omega) (by rw [← hnL]; exact hl.2.1) ex_stkS (lv_room (by rw [ex_cats_cv]; exact hcat)) hdg hfit
        refine ex_callW run hS fun H1 locs1 z1 z3 => ?_
        have kk := k ls H1 locs1 hl z1 z3
        rw [hcell, hslot, ex_toL]
        exact kk
      · -- a constructor
        split at h
        · next a tl has =>
          cases h
          simp only [Bool.and_eq_true, decide_eq_true_eq] at hck
          obtain ⟨-, -, h1, h2, h3, h4, h5⟩ := hck
          have em := ex_m_eq hM' hgm (ex_num hM').1
          have g2 : Cond.instanceMethod M'.2.2.2.2.2.2.2.2.1 ∈ lw_tbl := by have := lw_in h2; rw [← em]; exact this
          have hI : M'.2.2.2.2.2.2.2.2.1.name = "<init>" := hgm.2.2.2.1 (by rw [← em]; exact h3)
          have hret : M'.2.2.2.1 = none := by rw [← em]; exact h4
          rw [has] at hMet
          have hnp := ex_np_t hM' h5
          intro ls H locs hl hP hS
          refine ex_size C.2.2.2.2.2.2.2.2.2.2.2 hL hP hS fun hz => ?_
          have hws : ex_ws M' = Cond.code M'.2.2.2.2.2.2.2.2.1 M'.2.2.2.2.2.2.2.2.2 M'.2.2.2.2.1 none :: ex_tw := by unfold ex_ws; rw [hret]
          have hPS : PreS s H (va_Pc ((.ref a :: tl).map (ex_cv G)) (ex_Pre G w)) (.ref (G.1 + a) :: tl.map (ex_cv G)) := ⟨ex_blind, fun U hU hW => ⟨rfl, ex_pre C hz hP hS U hU hW⟩⟩
          have fin : va_Run p l e R s m args below meth c H locs (w.length - L0) (ex_sl w - S0) (w'.length - w.length) (ex_sl w' - ex_sl w) (F0 m pc ls (st.map (ex_cv G))) ((st.drop n0).map (ex_cv G)) (ex_Qc G r w' (.ref (G.1 + a) :: tl.map (ex_cv G)).toArray) (ex_Ar G) := by
            split at h1
            · have g1 : Cond.methodLink (ex_cn M.2.2.1) i M'.2.2.2.2.2.2.2.2.1 ∈ lw_tbl := by have := lw_in (of_decide_eq_true h1); rw [← em]; exact this
              have cw := cwI (R := R) (s := s) (args := args) (own := ex_cn M.2.2.1) (index := i) (rm := ex_rm d' (w'.length - w.length) (ex_sl w' - ex_sl w)) (n0 - 1) C.2.2.2.2.1 (ex_good hgm) hws rfl rfl (C.word hini rfl) (C.word g1 rfl) (C.word g2 rfl) hI ⟨hcp.2.1, hcp.2.2.1, hnp⟩ hroom
              exact va_runI (H := H) (locs := locs) (cells := w.length - L0) (slots := ex_sl w - S0) (below := below) (meth := meth) (e := e) (b := G.1 + a) (As := tl.map (ex_cv G)) (rest := (st.drop n0).map (ex_cv G)) (g := F0 m pc ls (st.map (ex_cv G))) ⟨C.1, C.2.1, C.2.2.1, C.2.2.2.1, C.2.2.2.2.1⟩ hMet cw hPS rfl (by rw [List.length_map]; exact ex_tl has hn0) (by rw [← hnL]; exact hl.2.1) (ex_stk has) (lv_room (by rw [ex_cats_cv]; exact hcat)) hdg hfit
            · have g1 := lw_in (of_decide_eq_true h1)
              have z1 := C.2.2.2.2.2.2.2.2.1 _ rfl g1
              have z1 : va_Nw (.methodLinkNest (ex_cn M.2.2.1) i M'.2.2.2.2.2.2.2.2.1 (ex_cn 1)) s := by rw [← em]; exact z1
              have cw := va_cnB (R := R) (s := s) (args := args) (own := ex_cn M.2.2.1) (index := i) (rm := ex_rm d' (w'.length - w.length) (ex_sl w' - ex_sl w)) (n0 - 1) C.2.2.2.2.1 (ex_good hgm) hws rfl rfl z1 (C.word hini rfl) ⟨hcp.2.1, hcp.2.2.1, hnp⟩ hroom
              exact va_runIN (H := H) (locs := locs) (cells := w.length - L0) (slots := ex_sl w - S0) (below := below) (meth := meth) (e := e) (b := G.1 + a) (As := tl.map (ex_cv G)) (rest := (st.drop n0).map (ex_cv G)) (g := F0 m pc ls (st.map (ex_cv G))) ⟨C.1, C.2.1, C.2.2.1, C.2.2.2.1, C.2.2.2.2.1⟩ hMet ⟨cw, hI, C.word g2 rfl⟩ hPS rfl (by rw [List.length_map]; exact ex_tl has hn0) (by rw [← hnL]; exact hl.2.1) (ex_stk has) (lv_room (by rw [ex_cats_cv]; exact hcat)) hdg hfit
          refine ex_callW fin hS fun H1 locs1 z1 z3 => ?_
          have kk := k ls H1 locs1 hl z1 z3
          rw [hcell, hslot, ex_toL]
          exact kk
        · cases h
      · cases h
    · cases h
  · cases h
end EXQ
