/-! CELLS: fields, rows, new cells. -/
theorem ex_sl_set {w : ex_W} {q : Nat} {x y : ex_E} (h : w[q]? = some x) (hs : ex_sz y = ex_sz x) : ex_sl (w.set q y) = ex_sl w := by
  unfold ex_sl
  have e : (w.set q y).map ex_sz = w.map ex_sz := by
    apply List.ext_getElem?
    intro i
    rw [List.getElem?_map, List.getElem?_map, List.getElem?_set]
    by_cases hq : q = i
    · subst hq
      by_cases hl : q < w.length
      · simp [hl, hs]
        have := List.getElem?_eq_some_iff.mp h
        obtain ⟨h1, h2⟩ := this
        rw [h2]
      · simp [hl]
    · simp [hq]
  rw [e]
theorem ex_sl_app {w : ex_W} {x : ex_E} : ex_sl (w ++ [x]) = ex_sl w + ex_sz x := by
  unfold ex_sl
  simp
theorem ex_lg {w : ex_W} {q : Nat} {x : ex_E} (h : ex_at w q = some x) : w[q]? = some x := by
  rw [← ex_at_eq]; exact h
theorem ex_fit_ok {G : ex_G} {ty : FieldType} {v : Value} (h : ex_fit ty v = true) : narrow ty (ex_cv G v) = ex_cv G v ∧ fits ty (ex_cv G v) = true := by
  unfold ex_fit at h
  split at h
  · exact ⟨rfl, rfl⟩
  · exact ⟨rfl, rfl⟩
  · next x =>
    simp only [Bool.or_eq_true, beq_iff_eq] at h
    rcases h with rfl | rfl
    · exact ⟨show narrow .boolean (.int 0) = .int 0 by decide, show fits .boolean (.int 0) = true by decide⟩
    · exact ⟨show narrow .boolean (.int 1) = .int 1 by decide, show fits .boolean (.int 1) = true by decide⟩
  · exact ⟨rfl, rfl⟩
  · exact ⟨rfl, rfl⟩
  · cases h
theorem ex_updL {l : List Int32} {i : Nat} {x : Int32} (h : i < l.length) : upd (fun j => l.getD j 0) i x = fun j => (l.set i x).getD j 0 := by
  funext j
  unfold upd
  by_cases hj : j = i
  · subst hj
    simp [h]
  · have : ¬ i = j := fun q => hj q.symm
    simp [hj, this, List.getD_eq_getElem?_getD, List.getElem?_set]
theorem ex_upQ {G : ex_G} {l : List (Option Nat)} {i v : Nat} (h : i < l.length) : va_up (fun j => (l.getD j none).map (fun k => G.1 + k)) i (some (G.1 + v)) = fun j => ((l.set i (some v)).getD j none).map (fun k => G.1 + k) := by
  funext j
  unfold va_up
  by_cases hj : j = i
  · subst hj
    simp [h]
  · have : ¬ i = j := fun q => hj q.symm
    simp [hj, this, List.getD_eq_getElem?_getD, List.getElem?_set]
theorem ex_ixv {i : Int32} {n : Nat} (h : ex_ix i n = true) : vp_in i n := by
  unfold ex_ix at h
  exact (of_decide_eq_true h : ¬ (i < 0 ∨ n ≤ i.toNatClampNeg))
theorem ex_ixl {i : Int32} {n : Nat} (h : ex_ix i n = true) : i.toNatClampNeg < n := Nat.not_le.mp fun q => ex_ixv h (Or.inr q)
section EXH
variable {p : Program} {l : Launch} {e : Env} {R : Room} {s : State} {m : MethodId} {args : Array Value} {below : List Frame} {meth : Method} {c : Code} {Q : State → Prop} {G : ex_G} {nL L0 S0 pc : Nat} {lo : ex_L} {st : List Value} {w : ex_W} {M : ex_M} {i : Nat} {X : List Int32}
variable {a : Nat} {b : ex_L} {f : List Value} {d : ex_W}
/-- words of lw_tbl that go along -/
theorem ex_Cx.word (C : ex_Cx p s m args meth c G M L0) {x : Cond} (h : x ∈ lw_tbl) (g : goodWord x = true) : x.before args s = true := C.2.2.2.2.1 x (ex_tw_in h g)
theorem ex_lay_in {ci : Nat} (h : ci < 9) : ∀ x ∈ u_ws (ex_on ci) (ex_TT ci) (ex_nf ci), x ∈ ex_tw := by
  intro x hx
  unfold u_ws at hx
  obtain ⟨k, hk, rfl⟩ := List.mem_map.mp hx
  refine ex_tw_in ((ex_cxs ci h).2.2.2.2.2.2.2.1 k (List.mem_range.mp hk)).1 ?_
  unfold u_lay
  split <;> rfl
theorem xw_gf (C : ex_Cx p s m args meth c G M L0) (hdg : decode M.2.2.2.2.2.2.2.2.2 pc = .ok (.getfield i, 3)) (h : ex_gf (ex_fld M.2.2.1 i) pc lo st w = some (.inl ((a, b, f), d)))
    (k : ex_K p l e R s m args below meth c Q G nL L0 S0 a b f d) : ex_K p l e R s m args below meth c Q G nL L0 S0 pc lo st w := by
  unfold ex_gf at h
  split at h
  · next ci fk pl q r hf =>
    split at h
    · next c' fs hw =>
      split at h
      · next v hv =>
        split at h
        · next hc =>
          subst hc
          obtain ⟨rfl, rfl, rfl, rfl⟩ := xi_go h
          intro ls H locs hl hP hS
          have hck := ex_allA_of ex_fld_ck hf
          unfold ex_fldB at hck
          simp only [Bool.and_eq_true, decide_eq_true_eq] at hck
          obtain ⟨h9, hk, hd⟩ := hck
          have hcx := ex_cxs _ h9
          have hlink := C.word (lw_in hd) rfl
          rw [ex_at_eq] at hv
          refine va_get (Ts := ex_tw) (C := ex_on c') (T := ex_TT c') (N := ex_nf c') (ci := c') (own := ex_cn M.2.2.1) (ref := (ex_TT c' fk).1) (v := ex_cv G v) C.1 C.2.1 C.2.2.2.2.1 (ex_lay_in h9) C.2.2.2.1 C.2.2.2.2.2.2.2.1 hP q (ex_cw_get (ex_lg hw)) hcx.1 fk hk hlink (fun _ h9 => h9) ?_ hdg (k ls H locs hl hP hS)
          rw [List.getElem?_map, hv]
          rfl
        · cases h
      · cases h
    · cases h
  · cases h
theorem ex_sk_of {q : Nat} (h : ex_sk q = true) : 2 * (q / 2) + 1 = q ∧ q / 2 < ex_str.length := by
  unfold ex_sk at h
  rw [Bool.and_eq_true] at h
  have h1 := Nat.eq_of_beq_eq_true h.1
  have h2 : q / 2 < 12 := Nat.lt_of_lt_of_le (Nat.lt_succ_self _) (Nat.le_of_ble_eq_true h.2)
  exact ⟨by omega, h2⟩
theorem ex_sb_of {q : Nat} {l : List Int32} (h : ex_sb q = some l) : ∃ j x, q = 2 * j + 2 ∧ ex_str[j]? = some x ∧ x.2.2.2 = l := by
  unfold ex_sb at h
  cases hq : q / 2 with
  | zero => rw [hq] at h; cases h
  | succ j =>
    rw [hq] at h
    have h : (Bool.rec (motive := fun _ => Option (List Int32)) none (Option.rec (motive := fun _ => Option (List Int32)) none (fun q => some q.2.2.2) (ex_at ex_str j)) (Nat.beq (q % 2) 0)) = some l := h
    cases hb : Nat.beq (q % 2) 0 with
    | false => rw [hb] at h; cases h
    | true =>
      rw [hb] at h
      have hb := Nat.eq_of_beq_eq_true hb
      cases hx : ex_at ex_str j with
      | none => rw [hx] at h; cases h
      | some x =>
        rw [hx] at h
        cases h
        exact ⟨j, x, by omega, by rw [← ex_at_eq]; exact hx, rfl⟩
/-- the bytes of a text -/
theorem ex_J.bytes {H : Heap} {j : Nat} {x : Nat × Nat × String × List Int32} (h : ex_J G s H) (hx : ex_str[j]? = some x) : va_T .byte (G.2.1 (2 * j + 2)) x.2.2.2.length (fun i => .int (x.2.2.2.getD i 0)) (ex_Ar G) s H := by
  have hj := (List.getElem?_eq_some_iff.mp hx).1
  have h1 := (h.1.1 j hj).2.2.2
  have e1 : (ex_str.map fun q => q.2.2.2.length).getD j 0 = x.2.2.2.length := by rw [List.getD_eq_getElem?_getD, List.getElem?_map, hx]; rfl
  have e2 : (ex_str.map fun q => q.2.2.2).getD j [] = x.2.2.2 := by rw [List.getD_eq_getElem?_getD, List.getElem?_map, hx]; rfl
  rw [e1, e2] at h1
  exact h1
theorem xw_sgf {kf pl : Nat} (C : ex_Cx p s m args meth c G M L0) (hdg : decode M.2.2.2.2.2.2.2.2.2 pc = .ok (.getfield i, 3)) (hf : ex_sfl M.2.2.1 i = some (kf, pl)) (h : ex_sgf kf pc lo st w = some (.inl ((a, b, f), d)))
    (k : ex_K p l e R s m args below meth c Q G nL L0 S0 a b f d) : ex_K p l e R s m args below meth c Q G nL L0 S0 pc lo st w := by
  have hck := ex_allA_of ex_sfl_ck hf
  unfold ex_sflB at hck
  simp only [Bool.and_eq_true, decide_eq_true_eq] at hck
  obtain ⟨h2, hd⟩ := hck
  unfold ex_sgf at h
  split at h
  · next q r =>
    split at h
    · next hc =>
      obtain ⟨e1, e2⟩ := ex_sk_of hc
      have hE := C.2.2.2.2.2.2.2.2.2.1.2.1.1 (q / 2) e2
      have g1 : G.2.1 (2 * (q / 2) + 1) = G.2.1 q := by rw [e1]
      have g2 : G.2.1 (2 * (q / 2) + 2) = G.2.1 (q + 1) := by rw [show 2 * (q / 2) + 2 = q + 1 by omega]
      split at h
      · obtain ⟨rfl, rfl, rfl, rfl⟩ := xi_go h
        have hlink : (Cond.fieldLink (ex_cn M.2.2.1) i "java/lang/String" "value" "[B").before args s = true := C.word (lw_in hd) rfl
        intro ls H locs hl hP hS
        have kk := k ls H locs hl hP hS
        have h3 : va_OF "java/lang/String" "value" "[B" (.ref (G.2.1 (q + 1))) (G.2.1 q) (ex_Ar G) s s.heap := by rw [← g1, ← g2]; exact hE.2.2.1
        exact vk_getf C.1 C.2.1 h3 hS C.2.2.2.1 hlink (fun _ h9 => h9) hdg kk
      · next hk0 =>
        obtain ⟨rfl, rfl, rfl, rfl⟩ := xi_go h
        have hlink : (Cond.fieldLink (ex_cn M.2.2.1) i "java/lang/String" "coder" "B").before args s = true := by
          have h1 := C.word (lw_in hd)
          match kf, hk0, h1 with
          | 0, hk0, _ => exact absurd rfl hk0
          | n + 1, _, h1 => exact h1 rfl
        intro ls H locs hl hP hS
        have kk := k ls H locs hl hP hS
        have h3 : va_OF "java/lang/String" "coder" "B" (.int 0) (G.2.1 q) (ex_Ar G) s s.heap := by rw [← g1]; exact hE.2.1
        exact vk_getf C.1 C.2.1 h3 hS C.2.2.2.1 hlink (fun _ h9 => h9) hdg kk
    · cases h
  · cases h
theorem xw_gst (C : ex_Cx p s m args meth c G M L0) (hdg : decode M.2.2.2.2.2.2.2.2.2 pc = .ok (.getstatic i, 3)) (h : ex_gst (ex_sta M.2.2.1 i) pc lo st w = some (.inl ((a, b, f), d)))
    (k : ex_K p l e R s m args below meth c Q G nL L0 S0 a b f d) : ex_K p l e R s m args below meth c Q G nL L0 S0 pc lo st w := by
  unfold ex_gst at h
  split at h
  · next kf pl hf =>
    have hck := ex_allA_of ex_sta_ck hf
    unfold ex_staB at hck
    simp only [Bool.and_eq_true, decide_eq_true_eq] at hck
    obtain ⟨h2, hd⟩ := hck
    split at h
    · obtain ⟨rfl, rfl, rfl, rfl⟩ := xi_go h
      have hlink : (Cond.fieldLink (ex_cn M.2.2.1) i "java/lang/String" "COMPACT_STRINGS" "Z").before args s = true := C.word (lw_in hd) rfl
      intro ls H locs hl hP hS
      exact va_gets C.1 C.2.1 C.2.2.2.2.2.2.2.2.2.1.2.2.1 hS C.2.2.2.1 hlink (fun _ h9 => h9) hdg (k ls H locs hl hP hS)
    · next hk0 =>
      obtain ⟨rfl, rfl, rfl, rfl⟩ := xi_go h
      have hlink : (Cond.fieldLink (ex_cn M.2.2.1) i "jdk/internal/util/Preconditions" "SIOOBE_FORMATTER" "Ljava/util/function/BiFunction;").before args s = true := by
        have h1 := C.word (lw_in hd)
        match kf, hk0, h1 with
        | 0, hk0, _ => exact absurd rfl hk0
        | n + 1, _, h1 => exact h1 rfl
      intro ls H locs hl hP hS
      exact va_gets C.1 C.2.1 C.2.2.2.2.2.2.2.2.2.1.2.2.2.1 hS C.2.2.2.1 hlink (fun _ h9 => h9) hdg (k ls H locs hl hP hS)
  · cases h
theorem xw_pf (C : ex_Cx p s m args meth c G M L0) (hgm : M.2.2.2.2.2.2.1 < 9 → ex_cn M.2.2.1 = ex_on M.2.2.2.2.2.2.1) (hdg : decode M.2.2.2.2.2.2.2.2.2 pc = .ok (.putfield i, 3)) (h : ex_pf (ex_fld M.2.2.1 i) M.2.2.2.2.2.2.1 M.2.2.2.2.2.2.2.1 pc lo st w = some (.inl ((a, b, f), d)))
    (k : ex_K p l e R s m args below meth c Q G nL L0 S0 a b f d) : ex_K p l e R s m args below meth c Q G nL L0 S0 pc lo st w := by
  unfold ex_pf at h
  split at h
  · next ci fk pl v q r hf =>
    split at h
    · next c' fs hw =>
      split at h
      · next hc =>
        obtain ⟨rfl, hfl, hfit, hfin⟩ := hc
        obtain ⟨rfl, rfl, rfl, rfl⟩ := xi_go h
        intro ls H locs hl hP hS
        have hck := ex_allA_of ex_fld_ck hf
        unfold ex_fldB at hck
        simp only [Bool.and_eq_true, decide_eq_true_eq] at hck
        obtain ⟨h9, hk, hd⟩ := hck
        have hcx := ex_cxs _ h9
        have hlink := C.word (lw_in hd) rfl
        have hw := ex_lg hw
        have hft := ex_fit_ok (G := G) hfit
        rw [ex_put_eq, ex_put_eq] at k
        have e1 : (ex_cw G w).set q (G.1 + q, .inr (c', (fs.map (ex_cv G)).set fk (ex_cv G v))) = ex_cw G (w.set q (.inr (.inr (c', fs.set fk v)))) := by
          rw [← ex_cw_set]
          show _ = (ex_cw G w).set q (G.1 + q, .inr (c', (fs.set fk v).map (ex_cv G)))
          rw [List.map_set]
        have e2 : ex_sl (w.set q (.inr (.inr (c', fs.set fk v)))) = ex_sl w := ex_sl_set hw rfl
        have kk : ∀ (H1 : Heap) (locs1 : List Loc), va_P G.2.2.2.2 vwCl ((ex_cw G w).set q (G.1 + q, .inr (c', (fs.map (ex_cv G)).set fk (ex_cv G v)))) H1 → va_D (ex_Ar G) ((ex_cw G w).set q (G.1 + q, .inr (c', (fs.map (ex_cv G)).set fk (ex_cv G v)))) → va_S (ex_Ar G) s.heap H1 locs1 → W p l e R s m args below meth c H1 locs1 (w.length - L0) (ex_sl w - S0) Q (F0 m (pc + 3) ls (f.map (ex_cv G))) := by
          intro H1 locs1 g1 _ g3
          rw [e1] at g1
          have := k ls H1 locs1 hl g1 g3
          rw [List.length_set, e2] at this
          exact this
        by_cases hff : ex_ffin c' fk = false
        · exact va_put (Ts := ex_tw) (C := ex_on c') (T := ex_TT c') (N := ex_nf c') (ci := c') (own := ex_cn M.2.2.1) (ref := (ex_TT c' fk).1) (v := ex_cv G v) (ty := ex_fty c' fk) C.1 C.2.1 C.2.2.2.2.1 (ex_lay_in h9) (ex_fty c') hcx.2.1 hcx.2.2.1 C.2.2.2.1 C.2.2.2.2.2.2.2.1 hP ex_Da hS q (ex_cw_get hw) hcx.1 fk hk hlink (fun _ h9 => h9) (by rw [hcx.2.2.2.2.2.2.2.2]; exact hff) (hcx.2.1 fk hk) hft.1 hft.2 (by rw [List.length_map]; exact hfl) hdg kk
        · have hI := hfin.resolve_left hff
          exact va_putF (Ts := ex_tw) (C := ex_on c') (T := ex_TT c') (N := ex_nf c') (ci := c') (own := ex_cn M.2.2.1) (ref := (ex_TT c' fk).1) (v := ex_cv G v) (ty := ex_fty c' fk) C.1 C.2.1 C.2.2.2.2.1 (ex_lay_in h9) (ex_fty c') hcx.2.1 hcx.2.2.1 C.2.2.2.1 C.2.2.2.2.2.2.2.1 hP ex_Da hS q (ex_cw_get hw) hcx.1 fk hk hlink (fun _ h9 => h9) (by rw [hcx.2.2.2.2.2.2.2.2]; simpa using hff) (C.2.2.2.2.2.2.1 hI.1) (by rw [(hcx.2.2.2.2.2.2.2.1 fk hk).2, hgm (by rw [hI.2]; exact h9), hI.2]) (hcx.2.1 fk hk) hft.1 hft.2 (by rw [List.length_map]; exact hfl) hdg kk
      · cases h
    · cases h
  · cases h
theorem ex_t0 {G : ex_G} : (ex_tys G)[0]? = some (G.2.2.1 .int, .int) := rfl
theorem ex_t1 {G : ex_G} : (ex_tys G)[1]? = some (G.2.2.1 .byte, .byte) := rfl
theorem ex_t2 {G : ex_G} : (ex_tys G)[2]? = some (G.2.2.1 .boolean, .boolean) := rfl
theorem ex_tq {G : ex_G} {ci : Nat} (h : ex_qix ci < 100) : (ex_tys G)[ex_qix ci]? = some (G.2.2.2.1 ci, .object (ex_on ci)) ∧ ci < 9 := by
  unfold ex_qix at h ⊢
  split at h
  · next h6 => subst h6; exact ⟨rfl, by decide⟩
  · split at h
    · next h4 => subst h4; exact ⟨rfl, by decide⟩
    · exact absurd h (by decide)
/-- the script, where the law's own frame stands -/
def ex_Sc (X : List Int32) (G : ex_G) (s : State) : Prop := va_X (G.2.1 0) X.length (fun j => X.getD j 0) s s.heap ∧ G.2.1 0 < s.heap.size ∧ ¬ ex_Ar G (G.2.1 0)
theorem xw_ald {by_ : Bool} (C : ex_Cx p s m args meth c G M L0) (hX : M.1 = 0 → ex_Sc X G s) (hdg : decode M.2.2.2.2.2.2.2.2.2 pc = .ok (match by_ with | true => .baload | false => .iaload, 1)) (h : ex_ald by_ X (Nat.beq M.1 0) pc lo st w = some (.inl ((a, b, f), d)))
    (k : ex_K p l e R s m args below meth c Q G nL L0 S0 a b f d) : ex_K p l e R s m args below meth c Q G nL L0 S0 pc lo st w := by
  unfold ex_ald at h
  split at h
  · next i q r =>
    split at h
    · next ty ar hw =>
      split at h
      · next hc =>
        obtain ⟨hty, hix⟩ := hc
        obtain ⟨rfl, rfl, rfl, rfl⟩ := xi_go h
        intro ls H locs hl hP hS
        have hw := ex_lg hw
        have kk := k ls H locs hl hP hS
        rw [ex_gd_eq] at kk
        cases by_ with
        | false =>
          have e : ty = .int := of_decide_eq_true hty
          subst e
          exact va_iald C.1 C.2.1 C.2.2.2.2.2.2.2.1 hP q 0 (ex_cw_get hw) ex_t0 (ex_ixv hix) hdg kk
        | true =>
          have e : ty = .byte ∨ ty = .boolean := by
            have h1 : (decide (ty = .byte) || decide (ty = .boolean)) = true := hty
            simpa using h1
          rcases e with e | e
          · subst e
            exact va_bald C.1 C.2.1 C.2.2.2.2.2.2.2.1 hP q 1 (ex_cw_get hw) ex_t1 (ex_ixv hix) hdg kk
          · subst e
            exact va_zald C.1 C.2.1 C.2.2.2.2.2.2.2.1 hP q 2 (ex_cw_get hw) ex_t2 (ex_ixv hix) hdg kk
      · cases h
    · cases h
  · next i q r =>
    split at h
    · next hc =>
      obtain ⟨rfl, hM, rfl, hix⟩ := hc
      obtain ⟨rfl, rfl, rfl, rfl⟩ := xi_go h
      obtain ⟨x1, x2, x3⟩ := hX (Nat.eq_of_beq_eq_true hM)
      intro ls H locs hl hP hS
      have kk := k ls H locs hl hP hS
      rw [ex_gd_eq] at kk
      exact va_sld C.1 C.2.1 x1 x2 x3 hS (ex_ixv hix) hdg kk
    · split at h
      · next lb hb =>
        split at h
        · next hc =>
          obtain ⟨rfl, hix⟩ := hc
          obtain ⟨rfl, rfl, rfl, rfl⟩ := xi_go h
          obtain ⟨j, x, rfl, hx, rfl⟩ := ex_sb_of hb
          intro ls H locs hl hP hS
          have kk := k ls H locs hl hP hS
          rw [ex_gd_eq] at kk
          exact va_tb C.1 C.2.1 (C.2.2.2.2.2.2.2.2.2.1.2.bytes hx) hS (ex_ixv hix) rfl hdg kk
        · cases h
      · cases h
  · cases h
theorem xw_aln (C : ex_Cx p s m args meth c G M L0) (hX : M.1 = 0 → ex_Sc X G s) (hdg : decode M.2.2.2.2.2.2.2.2.2 pc = .ok (.arraylength, 1)) (h : ex_aln X (Nat.beq M.1 0) pc lo st w = some (.inl ((a, b, f), d)))
    (k : ex_K p l e R s m args below meth c Q G nL L0 S0 a b f d) : ex_K p l e R s m args below meth c Q G nL L0 S0 pc lo st w := by
  unfold ex_aln at h
  split at h
  · next q r =>
    split at h
    · next ty ar hw =>
      split at h
      · next hty =>
        obtain ⟨rfl, rfl, rfl, rfl⟩ := xi_go h
        intro ls H locs hl hP hS
        have hw := ex_lg hw
        have kk := k ls H locs hl hP hS
        rcases hty with e | e | e
        · subst e
          exact va_alen C.1 C.2.1 C.2.2.2.2.2.2.2.1 hP q 0 (ex_cw_get hw) ex_t0 rfl hdg kk
        · subst e
          exact va_alen C.1 C.2.1 C.2.2.2.2.2.2.2.1 hP q 1 (ex_cw_get hw) ex_t1 rfl hdg kk
        · subst e
          exact va_alen C.1 C.2.1 C.2.2.2.2.2.2.2.1 hP q 2 (ex_cw_get hw) ex_t2 rfl hdg kk
      · cases h
    · cases h
  · next q r =>
    split at h
    · next hc =>
      obtain ⟨hM, rfl⟩ := hc
      obtain ⟨rfl, rfl, rfl, rfl⟩ := xi_go h
      obtain ⟨x1, x2, x3⟩ := hX (Nat.eq_of_beq_eq_true hM)
      intro ls H locs hl hP hS
      exact va_slen C.1 C.2.1 x1 x2 x3 hS hdg (k ls H locs hl hP hS)
    · split at h
      · next lb hb =>
        obtain ⟨rfl, rfl, rfl, rfl⟩ := xi_go h
        obtain ⟨j, x, rfl, hx, rfl⟩ := ex_sb_of hb
        intro ls H locs hl hP hS
        exact va_tlen C.1 C.2.1 (C.2.2.2.2.2.2.2.2.2.1.2.bytes hx) hS rfl hdg (k ls H locs hl hP hS)
      · cases h
  · cases h
theorem xw_ast {by_ : Bool} (C : ex_Cx p s m args meth c G M L0) (hdg : decode M.2.2.2.2.2.2.2.2.2 pc = .ok (match by_ with | true => .bastore | false => .iastore, 1)) (h : ex_ast by_ pc lo st w = some (.inl ((a, b, f), d)))
    (k : ex_K p l e R s m args below meth c Q G nL L0 S0 a b f d) : ex_K p l e R s m args below meth c Q G nL L0 S0 pc lo st w := by
  unfold ex_ast at h
  split at h
  · next x i q r =>
    split at h
    · next ty ar hw =>
      split at h
      · next hc =>
        obtain ⟨hty, hix⟩ := hc
        obtain ⟨rfl, rfl, rfl, rfl⟩ := xi_go h
        intro ls H locs hl hP hS
        have hw := ex_lg hw
        rw [ex_put_eq, ex_put_eq] at k
        have e2 : ∀ z, ex_sl (w.set q (.inl (ty, ar.set i.toNatClampNeg z))) = ex_sl w := fun z => ex_sl_set hw (by simp [ex_sz])
        have e1 : ∀ z, (ex_cw G w).set q (G.1 + q, .inl (G.2.2.1 ty, ar.length, .inl (upd (fun j => ar.getD j 0) i.toNatClampNeg z))) = ex_cw G (w.set q (.inl (ty, ar.set i.toNatClampNeg z))) := by
          intro z
          rw [← ex_cw_set, ex_updL (ex_ixl hix)]
          show _ = (ex_cw G w).set q (G.1 + q, .inl (G.2.2.1 ty, (ar.set i.toNatClampNeg z).length, .inl (fun j => (ar.set i.toNatClampNeg z).getD j 0)))
          rw [List.length_set]
        have kk : ∀ (H1 : Heap) (locs1 : List Loc), va_P G.2.2.2.2 vwCl ((ex_cw G w).set q (G.1 + q, .inl (G.2.2.1 ty, ar.length, .inl (upd (fun j => ar.getD j 0) i.toNatClampNeg (ex_nar ty x))))) H1 → va_D (ex_Ar G) ((ex_cw G w).set q (G.1 + q, .inl (G.2.2.1 ty, ar.length, .inl (upd (fun j => ar.getD j 0) i.toNatClampNeg (ex_nar ty x))))) → va_S (ex_Ar G) s.heap H1 locs1 → W p l e R s m args below meth c H1 locs1 (w.length - L0) (ex_sl w - S0) Q (F0 m (pc + 1) ls (f.map (ex_cv G))) := by
          intro H1 locs1 g1 _ g3
          rw [e1] at g1
          have := k ls H1 locs1 hl g1 g3
          rw [List.length_set, e2] at this
          exact this
        cases by_ with
        | false =>
          have e : ty = .int := of_decide_eq_true hty
          subst e
          exact va_iast C.1 C.2.1 C.2.2.2.2.2.2.2.1 hP ex_Da hS q 0 (ex_cw_get hw) ex_t0 (ex_ixv hix) hdg kk
        | true =>
          have e : ty = .byte ∨ ty = .boolean := by
            have h1 : (decide (ty = .byte) || decide (ty = .boolean)) = true := hty
            simpa using h1
          rcases e with e | e
          · subst e
            exact va_bast C.1 C.2.1 C.2.2.2.2.2.2.2.1 hP ex_Da hS q 1 (ex_cw_get hw) ex_t1 (ex_ixv hix) hdg kk
          · subst e
            exact va_zast C.1 C.2.1 C.2.2.2.2.2.2.2.1 hP ex_Da hS q 2 (ex_cw_get hw) ex_t2 (ex_ixv hix) hdg kk
      · cases h
    · cases h
  · cases h
theorem xw_alq (C : ex_Cx p s m args meth c G M L0) (hdg : decode M.2.2.2.2.2.2.2.2.2 pc = .ok (.aaload, 1)) (h : ex_alq pc lo st w = some (.inl ((a, b, f), d)))
    (k : ex_K p l e R s m args below meth c Q G nL L0 S0 a b f d) : ex_K p l e R s m args below meth c Q G nL L0 S0 pc lo st w := by
  unfold ex_alq at h
  split at h
  · next i q r =>
    split at h
    · next ci ar hw =>
      split at h
      · next hc =>
        obtain ⟨hix, hq⟩ := hc
        have hw := ex_lg hw
        obtain ⟨t1, t2⟩ := ex_tq (G := G) hq
        split at h
        · next kq hk =>
          obtain ⟨rfl, rfl, rfl, rfl⟩ := xi_go h
          intro ls H locs hl hP hS
          have kk := k ls H locs hl hP hS
          rw [ex_at_eq] at hk
          refine va_aldq C.1 C.2.1 C.2.2.2.2.2.2.2.1 hP q _ (ex_cw_get hw) t1 (ex_ixv hix) hdg ?_
          rw [List.getD_eq_getElem?_getD, hk]
          exact kk
        · next hk =>
          obtain ⟨rfl, rfl, rfl, rfl⟩ := xi_go h
          intro ls H locs hl hP hS
          have kk := k ls H locs hl hP hS
          refine va_aldq C.1 C.2.1 C.2.2.2.2.2.2.2.1 hP q _ (ex_cw_get hw) t1 (ex_ixv hix) hdg ?_
          rw [List.getD_eq_getElem?_getD]
          rw [ex_at_eq] at hk
          cases hz : ar[i.toNatClampNeg]? with
          | none => exact kk
          | some y =>
            cases y with
            | none => exact kk
            | some y => exact absurd hz (hk y)
      · cases h
    · cases h
  · cases h
theorem xw_asq (C : ex_Cx p s m args meth c G M L0) (hdg : decode M.2.2.2.2.2.2.2.2.2 pc = .ok (.aastore, 1)) (h : ex_asq pc lo st w = some (.inl ((a, b, f), d)))
    (k : ex_K p l e R s m args below meth c Q G nL L0 S0 a b f d) : ex_K p l e R s m args below meth c Q G nL L0 S0 pc lo st w := by
  unfold ex_asq at h
  split at h
  · next v i q r =>
    split at h
    · next ci ar c' vs hw hv =>
      split at h
      · next hc =>
        obtain ⟨rfl, hix, hq⟩ := hc
        have hw := ex_lg hw
        have hv := ex_lg hv
        obtain ⟨t1, t2⟩ := ex_tq (G := G) hq
        obtain ⟨rfl, rfl, rfl, rfl⟩ := xi_go h
        intro ls H locs hl hP hS
        rw [ex_put_eq, ex_put_eq] at k
        have e2 : ex_sl (w.set q (.inr (.inl (c', ar.set i.toNatClampNeg (some v))))) = ex_sl w := ex_sl_set hw (by simp [ex_sz])
        have e1 : (ex_cw G w).set q (G.1 + q, .inl (G.2.2.2.1 c', ar.length, .inr (.inr (.inr (.inr (va_up (fun j => (ar.getD j none).map (fun k => G.1 + k)) i.toNatClampNeg (some (G.1 + v)))))))) = ex_cw G (w.set q (.inr (.inl (c', ar.set i.toNatClampNeg (some v))))) := by
          rw [← ex_cw_set, ex_upQ (ex_ixl hix)]
          show _ = (ex_cw G w).set q (G.1 + q, .inl (G.2.2.2.1 c', (ar.set i.toNatClampNeg (some v)).length, .inr (.inr (.inr (.inr (fun j => ((ar.set i.toNatClampNeg (some v)).getD j none).map (fun k => G.1 + k)))))))
          rw [List.length_set]
        refine va_astq C.1 C.2.1 C.2.2.2.2.2.2.2.1 hP ex_Da hS q _ v c' (ex_cw_get hw) t1 (ex_cw_get hv) (ex_cxs c' t2).1 (ex_ixv hix) hdg fun H1 locs1 g1 _ g3 => ?_
        have g1 : va_P G.2.2.2.2 vwCl ((ex_cw G w).set q (G.1 + q, .inl (G.2.2.2.1 c', ar.length, .inr (.inr (.inr (.inr (va_up (fun j => (ar.getD j none).map (fun k => G.1 + k)) i.toNatClampNeg (some (G.1 + v)))))))) ) H1 := g1
        rw [e1] at g1
        have := k ls H1 locs1 hl g1 g3
        rw [List.length_set, e2] at this
        exact this
      · cases h
    · cases h
  · cases h
end EXH
