/-! EVERY METHOD OF THE TABLES: its contract is what the abstract machine runs to. -/
theorem ex_lay_in2 {G : ex_G} : ∀ (as : List Value) (k i : Nat) (v : Value), (ex_lay as)[i]? = some (some v) → (k + i, ex_cv G v) ∈ lv_args k (as.map (ex_cv G)) := by
  intro as
  induction as with
  | nil => intro k i v h; simp [ex_lay] at h
  | cons u r ih =>
    intro k i v h
    unfold ex_lay at h
    show _ ∈ (k, ex_cv G u) :: lv_args (if (ex_cv G u).category = 2 then k + 2 else k + 1) (r.map (ex_cv G))
    rw [ex_cat]
    cases hu : ex_two u with
    | true =>
      rw [hu] at h
      simp only at h
      rw [if_pos ((ex_two_cat u).mp hu)]
      match i, h with
      | 0, h =>
        simp at h
        subst h
        exact List.mem_cons_self
      | 1, h => simp at h
      | j + 2, h =>
        have h2 : (ex_lay r)[j]? = some (some v) := by simpa using h
        have := ih (k + 2) j v h2
        rw [show k + 2 + j = k + (j + 2) by omega] at this
        exact List.mem_cons_of_mem _ this
    | false =>
      rw [hu] at h
      simp only at h
      rw [if_neg (fun q => by rw [(ex_two_cat u).mpr q] at hu; cases hu)]
      match i, h with
      | 0, h =>
        simp at h
        subst h
        exact List.mem_cons_self
      | j + 1, h =>
        have h2 : (ex_lay r)[j]? = some (some v) := by simpa using h
        have := ih (k + 1) j v h2
        rw [show k + 1 + j = k + (j + 1) by omega] at this
        exact List.mem_cons_of_mem _ this
theorem ex_lay_len {G : ex_G} : ∀ as : List Value, (lg_sl (as.map (ex_cv G))).length = (ex_lay as).length := by
  intro as
  induction as with
  | nil => rfl
  | cons u r ih =>
    have h1 : (lg_sl ((u :: r).map (ex_cv G))) = (if (ex_cv G u).category = 2 then [.val (ex_cv G u), .second] else [.val (ex_cv G u)]) ++ lg_sl (r.map (ex_cv G)) := rfl
    rw [h1, ex_cat, List.length_append, ih]
    have h2 : ex_lay (u :: r) = match ex_two u with
      | true => some u :: none :: ex_lay r
      | false => some u :: ex_lay r := rfl
    rw [h2]
    cases hu : ex_two u with
    | true =>
      rw [if_pos ((ex_two_cat u).mp hu)]
      simp only [List.length_cons, List.length_nil]
      omega
    | false =>
      rw [if_neg (fun q => by rw [(ex_two_cat u).mpr q] at hu; cases hu)]
      simp only [List.length_cons, List.length_nil]
      omega
theorem ex_ent_lo {G : ex_G} {M : ex_M} {as : List Value} (h : (ex_lay as).length ≤ M.2.2.2.2.1) : ex_Lo G ((lg_sl (as.map (ex_cv G)) ++ List.replicate (M.2.2.2.2.1 - (lg_sl (as.map (ex_cv G))).length) Slot.unset).toArray) M.2.2.2.2.1 (ex_ent M as).2.1 := by
  have hh := lv_entry (as.map (ex_cv G)) (n := M.2.2.2.2.1) (by rw [ex_lay_len]; exact h)
  refine ex_Lo_of ?_ hh fun i v hv => ?_
  · show (ex_lay as ++ List.replicate (M.2.2.2.2.1 - (ex_lay as).length) none).length = _
    simp
    omega
  · have hv : (ex_lay as ++ List.replicate (M.2.2.2.2.1 - (ex_lay as).length) none)[i]? = some (some v) := ex_rd_some.mp hv
    by_cases hi : i < (ex_lay as).length
    · rw [List.getElem?_append_left hi] at hv
      have := ex_lay_in2 (G := G) as 0 i v hv
      rw [Nat.zero_add] at this
      exact this
    · rw [List.getElem?_append_right (by omega), List.getElem?_replicate] at hv
      split at hv <;> cases hv
section EXM
variable {p : Program} {l : Launch} {e : Env} {R : Room} {s : State} {m : MethodId} {args : Array Value} {below : List Frame} {meth : Method} {c : Code} {Q : State → Prop} {G : ex_G} {nL L0 S0 pc : Nat} {lo : ex_L} {st : List Value} {w : ex_W} {M : ex_M} {X : List Int32}
theorem xn_clr {kd : Nat} {t : Option (Nat × Nat × Nat × Nat × Nat × Nat × Nat)} {v : Option Value} (h : ex_cl kd t pc lo st w = some (.inr (.inr v))) : False := by
  unfold ex_cl at h
  repeat' split at h
  all_goals cases h
theorem xw_ret {r : Option Value} (C : ex_Cx p s m args meth c G M L0) (hr : meth.sig.returnType = M.2.2.2.1) (hck : ex_allT M.2.1 (ex_chk M.2.2.2.2.2.2.2.2.2) = true) (h : ex_step X M (pc, lo, st) w = some (.inr (.inr r))) :
    ex_K p l e R s m args below meth c (MQ below (ex_Qc G r w) args s (w.length - L0) (ex_sl w - S0) (ex_Ar G)) G nL L0 S0 pc lo st w := by
  obtain ⟨ins, hf, hc⟩ := ex_step_inr h
  obtain ⟨n, hd, hn⟩ := ex_chk_of (ex_allT_of hck hf)
  intro ls H locs hl hP hS
  rcases hc with ⟨kd, i, -, -, hc⟩ | ⟨rfl, hc⟩ | ⟨rfl, hc⟩ | ⟨rfl, hc⟩
  · exact absurd hc (fun q => xn_clr q)
  · obtain rfl : n = 1 := hn.resolve_left (by decide)
    unfold ex_ret at hc
    split at hc
    · next ty v hty =>
      split at hc
      · next hok =>
        cases hc
        unfold ex_ok at hok
        exact W.zret C.1 C.2.1 (hr.trans hty) (of_decide_eq_true hok) (fun t ht _ => ⟨rfl, by rw [ht]; exact hP, hS.F ht⟩) hS.2.2 hd C.2.2.2.2.2.1
      · cases hc
    · cases hc
  · obtain rfl : n = 1 := hn.resolve_left (by decide)
    unfold ex_lret at hc
    split at hc
    · next v hty =>
      cases hc
      exact W.lret C.1 C.2.1 (hr.trans hty) (fun t ht _ => ⟨rfl, by rw [ht]; exact hP, hS.F ht⟩) hS.2.2 hd C.2.2.2.2.2.1
    · cases hc
  · obtain rfl : n = 1 := hn.resolve_left (by decide)
    unfold ex_vret at hc
    split at hc
    · next hty =>
      cases hc
      exact W.vret C.1 C.2.1 (hr.trans hty) (fun t ht _ => ⟨rfl, by rw [ht]; exact hP, hS.F ht⟩) hS.2.2 hd C.2.2.2.2.2.1
    · cases hc
theorem ex_cl_ne {kd i cal : Nat} {as : List Value} {g : ex_F} (h : ex_cl kd (ex_cal M.2.2.1 i) pc lo st w = some (.inr (.inl (cal, as, g)))) : cal ≠ 0 := by
  unfold ex_cl at h
  split at h
  · next cal0 n0 k0 rc p1 p2 p3 hf =>
    have hck := ex_allA_of ex_cal_ck hf
    unfold ex_calB at hck
    rw [Bool.and_eq_true] at hck
    have h0 : cal0 ≠ 0 := of_decide_eq_true hck.1
    repeat' split at h
    all_goals first | (cases h; done) | (cases h; exact h0)
  · cases h
/-- a frame runs to its end -/
theorem ex_runW {d : Nat} {r : Option Value} {we : ex_W} (hcall : ∀ d', d = d' + 1 → ∀ (n : Nat) (M' : ex_M) (as : List Value) (w : ex_W) (r : Option Value) (w' : ex_W), M' ∈ ex_lst → M'.1 ≠ 0 → (ex_lay as).length ≤ M'.2.2.2.2.1 → ex_run X n d' M' (ex_ent M' as) w = some (r, w') → ex_Met l G d' M' as w r w')
    (C : ex_Cx p s m args meth c G M L0) (hck : ex_allT M.2.1 (ex_chk M.2.2.2.2.2.2.2.2.2) = true) (hgo : M.2.2.2.2.2.2.1 < 9 → ex_cn M.2.2.1 = ex_on M.2.2.2.2.2.2.1) (hX : M.1 = 0 → ex_Sc X G s) (hnL : nL = M.2.2.2.2.1) (hRf : d + 1 ≤ R.frames ∧ 200 * (d + 1) ≤ R.locals) (hRe : we.length - L0 ≤ R.cells ∧ ex_sl we - S0 ≤ R.slots)
    (kend : ∀ (pc : Nat) (lo : ex_L) (st : List Value), ex_step X M (pc, lo, st) we = some (.inr (.inr r)) → ex_K p l e R s m args below meth c Q G nL L0 S0 pc lo st we) :
    ∀ (n pc : Nat) (lo : ex_L) (st : List Value) (w : ex_W), L0 ≤ w.length → S0 ≤ ex_sl w → ex_run X n d M (pc, lo, st) w = some (r, we) → ex_K p l e R s m args below meth c Q G nL L0 S0 pc lo st w := by
  intro n
  induction n with
  | zero => intro pc lo st w _ _ h; cases h
  | succ n ih =>
    intro pc lo st w hL hS0 h
    have hle := ex_run_le _ _ _ _ _ _ _ h
    rw [ex_run_s] at h
    unfold ex_nxt at h
    split at h
    · cases h
    · next q hq =>
      obtain ⟨⟨a, b, f⟩, dd⟩ := q
      have h1 := ex_step_le hq
      have h2 : ex_le dd we := ex_run_le _ _ _ _ _ _ _ h
      have := hle.1
      have := hle.2
      have := h2.1
      have := h2.2
      exact ex_next C hck hgo hX hnL hL hS0 ⟨by omega, by omega⟩ ⟨by omega, by omega⟩ ⟨by omega, by omega⟩ hq (ih _ _ _ _ (Nat.le_trans hL h1.1) (Nat.le_trans hS0 h1.2) h)
    · next cal as gg hq =>
      split at h
      · next d' M' hM' =>
        split at h
        · next hlen =>
          split at h
          · next r1 w1 h1 =>
            have h2 := ex_run_le _ _ _ _ _ _ _ h1
            have h3 := ex_run_le _ _ _ _ _ _ _ h
            have := h3.1
            have := h3.2
            obtain ⟨ins, hf, hc⟩ := ex_step_inr hq
            obtain ⟨n1, hd, hn1⟩ := ex_chk_of (ex_allT_of hck hf)
            rcases hc with ⟨kd, i, hkd, rfl, hc⟩ | ⟨rfl, hc⟩ | ⟨rfl, hc⟩ | ⟨rfl, hc⟩
            · have hn3 : n1 = 3 := by
                match kd, hkd, hn1 with
                | 0, _, hn1 => exact hn1.resolve_left (fun q => by cases q)
                | 1, _, hn1 => exact hn1.resolve_left (fun q => by cases q)
                | 2, _, hn1 => exact hn1.resolve_left (fun q => by cases q)
              subst hn3
              obtain ⟨e1, e2⟩ := ex_num hM'
              have hne : M'.1 ≠ 0 := by rw [e1]; exact ex_cl_ne hc
              have hgm : ex_gm M' := (ex_gms M' e2).resolve_left (fun q => hne (by rw [q]; rfl))
              exact xw_call C hnL hL hS0 hd hc hM' hgm (hcall d' rfl n M' as w r1 w1 e2 hne hlen h1) h2 ⟨by omega, by omega⟩ ⟨by omega, by omega⟩ (ih _ _ _ _ (Nat.le_trans hL h2.1) (Nat.le_trans hS0 h2.2) h)
            · unfold ex_ret at hc
              repeat' split at hc
              all_goals cases hc
            · unfold ex_lret at hc
              repeat' split at hc
              all_goals cases hc
            · unfold ex_vret at hc
              repeat' split at hc
              all_goals cases hc
          · cases h
        · cases h
      · cases h
    · next v hq =>
      cases h
      exact kend pc lo st hq
/-- EVERY METHOD'S CONTRACT -/
theorem ex_met : ∀ (d n : Nat) (M : ex_M) (as : List Value) (w : ex_W) (r : Option Value) (w' : ex_W), M ∈ ex_lst → M.1 ≠ 0 → (ex_lay as).length ≤ M.2.2.2.2.1 → ex_run X n d M (ex_ent M as) w = some (r, w') → ex_Met l G d M as w r w' := by
  intro d
  induction d with
  | zero =>
    intro n M as w r w' hM hne hlen h
    have hgm : ex_gm M := (ex_gms M hM).resolve_left (fun q => hne (by rw [q]; rfl))
    have hcp := ex_cps M.2.2.1 hgm.2.2.2.2.2.2.1
    refine Met.ofW (by rw [hgm.2.2.1]; exact hcp.1) rfl ?_
    intro p e s m args below meth c s₁ B hml hv
    obtain ⟨rfl, q1, q2, q3, q4, q5, q6⟩ := hv
    have hts := atoms_spec (ws := ex_ws M) B.pre
    have C : ex_Cx p s m ((as.map (ex_cv G)).toArray) meth c G M w.length := ⟨B.exec, B.bytes, hml, by rw [← hgm.2.2.1]; exact findClass_of_methodNamed B.named, fun x hx => hts x (List.mem_cons_of_mem _ hx), B.notSynchronized, fun hI => (name_of_methodNamed B.named B.method).1.trans (hgm.2.2.2.1 hI), q3, q4, q5, q6, q1⟩
    rw [lg_entry_eq]
    have K := ex_runW (X := X) (d := 0) (R := (headSpec (ex_ws M) (ex_rm 0 (w'.length - w.length) (ex_sl w' - ex_sl w))).room) (e := e) (l := l) (below := below) (S0 := ex_sl w) (Q := MQ below (ex_Qc G r w') ((as.map (ex_cv G)).toArray) s (w'.length - w.length) (ex_sl w' - ex_sl w) (ex_Ar G)) (fun d' hd => by cases hd) C hgm.1 hgm.2.2.2.2.2.1 (fun h0 => absurd h0 hne) rfl ⟨Nat.le_refl _, Nat.le_refl _⟩ ⟨Nat.le_refl _, Nat.le_refl _⟩ (fun pc lo st hq => xw_ret C B.returns hgm.1 hq) n 0 _ [] w (Nat.le_refl _) (Nat.le_refl _) h
    have K := K _ s.heap [] (ex_ent_lo hlen) q2 va_S.rf
    rw [Nat.sub_self, Nat.sub_self] at K
    exact K
  | succ d ihd =>
    intro n M as w r w' hM hne hlen h
    have hgm : ex_gm M := (ex_gms M hM).resolve_left (fun q => hne (by rw [q]; rfl))
    have hcp := ex_cps M.2.2.1 hgm.2.2.2.2.2.2.1
    refine Met.ofW (by rw [hgm.2.2.1]; exact hcp.1) rfl ?_
    intro p e s m args below meth c s₁ B hml hv
    obtain ⟨rfl, q1, q2, q3, q4, q5, q6⟩ := hv
    have hts := atoms_spec (ws := ex_ws M) B.pre
    have C : ex_Cx p s m ((as.map (ex_cv G)).toArray) meth c G M w.length := ⟨B.exec, B.bytes, hml, by rw [← hgm.2.2.1]; exact findClass_of_methodNamed B.named, fun x hx => hts x (List.mem_cons_of_mem _ hx), B.notSynchronized, fun hI => (name_of_methodNamed B.named B.method).1.trans (hgm.2.2.2.1 hI), q3, q4, q5, q6, q1⟩
    rw [lg_entry_eq]
    have K := ex_runW (X := X) (d := d + 1) (R := (headSpec (ex_ws M) (ex_rm (d + 1) (w'.length - w.length) (ex_sl w' - ex_sl w))).room) (e := e) (l := l) (below := below) (S0 := ex_sl w) (Q := MQ below (ex_Qc G r w') ((as.map (ex_cv G)).toArray) s (w'.length - w.length) (ex_sl w' - ex_sl w) (ex_Ar G)) (fun d' hd => by cases hd; exact ihd) C hgm.1 hgm.2.2.2.2.2.1 (fun h0 => absurd h0 hne) rfl ⟨Nat.le_refl _, Nat.le_refl _⟩ ⟨Nat.le_refl _, Nat.le_refl _⟩ (fun pc lo st hq => xw_ret C B.returns hgm.1 hq) n 0 _ [] w (Nat.le_refl _) (Nat.le_refl _) h
    have K := K _ s.heap [] (ex_ent_lo hlen) q2 va_S.rf
    rw [Nat.sub_self, Nat.sub_self] at K
    exact K
end EXM
