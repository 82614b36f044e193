/-! NEW CELLS, and the calls that the kit has rows for. -/
theorem ex_rep (n : Nat) : (fun j => (List.replicate n (0 : Int32)).getD j 0) = fun _ => 0 := by
  funext j
  rw [List.getD_eq_getElem?_getD, List.getElem?_replicate]
  split <;> rfl
theorem ex_repQ {G : ex_G} (n : Nat) : (fun j => ((List.replicate n (none : Option Nat)).getD j none).map (fun k => G.1 + k)) = fun _ => none := by
  funext j
  rw [List.getD_eq_getElem?_getD, List.getElem?_replicate]
  split <;> rfl
theorem ex_dflv {G : ex_G} {ci : Nat} (h : ci < 9) : (ex_dfl ci).map (ex_cv G) = ex_dfl ci := by
  match ci, h with
  | 0, _ => rfl
  | 1, _ => rfl
  | 2, _ => rfl
  | 3, _ => rfl
  | 4, _ => rfl
  | 5, _ => rfl
  | 6, _ => rfl
  | 7, _ => rfl
  | 8, _ => rfl
  | n + 9, h => exact absurd h (by omega)
/-- one cell more: what holds of the heap with it -/
theorem ex_push {G : ex_G} {w : ex_W} {x : ex_E} {H H1 : Heap} (hP : va_P G.2.2.2.2 vwCl (ex_cw G w) H) (ho : ∀ q, q < H.size → H1[q]? = H[q]?) (hx : va_at G.2.2.2.2 vwCl (G.1 + w.length, ex_ce G x) H1) : va_P G.2.2.2.2 vwCl (ex_cw G (w ++ [x])) H1 := by
  rw [ex_cw_app]
  refine (hP.kept (fun k q hk => ho q.1 (hP k q hk).lt)).app (fun k q hk => ?_)
  have hz : k < 1 := (List.getElem?_eq_some_iff.mp hk).1
  rw [show k = 0 by omega] at hk
  cases hk
  exact hx
theorem ex_pushS {G : ex_G} {H0 H H1 : Heap} {locs : List Loc} (hS : va_S (ex_Ar G) H0 H locs) (hz : H1.size = H.size + 1) (ho : ∀ q, q < H.size → H1[q]? = H[q]?) : va_S (ex_Ar G) H0 H1 locs :=
  ⟨Nat.le_trans hS.1 (by omega), fun x h1 h2 => (ho x (Nat.lt_of_lt_of_le h1 hS.1)).trans (hS.2.1 x h1 h2), hS.2.2⟩
section EXN
variable {p : Program} {l : Launch} {e : Env} {R : Room} {s : State} {m : MethodId} {args : Array Value} {below : List Frame} {meth : Method} {c : Code} {Q : State → Prop} {G : ex_G} {nL L0 S0 pc : Nat} {lo : ex_L} {st : List Value} {w : ex_W} {M : ex_M} {i : Nat} {X : List Int32}
variable {a : Nat} {b : ex_L} {f : List Value} {d : ex_W}
theorem xw_new (C : ex_Cx p s m args meth c G M L0) (hL : L0 ≤ w.length) (hS0 : S0 ≤ ex_sl w) (hR : d.length - L0 ≤ R.cells ∧ ex_sl d - S0 ≤ R.slots) (hdg : decode M.2.2.2.2.2.2.2.2.2 pc = .ok (.new i, 3)) (h : ex_nwo (ex_nwc M.2.2.1 i) pc lo st w = some (.inl ((a, b, f), d)))
    (k : ex_K p l e R s m args below meth c Q G nL L0 S0 a b f d) : ex_K p l e R s m args below meth c Q G nL L0 S0 pc lo st w := by
  unfold ex_nwo at h
  split at h
  · next ci pl hf =>
    obtain ⟨rfl, rfl, rfl, rfl⟩ := xi_go h
    have hck := ex_allA_of ex_nwc_ck hf
    unfold ex_nwcB at hck
    simp only [Bool.and_eq_true, decide_eq_true_eq] at hck
    obtain ⟨h9, hd⟩ := hck
    have hcx := ex_cxs _ h9
    have hcl := C.word (lw_in hd) rfl
    have hinst := C.word hcx.2.2.2.1 rfl
    have hini := C.word hcx.2.2.2.2.1 rfl
    have e1 : ex_sl (w ++ [.inr (.inr (ci, ex_dfl ci))]) = ex_sl w + ex_nf ci := ex_sl_app
    intro ls H locs hl hP hS
    refine ex_size C.2.2.2.2.2.2.2.2.2.2.2 hL hP hS fun hz => ?_
    have hKn := C.2.2.2.2.2.2.2.1.1 ci _ hcx.1
    have hlen : (w ++ [(.inr (.inr (ci, ex_dfl ci)) : ex_E)]).length = w.length + 1 := by simp
    rw [hlen, e1] at hR
    refine W.newcK (n := ex_nf ci) C.1 C.2.1 C.2.2.2.1 hcl hinst hini rfl hdg (by omega) (by omega) hKn.2.1 hz fun H1 kC hkC g1 z1 o1 => ?_
    have o1' : ∀ q, q < H.size → H1[q]? = H[q]? := by rw [hz]; exact o1
    have hx : va_at G.2.2.2.2 vwCl (G.1 + w.length, ex_ce G (.inr (.inr (ci, ex_dfl ci)))) H1 := by
      refine ⟨_, hcx.1, ?_⟩
      show t_OB _ _ _ _ H1 (vp_V ((ex_dfl ci).map (ex_cv G)))
      rw [ex_dflv h9]
      exact (u_born (ex_fty ci) C.2.2.2.2.1 (ex_lay_in h9) hKn hkC g1 hcx.2.1).to hcx.2.2.2.2.2.1
    have kk := k ls H1 locs hl (ex_push hP o1' hx) (ex_pushS hS (by rw [z1, hz]) o1')
    rw [hlen, e1, show w.length + 1 - L0 = w.length - L0 + 1 by omega, show ex_sl w + ex_nf ci - S0 = ex_sl w - S0 + ex_nf ci by omega] at kk
    exact kk
  · cases h
theorem xw_nwa {ty : ArrayType} (C : ex_Cx p s m args meth c G M L0) (hL : L0 ≤ w.length) (hS0 : S0 ≤ ex_sl w) (hR : d.length - L0 ≤ R.cells ∧ ex_sl d - S0 ≤ R.slots) (hdg : decode M.2.2.2.2.2.2.2.2.2 pc = .ok (.newarray ty, 2)) (h : ex_nwa (newarray.typeOf ty) pc lo st w = some (.inl ((a, b, f), d)))
    (k : ex_K p l e R s m args below meth c Q G nL L0 S0 a b f d) : ex_K p l e R s m args below meth c Q G nL L0 S0 pc lo st w := by
  unfold ex_nwa at h
  split at h
  · next n r =>
    split at h
    · next hc =>
      obtain ⟨hn, hn2, hty⟩ := hc
      obtain ⟨rfl, rfl, rfl, rfl⟩ := xi_go h
      have hN : n.toNatClampNeg ≤ 1000 := by
        have h1 := Int32.le_iff_toInt_le.mp hn2
        have h2 : (1000 : Int32).toInt = 1000 := by decide
        rw [h2] at h1
        show n.toInt.toNat ≤ 1000
        omega
      have harr : (Cond.arrayClass (newarray.typeOf ty)).before args s = true := by
        rcases hty with e | e | e <;> rw [e]
        · exact C.word ac_0 rfl
        · exact C.word ac_1 rfl
        · exact C.word ac_2 rfl
      have hdv : defaultValue (newarray.typeOf ty) = .int 0 := by rcases hty with e | e | e <;> rw [e] <;> rfl
      have hcb : componentBytes (newarray.typeOf ty) ≤ 4 := by rcases hty with e | e | e <;> rw [e] <;> decide
      have e1 : ex_sl (w ++ [.inl (newarray.typeOf ty, List.replicate n.toNatClampNeg 0)]) = ex_sl w + n.toNatClampNeg := by rw [ex_sl_app]; simp [ex_sz]
      intro ls H locs hl hP hS
      refine ex_size C.2.2.2.2.2.2.2.2.2.2.2 hL hP hS fun hz => ?_
      have hlen : (w ++ [(.inl (newarray.typeOf ty, List.replicate n.toNatClampNeg 0) : ex_E)]).length = w.length + 1 := by simp
      rw [hlen, e1] at hR
      refine va_newaK C.1 C.2.1 harr rfl hdg rfl hn rfl ?_ (by omega) (by omega) hz fun H1 cA g1 z1 o1 _ hfc => ?_
      · exact Nat.le_trans (Nat.mul_le_mul hN hcb) (by decide)
      have o1' : ∀ q, q < H.size → H1[q]? = H[q]? := by rw [hz]; exact o1
      have hid : cA = G.2.2.1 (newarray.typeOf ty) := by
        have hK := C.2.2.2.2.2.2.2.1.2
        rcases hty with e | e | e <;> rw [e] at hfc ⊢
        · exact Option.some.inj (hfc.symm.trans (hK 0 _ ex_t0).2)
        · exact Option.some.inj (hfc.symm.trans (hK 1 _ ex_t1).2)
        · exact Option.some.inj (hfc.symm.trans (hK 2 _ ex_t2).2)
      have hx : va_at G.2.2.2.2 vwCl (G.1 + w.length, ex_ce G (.inl (newarray.typeOf ty, List.replicate n.toNatClampNeg 0))) H1 := by
        show H1[G.1 + w.length]? = some (vp_cell (G.2.2.1 (newarray.typeOf ty)) ((List.replicate n.toNatClampNeg (0 : Int32)).length, .inl (fun j => (List.replicate n.toNatClampNeg (0 : Int32)).getD j 0)))
        rw [ex_rep, List.length_replicate, vp_cell_i, g1, hid, hdv]
      have kk := k ls H1 locs hl (ex_push hP o1' hx) (ex_pushS hS (by rw [z1, hz]) o1')
      rw [hlen, e1, show w.length + 1 - L0 = w.length - L0 + 1 by omega, show ex_sl w + n.toNatClampNeg - S0 = ex_sl w - S0 + n.toNatClampNeg by omega] at kk
      exact kk
    · cases h
  · cases h
theorem xw_nwq (C : ex_Cx p s m args meth c G M L0) (hL : L0 ≤ w.length) (hS0 : S0 ≤ ex_sl w) (hR : d.length - L0 ≤ R.cells ∧ ex_sl d - S0 ≤ R.slots) (hdg : decode M.2.2.2.2.2.2.2.2.2 pc = .ok (.anewarray i, 3)) (h : ex_nwq (ex_nwc M.2.2.1 i) pc lo st w = some (.inl ((a, b, f), d)))
    (k : ex_K p l e R s m args below meth c Q G nL L0 S0 a b f d) : ex_K p l e R s m args below meth c Q G nL L0 S0 pc lo st w := by
  unfold ex_nwq at h
  split at h
  · next ci pl n r hf =>
    split at h
    · next hc =>
      obtain ⟨hn, hn2, hq⟩ := hc
      obtain ⟨rfl, rfl, rfl, rfl⟩ := xi_go h
      have hck := ex_allA_of ex_nwc_ck hf
      unfold ex_nwcB at hck
      simp only [Bool.and_eq_true, decide_eq_true_eq] at hck
      obtain ⟨h9, hd⟩ := hck
      have hcl := C.word (lw_in hd) rfl
      have hN : n.toNatClampNeg ≤ 1000 := by
        have h1 := Int32.le_iff_toInt_le.mp hn2
        have h2 : (1000 : Int32).toInt = 1000 := by decide
        rw [h2] at h1
        show n.toInt.toNat ≤ 1000
        omega
      have hover : (Cond.arrayOver (.object (ex_on ci))).before args s = true := by
        have hq2 := hq
        unfold ex_qix at hq2
        split at hq2
        · next h6 => subst h6; exact va_AO.use C.2.2.2.2.2.2.2.2.2.1.1
        · split at hq2
          · next h4 => subst h4; exact va_AO.use C.2.2.2.2.2.2.2.2.2.2.1
          · exact absurd hq2 (by decide)
      obtain ⟨t1, t2⟩ := ex_tq (G := G) hq
      have e1 : ex_sl (w ++ [.inr (.inl (ci, List.replicate n.toNatClampNeg none))]) = ex_sl w + n.toNatClampNeg := by rw [ex_sl_app]; simp [ex_sz]
      intro ls H locs hl hP hS
      refine ex_size C.2.2.2.2.2.2.2.2.2.2.2 hL hP hS fun hz => ?_
      have hlen : (w ++ [(.inr (.inl (ci, List.replicate n.toNatClampNeg none)) : ex_E)]).length = w.length + 1 := by simp
      rw [hlen, e1] at hR
      refine W.anew C.1 C.2.1 C.2.2.2.1 hcl hover rfl hdg rfl hn (Nat.le_trans (Nat.mul_le_mul_right 4 hN) (by decide)) (by omega) (by omega) fun cA kA comp f1 f2 f3 f4 => ?_
      generalize hH1 : H.push ({ cls := cA, slots := Array.replicate n.toNatClampNeg .null, vm := .none } : Cell) = H1
      have z1 : H1.size = H.size + 1 := by rw [← hH1, Array.size_push]
      have g1 : H1[H.size]? = some (arrV cA n.toNatClampNeg (fun _ => .null)) := by rw [← hH1, Array.getElem?_push_size, ← arrV_new]
      have o1 : ∀ q : Nat, q < H.size → H1[q]? = H[q]? := fun q hq => by rw [← hH1, Array.getElem?_push, if_neg (Nat.ne_of_lt hq)]
      have hid : cA = G.2.2.2.1 ci := by
        obtain ⟨kA', comp', -, -, -, h6⟩ := (C.2.2.2.2.2.2.2.1.2 _ _ t1).2
        exact Option.some.inj (f1.symm.trans h6)
      have hx : va_at G.2.2.2.2 vwCl (G.1 + w.length, ex_ce G (.inr (.inl (ci, List.replicate n.toNatClampNeg none)))) H1 := by
        show H1[G.1 + w.length]? = some (vp_cell (G.2.2.2.1 ci) ((List.replicate n.toNatClampNeg (none : Option Nat)).length, .inr (.inr (.inr (.inr (fun j => ((List.replicate n.toNatClampNeg (none : Option Nat)).getD j none).map (fun k => G.1 + k)))))))
        rw [ex_repQ, List.length_replicate, vp_cell_q, ← hz, g1, hid]
        rfl
      have kk := k ls H1 locs hl (ex_push hP o1 hx) (ex_pushS hS z1 o1)
      rw [hlen, e1, show w.length + 1 - L0 = w.length - L0 + 1 by omega, show ex_sl w + n.toNatClampNeg - S0 = ex_sl w - S0 + n.toNatClampNeg by omega] at kk
      have ez : (.ref w.length :: r : List Value).map (ex_cv G) = .ref H.size :: r.map (ex_cv G) := by
        show _ :: _ = _
        rw [hz]
        rfl
      rw [ez] at kk
      exact kk
    · cases h
  · cases h
end EXN
