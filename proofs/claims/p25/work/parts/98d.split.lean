/-! THE CHECK OF A CONTRACT IN PIECES: a pattern each. -/
noncomputable def ai_ckv (K : ai_K) (r0 : List ai_D) (rest : List ai_Nd) : Bool := ((0, K.2.2.1, [], r0) :: rest : List ai_Nd).all (fun N => Nat.beq N.2.2.2.length r0.length && N.2.2.2.all (ai_dok N.2.1.1))
noncomputable def ai_ckn (Γ : List ai_K) (C : List (Nat × ai_L × List Int)) (K : ai_K) (r0 : List ai_D) (rest : List ai_Nd) (n : Nat) (N : ai_Nd) : Bool := match ex_at ex_lst K.1 with
  | none => false
  | some M => (ai_cuts C N.1 N.2.1).all (fun S => ai_run Γ K.2.1 M C ((0, K.2.2.1, [], r0) :: rest) K.2.2.2.2 K.2.2.1.1.length N.2.2.2 n true N.1 S)
theorem ai_ck_of {Γ : List ai_K} {C : List (Nat × ai_L × List Int)} {K : ai_K} {r0 : List ai_D} {rest : List ai_Nd} {n : Nat} {M : ex_M} (hM : ex_at ex_lst K.1 = some M) (hv : ai_ckv K r0 rest = true) (h : ∀ N ∈ ((0, K.2.2.1, [], r0) :: rest : List ai_Nd), ai_ckn Γ C K r0 rest n N = true) : ai_ck Γ C K r0 rest n = true := by
  unfold ai_ck
  rw [hM]
  unfold ai_ckv at hv
  dsimp only
  rw [hv]
  dsimp only
  rw [List.all_eq_true]
  intro N hN
  have h1 := h N hN
  unfold ai_ckn at h1
  rw [hM] at h1
  exact h1
