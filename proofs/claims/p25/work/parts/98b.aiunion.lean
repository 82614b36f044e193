/-! A CONTRACT OUT OF OTHERS OF THE SAME METHOD: its start in pieces, each within the start of one of them. -/
noncomputable def ai_u1 (K : ai_K) (S : ai_S) (Γ : List ai_K) : Bool := List.rec (motive := fun _ => Bool) false (fun Q _ ih => match Nat.beq Q.1 K.1 && Nat.ble Q.2.1 K.2.1 with
  | false => ih
  | true => match ai_T 0 S Q.2.2.2.1 with
    | none => ih
    | some T => match ai_sbS false 0 Q.2.2.2.1 T S Q.2.2.1 with
      | false => ih
      | true => Q.2.2.2.2.all (fun P => match ai_aft T S P with
        | none => true
        | some S' => match P.1, S'.2.2.1 with
          | none, [] => K.2.2.2.2.any (ai_fin K.2.2.1.1.length none S')
          | some _, [a] => K.2.2.2.2.any (ai_fin K.2.2.1.1.length (some a) S')
          | _, _ => false)) Γ
theorem ai_u1_c (K : ai_K) (S : ai_S) (Q : ai_K) (Γ : List ai_K) : ai_u1 K S (Q :: Γ) = match Nat.beq Q.1 K.1 && Nat.ble Q.2.1 K.2.1 with
  | false => ai_u1 K S Γ
  | true => match ai_T 0 S Q.2.2.2.1 with
    | none => ai_u1 K S Γ
    | some T => match ai_sbS false 0 Q.2.2.2.1 T S Q.2.2.1 with
      | false => ai_u1 K S Γ
      | true => Q.2.2.2.2.all (fun P => match ai_aft T S P with
        | none => true
        | some S' => match P.1, S'.2.2.1 with
          | none, [] => K.2.2.2.2.any (ai_fin K.2.2.1.1.length none S')
          | some _, [a] => K.2.2.2.2.any (ai_fin K.2.2.1.1.length (some a) S')
          | _, _ => false) := rfl
noncomputable def ai_un (Γ : List ai_K) (C : List (Nat × ai_L × List Int)) (K : ai_K) : Bool := (ai_cuts C 0 K.2.2.1).all (fun S => ai_u1 K S Γ)
theorem ai_u1_s {ρ ρ0 : List Int} {K : ai_K} {S : ai_S} {M : ex_M} {X : List Int32} {d : Nat} {lo : ex_L} {w : ex_W} (hg : K.2.2.1.1.length = ρ0.length) (hM : ex_at ex_lst K.1 = some M) (hd : K.2.1 ≤ d) (hp : ρ0 <+: ρ) (H : ai_g ρ w S lo [] w) : ∀ {Γ : List ai_K}, (∀ Q ∈ Γ, ai_holds Q) → ai_u1 K S Γ = true → ∃ r w', Go X d M (0, lo, []) w (r, w') ∧ ∃ P, P ∈ K.2.2.2.2 ∧ ai_end ρ0 w P r w'
  | [], _, h => by cases h
  | Q :: Γ, hΓ, h => by
    have ih := ai_u1_s (X := X) hg hM hd hp H (Γ := Γ) (fun Q hQ => hΓ Q (List.mem_cons_of_mem _ hQ))
    rw [ai_u1_c] at h
    split at h
    · exact ih h
    · next hb =>
      rw [Bool.and_eq_true] at hb
      have hc : Q.1 = K.1 := Nat.eq_of_beq_eq_true hb.1
      have hD := Nat.le_of_ble_eq_true hb.2
      split at h
      · exact ih h
      · next T hT =>
        split at h
        · exact ih h
        · next hs =>
          have hp0 : ([] : List Int) <+: ρ := List.nil_prefix
          have h1 := ai_sbS_g (ρ0 := []) (fl := false) (w1 := w) hp0 H hT hs (Or.inr rfl)
          obtain ⟨t1, t2⟩ := ai_T_g (ρ0 := []) hp0 H hT
          obtain ⟨r, w', k1, P, k2, k3⟩ := hΓ Q List.mem_cons_self M (by rw [hc]; exact hM) X d (by omega) _ _ w h1
          obtain ⟨S', k4, k5⟩ := ai_aft_g t2 H k3
          rw [List.all_eq_true] at h
          have h := h P k2
          rw [k4] at h
          dsimp only at h
          refine ⟨r, w', k1, ?_⟩
          have hst := k5.2.2.1
          split at h
          · next hP hS =>
            rw [List.any_eq_true] at h
            obtain ⟨P', hP', hf⟩ := h
            rw [hS] at hst
            have hr : r.toList ++ [] = [] := hst.nil
            cases r with
            | some v => cases hr
            | none =>
              rw [hg] at hf
              exact ⟨P', hP', ai_fin_g (r := none) hp k5 trivial hf⟩
          · next b a hP hS =>
            rw [List.any_eq_true] at h
            obtain ⟨P', hP', hf⟩ := h
            rw [hS] at hst
            obtain ⟨v, r', e1, e2, -⟩ := hst.cons
            cases r with
            | none => cases e1
            | some v' =>
              cases e1
              rw [hg] at hf
              exact ⟨P', hP', ai_fin_g (r := some a) hp k5 e2 hf⟩
          · cases h
theorem ai_uni {Γ : List ai_K} {C : List (Nat × ai_L × List Int)} {K : ai_K} (h : ai_un Γ C K = true) (hΓ : ∀ Q ∈ Γ, ai_holds Q) : ai_holds K := by
  intro M hM X d hd ρ0 lo w H
  unfold ai_un at h
  rw [List.all_eq_true] at h
  obtain ⟨S, hS, ρ, hp, H'⟩ := ai_cuts_g (C := C) (pc := 0) H
  exact ai_u1_s H.1.1.symm hM hd hp H' hΓ (h S hS)
theorem ai_nil : ∀ K ∈ ([] : List ai_K), ai_holds K := fun K h => by cases h
theorem ai_cons {K : ai_K} {Γ : List ai_K} (h : ai_holds K) (g : ∀ K ∈ Γ, ai_holds K) : ∀ K' ∈ K :: Γ, ai_holds K' := fun K' hK => by
  rcases List.mem_cons.mp hK with rfl | hK
  · exact h
  · exact g K' hK
