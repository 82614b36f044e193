/-! IMAGES: copyOf, keep, back. Written by wip/vg/im2gen.py. -/
def tL (ta : Nat → List Int32) : Prop := (ta 0).length = 4 ∧ (ta 1).length = 17 ∧ (ta 2).length = 60 ∧ (ta 3).length = 5 ∧ (ta 4).length = 4 ∧ (ta 5).length = 4
section IM
variable {X : List Int32} {d p t : Nat} {w : ex_W} {tf tfp : Nat → Int32} {ta tap : Nat → List Int32} {KE KM ST : List Int32} {gs fs5 : List Value}
theorem tA.off {w' : ex_W} (h : tA w p tf ta) (e : ∀ q, p ≤ q → q ≤ p + 6 → ex_at w' q = ex_at w q) : tA w' p tf ta := ⟨(e p (by omega) (by omega)).trans h.1, fun k hk => (e (p + 1 + k) (by omega) (by omega)).trans (h.2 k hk)⟩
theorem cpa_36_1 (hp : tA w 36 tfp tap) (ht : tA w 1 tf ta) (hk : tL tap) (hl : tL ta) : ∃ w1, Go X d mt_144 (ex_ent mt_144 [.ref 36, .ref 1]) w (none, w1) ∧ tA w1 36 tf ta ∧ ∀ q, ¬ (36 ≤ q ∧ q ≤ 36 + 6) → ex_at w1 q = ex_at w q :=
  ⟨_, cpy_36_1 hp.1 ht.1 (hp.2 0 (by decide)) (ht.2 0 (by decide)) (hp.2 1 (by decide)) (ht.2 1 (by decide)) (hp.2 2 (by decide)) (ht.2 2 (by decide)) (hp.2 3 (by decide)) (ht.2 3 (by decide)) (hp.2 4 (by decide)) (ht.2 4 (by decide)) (hp.2 5 (by decide)) (ht.2 5 (by decide)) hl.1 hk.1 hl.2.1 hk.2.1 hl.2.2.1 hk.2.2.1 hl.2.2.2.1 hk.2.2.2.1 hl.2.2.2.2.1 hk.2.2.2.2.1 hl.2.2.2.2.2 hk.2.2.2.2.2, ⟨vg_at_o rfl (vg_at_o rfl (vg_at_o rfl (vg_at_o rfl (vg_at_o rfl (vg_at_o rfl (vg_at_put hp.1)))))), fun k hk => match k, hk with
    | 0, _ => vg_at_o rfl (vg_at_o rfl (vg_at_o rfl (vg_at_o rfl (vg_at_o rfl (vg_at_put (vg_at_o rfl (hp.2 0 (by decide))))))))
    | 1, _ => vg_at_o rfl (vg_at_o rfl (vg_at_o rfl (vg_at_o rfl (vg_at_put (vg_at_o rfl (vg_at_o rfl (hp.2 1 (by decide))))))))
    | 2, _ => vg_at_o rfl (vg_at_o rfl (vg_at_o rfl (vg_at_put (vg_at_o rfl (vg_at_o rfl (vg_at_o rfl (hp.2 2 (by decide))))))))
    | 3, _ => vg_at_o rfl (vg_at_o rfl (vg_at_put (vg_at_o rfl (vg_at_o rfl (vg_at_o rfl (vg_at_o rfl (hp.2 3 (by decide))))))))
    | 4, _ => vg_at_o rfl (vg_at_put (vg_at_o rfl (vg_at_o rfl (vg_at_o rfl (vg_at_o rfl (vg_at_o rfl (hp.2 4 (by decide))))))))
    | 5, _ => vg_at_put (vg_at_o rfl (vg_at_o rfl (vg_at_o rfl (vg_at_o rfl (vg_at_o rfl (vg_at_o rfl (hp.2 5 (by decide))))))))
    | k + 6, hk => absurd hk (by omega)⟩, fun q hq => (vg_at_ne (sh_beq (by omega))).trans ((vg_at_ne (sh_beq (by omega))).trans ((vg_at_ne (sh_beq (by omega))).trans ((vg_at_ne (sh_beq (by omega))).trans ((vg_at_ne (sh_beq (by omega))).trans ((vg_at_ne (sh_beq (by omega))).trans (vg_at_ne (sh_beq (by omega))))))))⟩
theorem cpa_36_8 (hp : tA w 36 tfp tap) (ht : tA w 8 tf ta) (hk : tL tap) (hl : tL ta) : ∃ w1, Go X d mt_144 (ex_ent mt_144 [.ref 36, .ref 8]) w (none, w1) ∧ tA w1 36 tf ta ∧ ∀ q, ¬ (36 ≤ q ∧ q ≤ 36 + 6) → ex_at w1 q = ex_at w q :=
  ⟨_, cpy_36_8 hp.1 ht.1 (hp.2 0 (by decide)) (ht.2 0 (by decide)) (hp.2 1 (by decide)) (ht.2 1 (by decide)) (hp.2 2 (by decide)) (ht.2 2 (by decide)) (hp.2 3 (by decide)) (ht.2 3 (by decide)) (hp.2 4 (by decide)) (ht.2 4 (by decide)) (hp.2 5 (by decide)) (ht.2 5 (by decide)) hl.1 hk.1 hl.2.1 hk.2.1 hl.2.2.1 hk.2.2.1 hl.2.2.2.1 hk.2.2.2.1 hl.2.2.2.2.1 hk.2.2.2.2.1 hl.2.2.2.2.2 hk.2.2.2.2.2, ⟨vg_at_o rfl (vg_at_o rfl (vg_at_o rfl (vg_at_o rfl (vg_at_o rfl (vg_at_o rfl (vg_at_put hp.1)))))), fun k hk => match k, hk with
    | 0, _ => vg_at_o rfl (vg_at_o rfl (vg_at_o rfl (vg_at_o rfl (vg_at_o rfl (vg_at_put (vg_at_o rfl (hp.2 0 (by decide))))))))
    | 1, _ => vg_at_o rfl (vg_at_o rfl (vg_at_o rfl (vg_at_o rfl (vg_at_put (vg_at_o rfl (vg_at_o rfl (hp.2 1 (by decide))))))))
    | 2, _ => vg_at_o rfl (vg_at_o rfl (vg_at_o rfl (vg_at_put (vg_at_o rfl (vg_at_o rfl (vg_at_o rfl (hp.2 2 (by decide))))))))
    | 3, _ => vg_at_o rfl (vg_at_o rfl (vg_at_put (vg_at_o rfl (vg_at_o rfl (vg_at_o rfl (vg_at_o rfl (hp.2 3 (by decide))))))))
    | 4, _ => vg_at_o rfl (vg_at_put (vg_at_o rfl (vg_at_o rfl (vg_at_o rfl (vg_at_o rfl (vg_at_o rfl (hp.2 4 (by decide))))))))
    | 5, _ => vg_at_put (vg_at_o rfl (vg_at_o rfl (vg_at_o rfl (vg_at_o rfl (vg_at_o rfl (vg_at_o rfl (hp.2 5 (by decide))))))))
    | k + 6, hk => absurd hk (by omega)⟩, fun q hq => (vg_at_ne (sh_beq (by omega))).trans ((vg_at_ne (sh_beq (by omega))).trans ((vg_at_ne (sh_beq (by omega))).trans ((vg_at_ne (sh_beq (by omega))).trans ((vg_at_ne (sh_beq (by omega))).trans ((vg_at_ne (sh_beq (by omega))).trans (vg_at_ne (sh_beq (by omega))))))))⟩
theorem cpa_43_1 (hp : tA w 43 tfp tap) (ht : tA w 1 tf ta) (hk : tL tap) (hl : tL ta) : ∃ w1, Go X d mt_144 (ex_ent mt_144 [.ref 43, .ref 1]) w (none, w1) ∧ tA w1 43 tf ta ∧ ∀ q, ¬ (43 ≤ q ∧ q ≤ 43 + 6) → ex_at w1 q = ex_at w q :=
  ⟨_, cpy_43_1 hp.1 ht.1 (hp.2 0 (by decide)) (ht.2 0 (by decide)) (hp.2 1 (by decide)) (ht.2 1 (by decide)) (hp.2 2 (by decide)) (ht.2 2 (by decide)) (hp.2 3 (by decide)) (ht.2 3 (by decide)) (hp.2 4 (by decide)) (ht.2 4 (by decide)) (hp.2 5 (by decide)) (ht.2 5 (by decide)) hl.1 hk.1 hl.2.1 hk.2.1 hl.2.2.1 hk.2.2.1 hl.2.2.2.1 hk.2.2.2.1 hl.2.2.2.2.1 hk.2.2.2.2.1 hl.2.2.2.2.2 hk.2.2.2.2.2, ⟨vg_at_o rfl (vg_at_o rfl (vg_at_o rfl (vg_at_o rfl (vg_at_o rfl (vg_at_o rfl (vg_at_put hp.1)))))), fun k hk => match k, hk with
    | 0, _ => vg_at_o rfl (vg_at_o rfl (vg_at_o rfl (vg_at_o rfl (vg_at_o rfl (vg_at_put (vg_at_o rfl (hp.2 0 (by decide))))))))
    | 1, _ => vg_at_o rfl (vg_at_o rfl (vg_at_o rfl (vg_at_o rfl (vg_at_put (vg_at_o rfl (vg_at_o rfl (hp.2 1 (by decide))))))))
    | 2, _ => vg_at_o rfl (vg_at_o rfl (vg_at_o rfl (vg_at_put (vg_at_o rfl (vg_at_o rfl (vg_at_o rfl (hp.2 2 (by decide))))))))
    | 3, _ => vg_at_o rfl (vg_at_o rfl (vg_at_put (vg_at_o rfl (vg_at_o rfl (vg_at_o rfl (vg_at_o rfl (hp.2 3 (by decide))))))))
    | 4, _ => vg_at_o rfl (vg_at_put (vg_at_o rfl (vg_at_o rfl (vg_at_o rfl (vg_at_o rfl (vg_at_o rfl (hp.2 4 (by decide))))))))
    | 5, _ => vg_at_put (vg_at_o rfl (vg_at_o rfl (vg_at_o rfl (vg_at_o rfl (vg_at_o rfl (vg_at_o rfl (hp.2 5 (by decide))))))))
    | k + 6, hk => absurd hk (by omega)⟩, fun q hq => (vg_at_ne (sh_beq (by omega))).trans ((vg_at_ne (sh_beq (by omega))).trans ((vg_at_ne (sh_beq (by omega))).trans ((vg_at_ne (sh_beq (by omega))).trans ((vg_at_ne (sh_beq (by omega))).trans ((vg_at_ne (sh_beq (by omega))).trans (vg_at_ne (sh_beq (by omega))))))))⟩
theorem cpa_43_8 (hp : tA w 43 tfp tap) (ht : tA w 8 tf ta) (hk : tL tap) (hl : tL ta) : ∃ w1, Go X d mt_144 (ex_ent mt_144 [.ref 43, .ref 8]) w (none, w1) ∧ tA w1 43 tf ta ∧ ∀ q, ¬ (43 ≤ q ∧ q ≤ 43 + 6) → ex_at w1 q = ex_at w q :=
  ⟨_, cpy_43_8 hp.1 ht.1 (hp.2 0 (by decide)) (ht.2 0 (by decide)) (hp.2 1 (by decide)) (ht.2 1 (by decide)) (hp.2 2 (by decide)) (ht.2 2 (by decide)) (hp.2 3 (by decide)) (ht.2 3 (by decide)) (hp.2 4 (by decide)) (ht.2 4 (by decide)) (hp.2 5 (by decide)) (ht.2 5 (by decide)) hl.1 hk.1 hl.2.1 hk.2.1 hl.2.2.1 hk.2.2.1 hl.2.2.2.1 hk.2.2.2.1 hl.2.2.2.2.1 hk.2.2.2.2.1 hl.2.2.2.2.2 hk.2.2.2.2.2, ⟨vg_at_o rfl (vg_at_o rfl (vg_at_o rfl (vg_at_o rfl (vg_at_o rfl (vg_at_o rfl (vg_at_put hp.1)))))), fun k hk => match k, hk with
    | 0, _ => vg_at_o rfl (vg_at_o rfl (vg_at_o rfl (vg_at_o rfl (vg_at_o rfl (vg_at_put (vg_at_o rfl (hp.2 0 (by decide))))))))
    | 1, _ => vg_at_o rfl (vg_at_o rfl (vg_at_o rfl (vg_at_o rfl (vg_at_put (vg_at_o rfl (vg_at_o rfl (hp.2 1 (by decide))))))))
    | 2, _ => vg_at_o rfl (vg_at_o rfl (vg_at_o rfl (vg_at_put (vg_at_o rfl (vg_at_o rfl (vg_at_o rfl (hp.2 2 (by decide))))))))
    | 3, _ => vg_at_o rfl (vg_at_o rfl (vg_at_put (vg_at_o rfl (vg_at_o rfl (vg_at_o rfl (vg_at_o rfl (hp.2 3 (by decide))))))))
    | 4, _ => vg_at_o rfl (vg_at_put (vg_at_o rfl (vg_at_o rfl (vg_at_o rfl (vg_at_o rfl (vg_at_o rfl (hp.2 4 (by decide))))))))
    | 5, _ => vg_at_put (vg_at_o rfl (vg_at_o rfl (vg_at_o rfl (vg_at_o rfl (vg_at_o rfl (vg_at_o rfl (hp.2 5 (by decide))))))))
    | k + 6, hk => absurd hk (by omega)⟩, fun q hq => (vg_at_ne (sh_beq (by omega))).trans ((vg_at_ne (sh_beq (by omega))).trans ((vg_at_ne (sh_beq (by omega))).trans ((vg_at_ne (sh_beq (by omega))).trans ((vg_at_ne (sh_beq (by omega))).trans ((vg_at_ne (sh_beq (by omega))).trans (vg_at_ne (sh_beq (by omega))))))))⟩
theorem cpa_1_36 (hp : tA w 1 tfp tap) (ht : tA w 36 tf ta) (hk : tL tap) (hl : tL ta) : ∃ w1, Go X d mt_144 (ex_ent mt_144 [.ref 1, .ref 36]) w (none, w1) ∧ tA w1 1 tf ta ∧ ∀ q, ¬ (1 ≤ q ∧ q ≤ 1 + 6) → ex_at w1 q = ex_at w q :=
  ⟨_, cpy_1_36 hp.1 ht.1 (hp.2 0 (by decide)) (ht.2 0 (by decide)) (hp.2 1 (by decide)) (ht.2 1 (by decide)) (hp.2 2 (by decide)) (ht.2 2 (by decide)) (hp.2 3 (by decide)) (ht.2 3 (by decide)) (hp.2 4 (by decide)) (ht.2 4 (by decide)) (hp.2 5 (by decide)) (ht.2 5 (by decide)) hl.1 hk.1 hl.2.1 hk.2.1 hl.2.2.1 hk.2.2.1 hl.2.2.2.1 hk.2.2.2.1 hl.2.2.2.2.1 hk.2.2.2.2.1 hl.2.2.2.2.2 hk.2.2.2.2.2, ⟨vg_at_o rfl (vg_at_o rfl (vg_at_o rfl (vg_at_o rfl (vg_at_o rfl (vg_at_o rfl (vg_at_put hp.1)))))), fun k hk => match k, hk with
    | 0, _ => vg_at_o rfl (vg_at_o rfl (vg_at_o rfl (vg_at_o rfl (vg_at_o rfl (vg_at_put (vg_at_o rfl (hp.2 0 (by decide))))))))
    | 1, _ => vg_at_o rfl (vg_at_o rfl (vg_at_o rfl (vg_at_o rfl (vg_at_put (vg_at_o rfl (vg_at_o rfl (hp.2 1 (by decide))))))))
    | 2, _ => vg_at_o rfl (vg_at_o rfl (vg_at_o rfl (vg_at_put (vg_at_o rfl (vg_at_o rfl (vg_at_o rfl (hp.2 2 (by decide))))))))
    | 3, _ => vg_at_o rfl (vg_at_o rfl (vg_at_put (vg_at_o rfl (vg_at_o rfl (vg_at_o rfl (vg_at_o rfl (hp.2 3 (by decide))))))))
    | 4, _ => vg_at_o rfl (vg_at_put (vg_at_o rfl (vg_at_o rfl (vg_at_o rfl (vg_at_o rfl (vg_at_o rfl (hp.2 4 (by decide))))))))
    | 5, _ => vg_at_put (vg_at_o rfl (vg_at_o rfl (vg_at_o rfl (vg_at_o rfl (vg_at_o rfl (vg_at_o rfl (hp.2 5 (by decide))))))))
    | k + 6, hk => absurd hk (by omega)⟩, fun q hq => (vg_at_ne (sh_beq (by omega))).trans ((vg_at_ne (sh_beq (by omega))).trans ((vg_at_ne (sh_beq (by omega))).trans ((vg_at_ne (sh_beq (by omega))).trans ((vg_at_ne (sh_beq (by omega))).trans ((vg_at_ne (sh_beq (by omega))).trans (vg_at_ne (sh_beq (by omega))))))))⟩
theorem cpa_8_36 (hp : tA w 8 tfp tap) (ht : tA w 36 tf ta) (hk : tL tap) (hl : tL ta) : ∃ w1, Go X d mt_144 (ex_ent mt_144 [.ref 8, .ref 36]) w (none, w1) ∧ tA w1 8 tf ta ∧ ∀ q, ¬ (8 ≤ q ∧ q ≤ 8 + 6) → ex_at w1 q = ex_at w q :=
  ⟨_, cpy_8_36 hp.1 ht.1 (hp.2 0 (by decide)) (ht.2 0 (by decide)) (hp.2 1 (by decide)) (ht.2 1 (by decide)) (hp.2 2 (by decide)) (ht.2 2 (by decide)) (hp.2 3 (by decide)) (ht.2 3 (by decide)) (hp.2 4 (by decide)) (ht.2 4 (by decide)) (hp.2 5 (by decide)) (ht.2 5 (by decide)) hl.1 hk.1 hl.2.1 hk.2.1 hl.2.2.1 hk.2.2.1 hl.2.2.2.1 hk.2.2.2.1 hl.2.2.2.2.1 hk.2.2.2.2.1 hl.2.2.2.2.2 hk.2.2.2.2.2, ⟨vg_at_o rfl (vg_at_o rfl (vg_at_o rfl (vg_at_o rfl (vg_at_o rfl (vg_at_o rfl (vg_at_put hp.1)))))), fun k hk => match k, hk with
    | 0, _ => vg_at_o rfl (vg_at_o rfl (vg_at_o rfl (vg_at_o rfl (vg_at_o rfl (vg_at_put (vg_at_o rfl (hp.2 0 (by decide))))))))
    | 1, _ => vg_at_o rfl (vg_at_o rfl (vg_at_o rfl (vg_at_o rfl (vg_at_put (vg_at_o rfl (vg_at_o rfl (hp.2 1 (by decide))))))))
    | 2, _ => vg_at_o rfl (vg_at_o rfl (vg_at_o rfl (vg_at_put (vg_at_o rfl (vg_at_o rfl (vg_at_o rfl (hp.2 2 (by decide))))))))
    | 3, _ => vg_at_o rfl (vg_at_o rfl (vg_at_put (vg_at_o rfl (vg_at_o rfl (vg_at_o rfl (vg_at_o rfl (hp.2 3 (by decide))))))))
    | 4, _ => vg_at_o rfl (vg_at_put (vg_at_o rfl (vg_at_o rfl (vg_at_o rfl (vg_at_o rfl (vg_at_o rfl (hp.2 4 (by decide))))))))
    | 5, _ => vg_at_put (vg_at_o rfl (vg_at_o rfl (vg_at_o rfl (vg_at_o rfl (vg_at_o rfl (vg_at_o rfl (hp.2 5 (by decide))))))))
    | k + 6, hk => absurd hk (by omega)⟩, fun q hq => (vg_at_ne (sh_beq (by omega))).trans ((vg_at_ne (sh_beq (by omega))).trans ((vg_at_ne (sh_beq (by omega))).trans ((vg_at_ne (sh_beq (by omega))).trans ((vg_at_ne (sh_beq (by omega))).trans ((vg_at_ne (sh_beq (by omega))).trans (vg_at_ne (sh_beq (by omega))))))))⟩
theorem cpa_1_43 (hp : tA w 1 tfp tap) (ht : tA w 43 tf ta) (hk : tL tap) (hl : tL ta) : ∃ w1, Go X d mt_144 (ex_ent mt_144 [.ref 1, .ref 43]) w (none, w1) ∧ tA w1 1 tf ta ∧ ∀ q, ¬ (1 ≤ q ∧ q ≤ 1 + 6) → ex_at w1 q = ex_at w q :=
  ⟨_, cpy_1_43 hp.1 ht.1 (hp.2 0 (by decide)) (ht.2 0 (by decide)) (hp.2 1 (by decide)) (ht.2 1 (by decide)) (hp.2 2 (by decide)) (ht.2 2 (by decide)) (hp.2 3 (by decide)) (ht.2 3 (by decide)) (hp.2 4 (by decide)) (ht.2 4 (by decide)) (hp.2 5 (by decide)) (ht.2 5 (by decide)) hl.1 hk.1 hl.2.1 hk.2.1 hl.2.2.1 hk.2.2.1 hl.2.2.2.1 hk.2.2.2.1 hl.2.2.2.2.1 hk.2.2.2.2.1 hl.2.2.2.2.2 hk.2.2.2.2.2, ⟨vg_at_o rfl (vg_at_o rfl (vg_at_o rfl (vg_at_o rfl (vg_at_o rfl (vg_at_o rfl (vg_at_put hp.1)))))), fun k hk => match k, hk with
    | 0, _ => vg_at_o rfl (vg_at_o rfl (vg_at_o rfl (vg_at_o rfl (vg_at_o rfl (vg_at_put (vg_at_o rfl (hp.2 0 (by decide))))))))
    | 1, _ => vg_at_o rfl (vg_at_o rfl (vg_at_o rfl (vg_at_o rfl (vg_at_put (vg_at_o rfl (vg_at_o rfl (hp.2 1 (by decide))))))))
    | 2, _ => vg_at_o rfl (vg_at_o rfl (vg_at_o rfl (vg_at_put (vg_at_o rfl (vg_at_o rfl (vg_at_o rfl (hp.2 2 (by decide))))))))
    | 3, _ => vg_at_o rfl (vg_at_o rfl (vg_at_put (vg_at_o rfl (vg_at_o rfl (vg_at_o rfl (vg_at_o rfl (hp.2 3 (by decide))))))))
    | 4, _ => vg_at_o rfl (vg_at_put (vg_at_o rfl (vg_at_o rfl (vg_at_o rfl (vg_at_o rfl (vg_at_o rfl (hp.2 4 (by decide))))))))
    | 5, _ => vg_at_put (vg_at_o rfl (vg_at_o rfl (vg_at_o rfl (vg_at_o rfl (vg_at_o rfl (vg_at_o rfl (hp.2 5 (by decide))))))))
    | k + 6, hk => absurd hk (by omega)⟩, fun q hq => (vg_at_ne (sh_beq (by omega))).trans ((vg_at_ne (sh_beq (by omega))).trans ((vg_at_ne (sh_beq (by omega))).trans ((vg_at_ne (sh_beq (by omega))).trans ((vg_at_ne (sh_beq (by omega))).trans ((vg_at_ne (sh_beq (by omega))).trans (vg_at_ne (sh_beq (by omega))))))))⟩
theorem cpa_8_43 (hp : tA w 8 tfp tap) (ht : tA w 43 tf ta) (hk : tL tap) (hl : tL ta) : ∃ w1, Go X d mt_144 (ex_ent mt_144 [.ref 8, .ref 43]) w (none, w1) ∧ tA w1 8 tf ta ∧ ∀ q, ¬ (8 ≤ q ∧ q ≤ 8 + 6) → ex_at w1 q = ex_at w q :=
  ⟨_, cpy_8_43 hp.1 ht.1 (hp.2 0 (by decide)) (ht.2 0 (by decide)) (hp.2 1 (by decide)) (ht.2 1 (by decide)) (hp.2 2 (by decide)) (ht.2 2 (by decide)) (hp.2 3 (by decide)) (ht.2 3 (by decide)) (hp.2 4 (by decide)) (ht.2 4 (by decide)) (hp.2 5 (by decide)) (ht.2 5 (by decide)) hl.1 hk.1 hl.2.1 hk.2.1 hl.2.2.1 hk.2.2.1 hl.2.2.2.1 hk.2.2.2.1 hl.2.2.2.2.1 hk.2.2.2.2.1 hl.2.2.2.2.2 hk.2.2.2.2.2, ⟨vg_at_o rfl (vg_at_o rfl (vg_at_o rfl (vg_at_o rfl (vg_at_o rfl (vg_at_o rfl (vg_at_put hp.1)))))), fun k hk => match k, hk with
    | 0, _ => vg_at_o rfl (vg_at_o rfl (vg_at_o rfl (vg_at_o rfl (vg_at_o rfl (vg_at_put (vg_at_o rfl (hp.2 0 (by decide))))))))
    | 1, _ => vg_at_o rfl (vg_at_o rfl (vg_at_o rfl (vg_at_o rfl (vg_at_put (vg_at_o rfl (vg_at_o rfl (hp.2 1 (by decide))))))))
    | 2, _ => vg_at_o rfl (vg_at_o rfl (vg_at_o rfl (vg_at_put (vg_at_o rfl (vg_at_o rfl (vg_at_o rfl (hp.2 2 (by decide))))))))
    | 3, _ => vg_at_o rfl (vg_at_o rfl (vg_at_put (vg_at_o rfl (vg_at_o rfl (vg_at_o rfl (vg_at_o rfl (hp.2 3 (by decide))))))))
    | 4, _ => vg_at_o rfl (vg_at_put (vg_at_o rfl (vg_at_o rfl (vg_at_o rfl (vg_at_o rfl (vg_at_o rfl (hp.2 4 (by decide))))))))
    | 5, _ => vg_at_put (vg_at_o rfl (vg_at_o rfl (vg_at_o rfl (vg_at_o rfl (vg_at_o rfl (vg_at_o rfl (hp.2 5 (by decide))))))))
    | k + 6, hk => absurd hk (by omega)⟩, fun q hq => (vg_at_ne (sh_beq (by omega))).trans ((vg_at_ne (sh_beq (by omega))).trans ((vg_at_ne (sh_beq (by omega))).trans ((vg_at_ne (sh_beq (by omega))).trans ((vg_at_ne (sh_beq (by omega))).trans ((vg_at_ne (sh_beq (by omega))).trans (vg_at_ne (sh_beq (by omega))))))))⟩
theorem ik_0 (ht8 : t = 1 ∨ t = 8) (h0 : ex_at w 0 = some (.inr (.inr (7, gs)))) (g5 : ex_at gs 5 = some (.ref 35)) (g6 : ex_at gs 6 = some (.ref 34)) (g9 : ex_at gs 9 = some (.ref t)) (h34 : ex_at w 34 = some (.inl (.boolean, KE))) (lk : KE.length = 2) (h35 : ex_at w 35 = some (.inr (.inl (6, [some 36, some 43])))) (hp : tA w 36 tfp tap) (ht : tA w t tf ta) (hk : tL tap) (hl : tL ta) : ∃ r wx, Go X (d + 1) mt_69 (ex_ent mt_69 [.ref 0, .int 0]) w (some (.int r), wx) ∧ ((KE.getD 0 0).toInt = 0 ∧ r = 0 ∨ ¬ (KE.getD 0 0).toInt = 0 ∧ r = 1) ∧ tA wx 36 tf ta ∧ ex_at wx 34 = some (.inl (.boolean, ex_put KE 0 1)) ∧ ∀ q, q ≠ 34 → ¬ (36 ≤ q ∧ q ≤ 36 + 6) → ex_at wx q = ex_at w q := by
  have ek : Int32.toNatClampNeg 0 = 0 := by decide
  have en : ex_nar .boolean 1 = 1 := by decide
  obtain ⟨w1, c1, c2, c3⟩ : ∃ w1, Go X d mt_144 (ex_ent mt_144 [.ref 36, .ref t]) w (none, w1) ∧ tA w1 36 tf ta ∧ ∀ q, ¬ (36 ≤ q ∧ q ≤ 36 + 6) → ex_at w1 q = ex_at w q := by
    rcases ht8 with rfl | rfl
    · exact cpa_36_1 hp ht hk hl
    · exact cpa_36_8 hp ht hk hl
  have j0 := (c3 0 (by omega)).trans h0
  have j34 := (c3 34 (by omega)).trans h34
  have out : tA (ex_put w1 34 (.inl (.boolean, ex_put KE 0 1))) 36 tf ta ∧ ex_at (ex_put w1 34 (.inl (.boolean, ex_put KE 0 1))) 34 = some (.inl (.boolean, ex_put KE 0 1)) ∧ ∀ q, q ≠ 34 → ¬ (36 ≤ q ∧ q ≤ 36 + 6) → ex_at (ex_put w1 34 (.inl (.boolean, ex_put KE 0 1))) q = ex_at w q := ⟨c2.off (fun q a b => vg_at_ne (sh_beq (by omega))), vg_at_put j34, fun q a b => (vg_at_ne (sh_beq (fun e => a e.symm))).trans (c3 q b)⟩
  by_cases c : (KE.getD 0 0).toInt = 0
  · have g := ikeep_3_0 (X := X) (d := d) h0 g5 g6 g9 h34 h35 hp.1 (by rw [lk]; decide) (by rw [ek, ex_gd_eq]; exact c) c1 j0 g5 g6 g9 j34 (by rw [lk]; decide)
    rw [ek, en] at g
    exact ⟨_, _, g, Or.inl ⟨c, rfl⟩, out⟩
  · have g := ikeep_3_1 (X := X) (d := d) h0 g5 g6 g9 h34 h35 hp.1 (by rw [lk]; decide) (by rw [ek, ex_gd_eq]; exact c) c1 j0 g5 g6 g9 j34 (by rw [lk]; decide)
    rw [ek, en] at g
    exact ⟨_, _, g, Or.inr ⟨c, rfl⟩, out⟩
theorem ib_0 (ht8 : t = 1 ∨ t = 8) (h0 : ex_at w 0 = some (.inr (.inr (7, gs)))) (g5 : ex_at gs 5 = some (.ref 35)) (g6 : ex_at gs 6 = some (.ref 34)) (g9 : ex_at gs 9 = some (.ref t)) (h34 : ex_at w 34 = some (.inl (.boolean, KE))) (lk : KE.length = 2) (h35 : ex_at w 35 = some (.inr (.inl (6, [some 36, some 43])))) (hp : tA w 36 tfp tap) (ht : tA w t tf ta) (hk : tL tap) (hl : tL ta) : ((KE.getD 0 0).toInt = 0 ∧ Go X (d + 1) mt_71 (ex_ent mt_71 [.ref 0, .int 0]) w (some (.int ((Int8.ofInt (-2)).toInt32)), w)) ∨ (¬ (KE.getD 0 0).toInt = 0 ∧ ∃ wx, Go X (d + 1) mt_71 (ex_ent mt_71 [.ref 0, .int 0]) w (some (.int (tfp 5)), wx) ∧ tA wx t tfp tap ∧ ∀ q, ¬ (t ≤ q ∧ q ≤ t + 6) → ex_at wx q = ex_at w q) := by
  have ek : Int32.toNatClampNeg 0 = 0 := by decide
  by_cases c : (KE.getD 0 0).toInt = 0
  · exact Or.inl ⟨c, iback_3_n h0 g5 g6 g9 h34 (by rw [lk]; decide) (by rw [ek, ex_gd_eq]; exact c)⟩
  · obtain ⟨w1, c1, c2, c3⟩ : ∃ w1, Go X d mt_144 (ex_ent mt_144 [.ref t, .ref 36]) w (none, w1) ∧ tA w1 t tfp tap ∧ ∀ q, ¬ (t ≤ q ∧ q ≤ t + 6) → ex_at w1 q = ex_at w q := by
      rcases ht8 with rfl | rfl
      · exact cpa_1_36 ht hp hl hk
      · exact cpa_8_36 ht hp hl hk
    exact Or.inr ⟨c, w1, iback_3_y h0 g5 g6 g9 h34 h35 ht.1 (by rw [lk]; decide) (by rw [ek, ex_gd_eq]; exact c) c1 ((c3 0 (by omega)).trans h0) g5 g6 g9 c2.1, c2, c3⟩
theorem jk_0 (h59 : ex_at w 59 = some (.inr (.inr (8, fs5)))) (f0 : ex_at fs5 0 = some (.ref 60)) (f1 : ex_at fs5 1 = some (.ref 61)) (h60 : ex_at w 60 = some (.inl (.int, ST))) (ls : ST.length = 288) (h61 : ex_at w 61 = some (.inl (.boolean, KM))) (lk : KM.length = 2) (hb : (KM.getD 0 0).toInt = 0 ∨ (KM.getD 0 0).toInt = 1) : ∃ r wm ST', Go X (d + 1) mt_70 (ex_ent mt_70 [.ref 59, .int 0]) w (some (.int r), wm) ∧ ((KM.getD 0 0).toInt = 0 ∧ r = 0 ∨ ¬ (KM.getD 0 0).toInt = 0 ∧ r = 1) ∧ ST'.length = 288 ∧ (∀ j, ST'.getD j 0 = if 96 ≤ j ∧ j < 96 + 96 then ST.getD (0 + (j - 96)) 0 else ST.getD j 0) ∧ ex_at wm 60 = some (.inl (.int, ST')) ∧ ex_at wm 61 = some (.inl (.boolean, ex_put KM 0 1)) ∧ ∀ q, q ≠ 60 → q ≠ 61 → ex_at wm q = ex_at w q := by
  have ek : Int32.toNatClampNeg 0 = 0 := by decide
  have en : ex_nar .boolean 1 = 1 := by decide
  obtain ⟨ST', a1, a2, a3⟩ := cp_all (X := X) (d := d) (a := 96) (b := 0) (w := ex_put w 61 (.inl (.boolean, ex_put KM 0 1))) (by omega) (by omega) (by omega) f0 f1 ls (vg_at_o rfl h59) (vg_at_o rfl h60)
  have c1 : Go X d mt_93 (ex_ent mt_93 [.long (Int32.toInt64 (0)), .long 0, .long 1]) w (some (.int 1), w) := sin_t rfl (l := 0) (h := 1) (by decide) (by decide) (by decide) (by decide)
  have ix : ex_ix 0 KM.length = true := by rw [lk]; decide
  have e5 : ex_gd KM (Int32.toNatClampNeg 0) = KM.getD 0 0 := by rw [ek, ex_gd_eq]
  have a3' : Go X d mt_145 (ex_ent mt_145 [.ref 59, .int ((96 : Int32) * ((0 : Int32) + 1)), .int 0]) (ex_put w 61 (.inl (.boolean, (ex_put KM (Int32.toNatClampNeg (0)) (ex_nar .boolean 1))))) (none, ex_put (ex_put w 61 (.inl (.boolean, ex_put KM 0 1))) 60 (.inl (.int, ST'))) := by
    rw [ek, en, show (96 : Int32) * ((0 : Int32) + 1) = nI 96 by decide]
    exact a3
  have out : ex_at (ex_put (ex_put w 61 (.inl (.boolean, ex_put KM 0 1))) 60 (.inl (.int, ST'))) 60 = some (.inl (.int, ST')) ∧ ex_at (ex_put (ex_put w 61 (.inl (.boolean, ex_put KM 0 1))) 60 (.inl (.int, ST'))) 61 = some (.inl (.boolean, ex_put KM 0 1)) ∧ ∀ q, q ≠ 60 → q ≠ 61 → ex_at (ex_put (ex_put w 61 (.inl (.boolean, ex_put KM 0 1))) 60 (.inl (.int, ST'))) q = ex_at w q := ⟨vg_at_put (vg_at_o rfl h60), vg_at_o rfl (vg_at_put h61), fun q a b => (vg_at_ne (sh_beq (fun e => a e.symm))).trans (vg_at_ne (sh_beq (fun e => b e.symm)))⟩
  rcases hb with c | c
  · have z : KM.getD 0 0 = 0 := Int32.toInt_inj.mp (c.trans (by decide))
    exact ⟨0, _, ST', jkeep_3 h59 f0 f1 h61 c1 ix (by rw [e5, z]; exact jflag_0) ix a3', Or.inl ⟨c, rfl⟩, a1, a2, out⟩
  · have z : KM.getD 0 0 = 1 := Int32.toInt_inj.mp (c.trans (by decide))
    exact ⟨1, _, ST', jkeep_3 h59 f0 f1 h61 c1 ix (by rw [e5, z]; exact jflag_1) ix a3', Or.inr ⟨by omega, rfl⟩, a1, a2, out⟩
theorem jb_0 (h59 : ex_at w 59 = some (.inr (.inr (8, fs5)))) (f0 : ex_at fs5 0 = some (.ref 60)) (f1 : ex_at fs5 1 = some (.ref 61)) (h60 : ex_at w 60 = some (.inl (.int, ST))) (ls : ST.length = 288) (h61 : ex_at w 61 = some (.inl (.boolean, KM))) (lk : KM.length = 2) : ((KM.getD 0 0).toInt = 0 ∧ Go X (d + 1) mt_72 (ex_ent mt_72 [.ref 59, .int 0]) w (some (.int ((Int8.ofInt (-2)).toInt32)), w)) ∨ (¬ (KM.getD 0 0).toInt = 0 ∧ ∃ ST', Go X (d + 1) mt_72 (ex_ent mt_72 [.ref 59, .int 0]) w (some (.int (ST'.getD 0 0)), ex_put w 60 (.inl (.int, ST'))) ∧ ST'.length = 288 ∧ ∀ j, ST'.getD j 0 = if 0 ≤ j ∧ j < 0 + 96 then ST.getD (96 + (j - 0)) 0 else ST.getD j 0) := by
  have ek : Int32.toNatClampNeg 0 = 0 := by decide
  have e0 : Int32.toNatClampNeg 0 = 0 := by decide
  have c1 : Go X d mt_93 (ex_ent mt_93 [.long (Int32.toInt64 (0)), .long 0, .long 1]) w (some (.int 1), w) := sin_t rfl (l := 0) (h := 1) (by decide) (by decide) (by decide) (by decide)
  have ix : ex_ix 0 KM.length = true := by rw [lk]; decide
  have e5 : ex_gd KM (Int32.toNatClampNeg 0) = KM.getD 0 0 := by rw [ek, ex_gd_eq]
  by_cases c : (KM.getD 0 0).toInt = 0
  · exact Or.inl ⟨c, jback_3_n h59 f0 f1 h61 c1 ix (by rw [e5]; exact c)⟩
  · obtain ⟨ST', a1, a2, a3⟩ := cp_all (X := X) (d := d) (a := 0) (b := 96) (by omega) (by omega) (by omega) f0 f1 ls h59 h60
    have a3' : Go X d mt_145 (ex_ent mt_145 [.ref 59, .int 0, .int ((96 : Int32) * ((0 : Int32) + 1))]) w (none, ex_put w 60 (.inl (.int, ST'))) := by
      rw [show (96 : Int32) * ((0 : Int32) + 1) = nI 96 by decide]
      exact a3
    have g := jback_3_y h59 f0 f1 h61 c1 ix (by rw [e5]; exact c) a3' (vg_at_o rfl h59) f0 f1 (vg_at_put h60) (by rw [a1]; decide)
    rw [e0, ex_gd_eq] at g
    exact Or.inr ⟨c, ST', g, a1, a2⟩
theorem ik_1 (ht8 : t = 1 ∨ t = 8) (h0 : ex_at w 0 = some (.inr (.inr (7, gs)))) (g5 : ex_at gs 5 = some (.ref 35)) (g6 : ex_at gs 6 = some (.ref 34)) (g9 : ex_at gs 9 = some (.ref t)) (h34 : ex_at w 34 = some (.inl (.boolean, KE))) (lk : KE.length = 2) (h35 : ex_at w 35 = some (.inr (.inl (6, [some 36, some 43])))) (hp : tA w 43 tfp tap) (ht : tA w t tf ta) (hk : tL tap) (hl : tL ta) : ∃ r wx, Go X (d + 1) mt_69 (ex_ent mt_69 [.ref 0, .int 1]) w (some (.int r), wx) ∧ ((KE.getD 1 0).toInt = 0 ∧ r = 0 ∨ ¬ (KE.getD 1 0).toInt = 0 ∧ r = 1) ∧ tA wx 43 tf ta ∧ ex_at wx 34 = some (.inl (.boolean, ex_put KE 1 1)) ∧ ∀ q, q ≠ 34 → ¬ (43 ≤ q ∧ q ≤ 43 + 6) → ex_at wx q = ex_at w q := by
  have ek : Int32.toNatClampNeg 1 = 1 := by decide
  have en : ex_nar .boolean 1 = 1 := by decide
  obtain ⟨w1, c1, c2, c3⟩ : ∃ w1, Go X d mt_144 (ex_ent mt_144 [.ref 43, .ref t]) w (none, w1) ∧ tA w1 43 tf ta ∧ ∀ q, ¬ (43 ≤ q ∧ q ≤ 43 + 6) → ex_at w1 q = ex_at w q := by
    rcases ht8 with rfl | rfl
    · exact cpa_43_1 hp ht hk hl
    · exact cpa_43_8 hp ht hk hl
  have j0 := (c3 0 (by omega)).trans h0
  have j34 := (c3 34 (by omega)).trans h34
  have out : tA (ex_put w1 34 (.inl (.boolean, ex_put KE 1 1))) 43 tf ta ∧ ex_at (ex_put w1 34 (.inl (.boolean, ex_put KE 1 1))) 34 = some (.inl (.boolean, ex_put KE 1 1)) ∧ ∀ q, q ≠ 34 → ¬ (43 ≤ q ∧ q ≤ 43 + 6) → ex_at (ex_put w1 34 (.inl (.boolean, ex_put KE 1 1))) q = ex_at w q := ⟨c2.off (fun q a b => vg_at_ne (sh_beq (by omega))), vg_at_put j34, fun q a b => (vg_at_ne (sh_beq (fun e => a e.symm))).trans (c3 q b)⟩
  by_cases c : (KE.getD 1 0).toInt = 0
  · have g := ikeep_4_0 (X := X) (d := d) h0 g5 g6 g9 h34 h35 hp.1 (by rw [lk]; decide) (by rw [ek, ex_gd_eq]; exact c) c1 j0 g5 g6 g9 j34 (by rw [lk]; decide)
    rw [ek, en] at g
    exact ⟨_, _, g, Or.inl ⟨c, rfl⟩, out⟩
  · have g := ikeep_4_1 (X := X) (d := d) h0 g5 g6 g9 h34 h35 hp.1 (by rw [lk]; decide) (by rw [ek, ex_gd_eq]; exact c) c1 j0 g5 g6 g9 j34 (by rw [lk]; decide)
    rw [ek, en] at g
    exact ⟨_, _, g, Or.inr ⟨c, rfl⟩, out⟩
theorem ib_1 (ht8 : t = 1 ∨ t = 8) (h0 : ex_at w 0 = some (.inr (.inr (7, gs)))) (g5 : ex_at gs 5 = some (.ref 35)) (g6 : ex_at gs 6 = some (.ref 34)) (g9 : ex_at gs 9 = some (.ref t)) (h34 : ex_at w 34 = some (.inl (.boolean, KE))) (lk : KE.length = 2) (h35 : ex_at w 35 = some (.inr (.inl (6, [some 36, some 43])))) (hp : tA w 43 tfp tap) (ht : tA w t tf ta) (hk : tL tap) (hl : tL ta) : ((KE.getD 1 0).toInt = 0 ∧ Go X (d + 1) mt_71 (ex_ent mt_71 [.ref 0, .int 1]) w (some (.int ((Int8.ofInt (-2)).toInt32)), w)) ∨ (¬ (KE.getD 1 0).toInt = 0 ∧ ∃ wx, Go X (d + 1) mt_71 (ex_ent mt_71 [.ref 0, .int 1]) w (some (.int (tfp 5)), wx) ∧ tA wx t tfp tap ∧ ∀ q, ¬ (t ≤ q ∧ q ≤ t + 6) → ex_at wx q = ex_at w q) := by
  have ek : Int32.toNatClampNeg 1 = 1 := by decide
  by_cases c : (KE.getD 1 0).toInt = 0
  · exact Or.inl ⟨c, iback_4_n h0 g5 g6 g9 h34 (by rw [lk]; decide) (by rw [ek, ex_gd_eq]; exact c)⟩
  · obtain ⟨w1, c1, c2, c3⟩ : ∃ w1, Go X d mt_144 (ex_ent mt_144 [.ref t, .ref 43]) w (none, w1) ∧ tA w1 t tfp tap ∧ ∀ q, ¬ (t ≤ q ∧ q ≤ t + 6) → ex_at w1 q = ex_at w q := by
      rcases ht8 with rfl | rfl
      · exact cpa_1_43 ht hp hl hk
      · exact cpa_8_43 ht hp hl hk
    exact Or.inr ⟨c, w1, iback_4_y h0 g5 g6 g9 h34 h35 ht.1 (by rw [lk]; decide) (by rw [ek, ex_gd_eq]; exact c) c1 ((c3 0 (by omega)).trans h0) g5 g6 g9 c2.1, c2, c3⟩
theorem jk_1 (h59 : ex_at w 59 = some (.inr (.inr (8, fs5)))) (f0 : ex_at fs5 0 = some (.ref 60)) (f1 : ex_at fs5 1 = some (.ref 61)) (h60 : ex_at w 60 = some (.inl (.int, ST))) (ls : ST.length = 288) (h61 : ex_at w 61 = some (.inl (.boolean, KM))) (lk : KM.length = 2) (hb : (KM.getD 1 0).toInt = 0 ∨ (KM.getD 1 0).toInt = 1) : ∃ r wm ST', Go X (d + 1) mt_70 (ex_ent mt_70 [.ref 59, .int 1]) w (some (.int r), wm) ∧ ((KM.getD 1 0).toInt = 0 ∧ r = 0 ∨ ¬ (KM.getD 1 0).toInt = 0 ∧ r = 1) ∧ ST'.length = 288 ∧ (∀ j, ST'.getD j 0 = if 192 ≤ j ∧ j < 192 + 96 then ST.getD (0 + (j - 192)) 0 else ST.getD j 0) ∧ ex_at wm 60 = some (.inl (.int, ST')) ∧ ex_at wm 61 = some (.inl (.boolean, ex_put KM 1 1)) ∧ ∀ q, q ≠ 60 → q ≠ 61 → ex_at wm q = ex_at w q := by
  have ek : Int32.toNatClampNeg 1 = 1 := by decide
  have en : ex_nar .boolean 1 = 1 := by decide
  obtain ⟨ST', a1, a2, a3⟩ := cp_all (X := X) (d := d) (a := 192) (b := 0) (w := ex_put w 61 (.inl (.boolean, ex_put KM 1 1))) (by omega) (by omega) (by omega) f0 f1 ls (vg_at_o rfl h59) (vg_at_o rfl h60)
  have c1 : Go X d mt_93 (ex_ent mt_93 [.long (Int32.toInt64 (1)), .long 0, .long 1]) w (some (.int 1), w) := sin_t rfl (l := 0) (h := 1) (by decide) (by decide) (by decide) (by decide)
  have ix : ex_ix 1 KM.length = true := by rw [lk]; decide
  have e5 : ex_gd KM (Int32.toNatClampNeg 1) = KM.getD 1 0 := by rw [ek, ex_gd_eq]
  have a3' : Go X d mt_145 (ex_ent mt_145 [.ref 59, .int ((96 : Int32) * ((1 : Int32) + 1)), .int 0]) (ex_put w 61 (.inl (.boolean, (ex_put KM (Int32.toNatClampNeg (1)) (ex_nar .boolean 1))))) (none, ex_put (ex_put w 61 (.inl (.boolean, ex_put KM 1 1))) 60 (.inl (.int, ST'))) := by
    rw [ek, en, show (96 : Int32) * ((1 : Int32) + 1) = nI 192 by decide]
    exact a3
  have out : ex_at (ex_put (ex_put w 61 (.inl (.boolean, ex_put KM 1 1))) 60 (.inl (.int, ST'))) 60 = some (.inl (.int, ST')) ∧ ex_at (ex_put (ex_put w 61 (.inl (.boolean, ex_put KM 1 1))) 60 (.inl (.int, ST'))) 61 = some (.inl (.boolean, ex_put KM 1 1)) ∧ ∀ q, q ≠ 60 → q ≠ 61 → ex_at (ex_put (ex_put w 61 (.inl (.boolean, ex_put KM 1 1))) 60 (.inl (.int, ST'))) q = ex_at w q := ⟨vg_at_put (vg_at_o rfl h60), vg_at_o rfl (vg_at_put h61), fun q a b => (vg_at_ne (sh_beq (fun e => a e.symm))).trans (vg_at_ne (sh_beq (fun e => b e.symm)))⟩
  rcases hb with c | c
  · have z : KM.getD 1 0 = 0 := Int32.toInt_inj.mp (c.trans (by decide))
    exact ⟨0, _, ST', jkeep_4 h59 f0 f1 h61 c1 ix (by rw [e5, z]; exact jflag_0) ix a3', Or.inl ⟨c, rfl⟩, a1, a2, out⟩
  · have z : KM.getD 1 0 = 1 := Int32.toInt_inj.mp (c.trans (by decide))
    exact ⟨1, _, ST', jkeep_4 h59 f0 f1 h61 c1 ix (by rw [e5, z]; exact jflag_1) ix a3', Or.inr ⟨by omega, rfl⟩, a1, a2, out⟩
theorem jb_1 (h59 : ex_at w 59 = some (.inr (.inr (8, fs5)))) (f0 : ex_at fs5 0 = some (.ref 60)) (f1 : ex_at fs5 1 = some (.ref 61)) (h60 : ex_at w 60 = some (.inl (.int, ST))) (ls : ST.length = 288) (h61 : ex_at w 61 = some (.inl (.boolean, KM))) (lk : KM.length = 2) : ((KM.getD 1 0).toInt = 0 ∧ Go X (d + 1) mt_72 (ex_ent mt_72 [.ref 59, .int 1]) w (some (.int ((Int8.ofInt (-2)).toInt32)), w)) ∨ (¬ (KM.getD 1 0).toInt = 0 ∧ ∃ ST', Go X (d + 1) mt_72 (ex_ent mt_72 [.ref 59, .int 1]) w (some (.int (ST'.getD 0 0)), ex_put w 60 (.inl (.int, ST'))) ∧ ST'.length = 288 ∧ ∀ j, ST'.getD j 0 = if 0 ≤ j ∧ j < 0 + 96 then ST.getD (192 + (j - 0)) 0 else ST.getD j 0) := by
  have ek : Int32.toNatClampNeg 1 = 1 := by decide
  have e0 : Int32.toNatClampNeg 0 = 0 := by decide
  have c1 : Go X d mt_93 (ex_ent mt_93 [.long (Int32.toInt64 (1)), .long 0, .long 1]) w (some (.int 1), w) := sin_t rfl (l := 0) (h := 1) (by decide) (by decide) (by decide) (by decide)
  have ix : ex_ix 1 KM.length = true := by rw [lk]; decide
  have e5 : ex_gd KM (Int32.toNatClampNeg 1) = KM.getD 1 0 := by rw [ek, ex_gd_eq]
  by_cases c : (KM.getD 1 0).toInt = 0
  · exact Or.inl ⟨c, jback_4_n h59 f0 f1 h61 c1 ix (by rw [e5]; exact c)⟩
  · obtain ⟨ST', a1, a2, a3⟩ := cp_all (X := X) (d := d) (a := 0) (b := 192) (by omega) (by omega) (by omega) f0 f1 ls h59 h60
    have a3' : Go X d mt_145 (ex_ent mt_145 [.ref 59, .int 0, .int ((96 : Int32) * ((1 : Int32) + 1))]) w (none, ex_put w 60 (.inl (.int, ST'))) := by
      rw [show (96 : Int32) * ((1 : Int32) + 1) = nI 192 by decide]
      exact a3
    have g := jback_4_y h59 f0 f1 h61 c1 ix (by rw [e5]; exact c) a3' (vg_at_o rfl h59) f0 f1 (vg_at_put h60) (by rw [a1]; decide)
    rw [e0, ex_gd_eq] at g
    exact Or.inr ⟨c, ST', g, a1, a2⟩
end IM
