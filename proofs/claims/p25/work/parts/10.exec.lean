/-! THE ABSTRACT MACHINE: frames over places of cells in the place of addresses; a row of its own for each instruction; what it runs to, the machine runs to (part 12). A cell: a row of numbers of a type; a row of places of objects of a class; an object of a class and its fields (in their order, references as places). -/
abbrev ex_E : Type := (FieldType × List Int32) ⊕ ((Nat × List (Option Nat)) ⊕ (Nat × List Value))
abbrev ex_W : Type := List ex_E
abbrev ex_L : Type := List (Option Value)
abbrev ex_F : Type := Nat × ex_L × List Value
abbrev ex_A : Type := (ex_F × ex_W) ⊕ ((Nat × List Value × ex_F) ⊕ Option Value)
noncomputable def ex_go (pc : Nat) (lo : ex_L) (st : List Value) (w : ex_W) : Option ex_A := some (.inl ((pc, lo, st), w))
/-- a list's n-th written -/
noncomputable def ex_put {α : Type} (l : List α) (i : Nat) (x : α) : List α := List.rec (motive := fun _ => Nat → List α) (fun _ => []) (fun a r ih n => Nat.casesOn (motive := fun _ => List α) n (x :: r) (fun m => a :: ih m)) l i
noncomputable def ex_rd (lo : ex_L) (i : Nat) : Option Value := Option.rec none (fun x => x) (ex_at lo i)
noncomputable def ex_two (v : Value) : Bool := match v with
  | .long _ => true
  | .double _ => true
  | _ => false
/-- a long or double whose second half would be written over is gone -/
noncomputable def ex_kill (lo : ex_L) (i : Nat) : ex_L := match i with
  | 0 => lo
  | k + 1 => match ex_rd lo k with
    | some v => if ex_two v = true then ex_put lo k none else lo
    | none => lo
noncomputable def ex_wr1 (lo : ex_L) (i : Nat) (v : Value) : ex_L := ex_put (ex_kill lo i) i (some v)
noncomputable def ex_wr2 (lo : ex_L) (i : Nat) (v : Value) : ex_L := ex_put (ex_put (ex_kill lo i) (i + 1) none) i (some v)
noncomputable def ex_ldI (pc : Nat) (lo : ex_L) (i : Nat) (st : List Value) (w : ex_W) : Option ex_A := match ex_rd lo i with
  | some (.int x) => ex_go pc lo (.int x :: st) w
  | _ => none
noncomputable def ex_ldL (pc : Nat) (lo : ex_L) (i : Nat) (st : List Value) (w : ex_W) : Option ex_A := match ex_rd lo i with
  | some (.long x) => ex_go pc lo (.long x :: st) w
  | _ => none
noncomputable def ex_ldA (pc : Nat) (lo : ex_L) (i : Nat) (st : List Value) (w : ex_W) : Option ex_A := match ex_rd lo i with
  | some (.ref x) => ex_go pc lo (.ref x :: st) w
  | some (.retAddr x) => ex_go pc lo (.retAddr x :: st) w
  | _ => none
noncomputable def ex_stI (pc : Nat) (lo : ex_L) (i : Nat) (st : List Value) (w : ex_W) : Option ex_A := match st with
  | .int x :: r => if i < lo.length then ex_go pc (ex_wr1 lo i (.int x)) r w else none
  | _ => none
noncomputable def ex_stA (pc : Nat) (lo : ex_L) (i : Nat) (st : List Value) (w : ex_W) : Option ex_A := match st with
  | .ref x :: r => if i < lo.length then ex_go pc (ex_wr1 lo i (.ref x)) r w else none
  | _ => none
noncomputable def ex_stL (pc : Nat) (lo : ex_L) (i : Nat) (st : List Value) (w : ex_W) : Option ex_A := match st with
  | .long x :: r => if i + 1 < lo.length then ex_go pc (ex_wr2 lo i (.long x)) r w else none
  | _ => none
noncomputable def ex_i2 (f : Int32 → Int32 → Int32) (pc : Nat) (lo : ex_L) (st : List Value) (w : ex_W) : Option ex_A := match st with
  | .int y :: .int x :: r => ex_go pc lo (.int (f x y) :: r) w
  | _ => none
noncomputable def ex_l2 (f : Int64 → Int64 → Int64) (pc : Nat) (lo : ex_L) (st : List Value) (w : ex_W) : Option ex_A := match st with
  | .long y :: .long x :: r => ex_go pc lo (.long (f x y) :: r) w
  | _ => none
noncomputable def ex_d2 (f : Int32 → Int32 → Int32) (pc : Nat) (lo : ex_L) (st : List Value) (w : ex_W) : Option ex_A := match st with
  | .int y :: .int x :: r => if y = 0 then none else ex_go pc lo (.int (f x y) :: r) w
  | _ => none
noncomputable def ex_e2 (f : Int64 → Int64 → Int64) (pc : Nat) (lo : ex_L) (st : List Value) (w : ex_W) : Option ex_A := match st with
  | .long y :: .long x :: r => if y = 0 then none else ex_go pc lo (.long (f x y) :: r) w
  | _ => none
noncomputable def ex_i1 (f : Int32 → Int32) (pc : Nat) (lo : ex_L) (st : List Value) (w : ex_W) : Option ex_A := match st with
  | .int x :: r => ex_go pc lo (.int (f x) :: r) w
  | _ => none
noncomputable def ex_ls (f : Int64 → Int32 → Int64) (pc : Nat) (lo : ex_L) (st : List Value) (w : ex_W) : Option ex_A := match st with
  | .int y :: .long x :: r => ex_go pc lo (.long (f x y) :: r) w
  | _ => none
/-- a jump: the place that it names -/
noncomputable def ex_tg (pc : Nat) (off : Int) : Nat := ((pc : Int) + off).toNat
noncomputable def ex_jp (pc : Nat) (off : Int) (lo : ex_L) (st : List Value) (w : ex_W) : Option ex_A := if 0 ≤ (pc : Int) + off then ex_go (ex_tg pc off) lo st w else none
noncomputable def ex_if (b : Bool) (pc : Nat) (off : Int) (lo : ex_L) (st : List Value) (w : ex_W) : Option ex_A := if 0 ≤ (pc : Int) + off then (match b with
  | true => ex_go (ex_tg pc off) lo st w
  | false => ex_go (pc + 3) lo st w) else none
noncomputable def ex_c0 (c : Jvm.ClassFile.Cond) (x : Int32) : Bool := match c with
  | .eq => decide (x = 0)
  | .ne => decide (¬ x = 0)
  | .lt => decide (x < 0)
  | .ge => decide (0 ≤ x)
  | .gt => decide (0 < x)
  | .le => decide (x ≤ 0)
noncomputable def ex_c2 (c : Jvm.ClassFile.Cond) (x y : Int32) : Bool := match c with
  | .eq => decide (x = y)
  | .ne => decide (¬ x = y)
  | .lt => decide (x < y)
  | .ge => decide (y ≤ x)
  | .gt => decide (y < x)
  | .le => decide (x ≤ y)
/-- the name of an object's class; where the rows of references to a class stand among the row types -/
noncomputable def ex_qix (ci : Nat) : Nat := if ci = 6 then 3 else if ci = 4 then 4 else 100
noncomputable def ex_gd (l : List Int32) (i : Nat) : Int32 := Option.rec 0 (fun x => x) (ex_at l i)
/-- a place in a row -/
noncomputable def ex_ix (i : Int32) (n : Nat) : Bool := decide (¬ (i < 0 ∨ n ≤ i.toNatClampNeg))
noncomputable def ex_gf (t : Option (Nat × Nat × Nat)) (pc : Nat) (lo : ex_L) (st : List Value) (w : ex_W) : Option ex_A := match t, st with
  | some (ci, k, _), .ref a :: r => match ex_at w a with
    | some (.inr (.inr (c, fs))) => match ex_at fs k with
      | some v => if c = ci then ex_go (pc + 3) lo (v :: r) w else none
      | none => none
    | _ => none
  | _, _ => none
/-- a value that a field of a type takes as it is -/
noncomputable def ex_fit (ty : FieldType) (v : Value) : Bool := match ty, v with
  | .int, .int _ => true
  | .long, .long _ => true
  | .boolean, .int x => x == 0 || x == 1
  | .object _, .ref _ => true
  | .array _, .ref _ => true
  | _, _ => false
/-- a field: a final one in a constructor of its class alone -/
noncomputable def ex_pf (t : Option (Nat × Nat × Nat)) (cn : Nat) (isI : Bool) (pc : Nat) (lo : ex_L) (st : List Value) (w : ex_W) : Option ex_A := match t, st with
  | some (ci, k, _), v :: .ref a :: r => match ex_at w a with
    | some (.inr (.inr (c, fs))) => if c = ci ∧ k < fs.length ∧ ex_fit (ex_fty ci k) v = true ∧ (ex_ffin ci k = false ∨ isI = true ∧ cn = ci) then ex_go (pc + 3) lo r (ex_put w a (.inr (.inr (c, ex_put fs k v)))) else none
    | _ => none
  | _, _ => none
/-- the number that a row of a type keeps -/
noncomputable def ex_nar (ty : FieldType) (x : Int32) : Int32 := match ty with
  | .byte => vp_nar .byte x
  | .boolean => vp_nar .boolean x
  | _ => x
/-- what a row's instruction is of: bytes and booleans, or ints -/
noncomputable def ex_aty (by_ : Bool) (ty : FieldType) : Bool := match by_ with
  | true => decide (ty = .byte) || decide (ty = .boolean)
  | false => decide (ty = .int)
noncomputable def ex_ald (by_ : Bool) (X : List Int32) (isLaw : Bool) (pc : Nat) (lo : ex_L) (st : List Value) (w : ex_W) : Option ex_A := match st with
  | .int i :: .ref a :: r => match ex_at w a with
    | some (.inl (ty, l)) => if ex_aty by_ ty = true ∧ ex_ix i l.length = true then ex_go (pc + 1) lo (.int (ex_gd l i.toNatClampNeg) :: r) w else none
    | _ => none
  | .int i :: .retAddr a :: r => if by_ = false ∧ isLaw = true ∧ a = 0 ∧ ex_ix i X.length = true then ex_go (pc + 1) lo (.int (ex_gd X i.toNatClampNeg) :: r) w else (match ex_sb a with
    | some l => if by_ = true ∧ ex_ix i l.length = true then ex_go (pc + 1) lo (.int (ex_gd l i.toNatClampNeg) :: r) w else none
    | none => none)
  | _ => none
noncomputable def ex_ast (by_ : Bool) (pc : Nat) (lo : ex_L) (st : List Value) (w : ex_W) : Option ex_A := match st with
  | .int x :: .int i :: .ref a :: r => match ex_at w a with
    | some (.inl (ty, l)) => if ex_aty by_ ty = true ∧ ex_ix i l.length = true then ex_go (pc + 1) lo r (ex_put w a (.inl (ty, ex_put l i.toNatClampNeg (ex_nar ty x)))) else none
    | _ => none
  | _ => none
noncomputable def ex_alq (pc : Nat) (lo : ex_L) (st : List Value) (w : ex_W) : Option ex_A := match st with
  | .int i :: .ref a :: r => match ex_at w a with
    | some (.inr (.inl (ci, l))) => if ex_ix i l.length = true ∧ ex_qix ci < 100 then (match ex_at l i.toNatClampNeg with
      | some (some k) => ex_go (pc + 1) lo (.ref k :: r) w
      | _ => ex_go (pc + 1) lo (.null :: r) w) else none
    | _ => none
  | _ => none
noncomputable def ex_asq (pc : Nat) (lo : ex_L) (st : List Value) (w : ex_W) : Option ex_A := match st with
  | .ref v :: .int i :: .ref a :: r => match ex_at w a, ex_at w v with
    | some (.inr (.inl (ci, l))), some (.inr (.inr (c, _))) => if c = ci ∧ ex_ix i l.length = true ∧ ex_qix ci < 100 then ex_go (pc + 1) lo r (ex_put w a (.inr (.inl (ci, ex_put l i.toNatClampNeg (some v))))) else none
    | _, _ => none
  | _ => none
noncomputable def ex_aln (X : List Int32) (isLaw : Bool) (pc : Nat) (lo : ex_L) (st : List Value) (w : ex_W) : Option ex_A := match st with
  | .ref a :: r => match ex_at w a with
    | some (.inl (ty, l)) => if ty = .int ∨ ty = .byte ∨ ty = .boolean then ex_go (pc + 1) lo (.int (Int32.ofNat l.length) :: r) w else none
    | _ => none
  | .retAddr a :: r => if isLaw = true ∧ a = 0 then ex_go (pc + 1) lo (.int (Int32.ofNat X.length) :: r) w else (match ex_sb a with
    | some l => ex_go (pc + 1) lo (.int (Int32.ofNat l.length) :: r) w
    | none => none)
  | _ => none
/-- fields of a text; statics -/
noncomputable def ex_sgf (k : Nat) (pc : Nat) (lo : ex_L) (st : List Value) (w : ex_W) : Option ex_A := match st with
  | .retAddr a :: r => if ex_sk a = true then (match k with
    | 0 => ex_go (pc + 3) lo (.retAddr (a + 1) :: r) w
    | _ => ex_go (pc + 3) lo (.int 0 :: r) w) else none
  | _ => none
noncomputable def ex_gfs (u : Option (Nat × Nat)) (t : Option (Nat × Nat × Nat)) (pc : Nat) (lo : ex_L) (st : List Value) (w : ex_W) : Option ex_A := match u with
  | some (k, _) => ex_sgf k pc lo st w
  | none => ex_gf t pc lo st w
noncomputable def ex_gst (t : Option (Nat × Nat)) (pc : Nat) (lo : ex_L) (st : List Value) (w : ex_W) : Option ex_A := match t with
  | some (k, _) => (match k with
    | 0 => ex_go (pc + 3) lo (.int 1 :: st) w
    | _ => ex_go (pc + 3) lo (.float 0 :: st) w)
  | none => none
noncomputable def ex_nwo (t : Option (Nat × Nat)) (pc : Nat) (lo : ex_L) (st : List Value) (w : ex_W) : Option ex_A := match t with
  | some (ci, _) => ex_go (pc + 3) lo (.ref w.length :: st) (w ++ [.inr (.inr (ci, ex_dfl ci))])
  | none => none
noncomputable def ex_nwa (ty : FieldType) (pc : Nat) (lo : ex_L) (st : List Value) (w : ex_W) : Option ex_A := match st with
  | .int n :: r => if ¬ n < 0 ∧ n ≤ 1000 ∧ (ty = .int ∨ ty = .byte ∨ ty = .boolean) then ex_go (pc + 2) lo (.ref w.length :: r) (w ++ [.inl (ty, List.replicate n.toNatClampNeg 0)]) else none
  | _ => none
noncomputable def ex_nwq (t : Option (Nat × Nat)) (pc : Nat) (lo : ex_L) (st : List Value) (w : ex_W) : Option ex_A := match t, st with
  | some (ci, _), .int n :: r => if ¬ n < 0 ∧ n ≤ 1000 ∧ ex_qix ci < 100 then ex_go (pc + 3) lo (.ref w.length :: r) (w ++ [.inr (.inl (ci, List.replicate n.toNatClampNeg none))]) else none
  | _, _ => none
noncomputable def ex_cats (st : List Value) : Nat := (st.map fun v => v.category).sum
noncomputable def ex_cpy (f g : List Int32) (sp dp n : Nat) : List Int32 := g.take dp ++ ((f.drop sp).take n ++ g.drop (dp + n))
/-- what the kit has a row for: 0 Object's constructor, 1 min, 2 max, 3 arraycopy of ints -/
noncomputable def ex_int (kd k : Nat) (pc : Nat) (lo : ex_L) (st : List Value) (w : ex_W) : Option ex_A := match k with
  | 0 => match st with
    | .ref _ :: r => if kd = 2 ∧ ex_cats r ≤ 8 then ex_go (pc + 3) lo r w else none
    | _ => none
  | 1 => match st with
    | .int y :: .int x :: r => if kd = 1 ∧ ex_cats r ≤ 8 then ex_go (pc + 3) lo (.int (if y < x then y else x) :: r) w else none
    | _ => none
  | 2 => match st with
    | .int y :: .int x :: r => if kd = 1 ∧ ex_cats r ≤ 8 then ex_go (pc + 3) lo (.int (if x < y then y else x) :: r) w else none
    | _ => none
  | 3 => match st with
    | .int n :: .int dp :: .ref b :: .int sp :: .ref a :: r => match ex_at w a, ex_at w b with
      | some (.inl (ty, f)), some (.inl (ty', g)) => if kd = 1 ∧ ex_cats r ≤ 8 ∧ ty = .int ∧ ty' = .int ∧ ¬ sp < 0 ∧ ¬ dp < 0 ∧ ¬ n < 0 ∧ sp.toNatClampNeg + n.toNatClampNeg ≤ f.length ∧ dp.toNatClampNeg + n.toNatClampNeg ≤ g.length then ex_go (pc + 3) lo r (ex_put w b (.inl (.int, ex_cpy f g sp.toNatClampNeg dp.toNatClampNeg n.toNatClampNeg))) else none
      | _, _ => none
    | _ => none
  | _ => none
/-- a call of a method of the tables -/
noncomputable def ex_cl (kd : Nat) (t : Option (Nat × Nat × Nat × Nat × Nat × Nat × Nat)) (pc : Nat) (lo : ex_L) (st : List Value) (w : ex_W) : Option ex_A := match t with
  | some (cal, n, k, rc, _, _, _) =>
    if k = kd ∧ n ≤ st.length ∧ ex_cats (st.drop n) ≤ 8 then
      match k with
      | 0 => match (st.take n).reverse with
        | .ref a :: _ => match ex_at w a with
          | some (.inr (.inr (c, _))) => if c = rc then some (.inr (.inl (cal, (st.take n).reverse, (pc + 3, lo, st.drop n)))) else none
          | _ => none
        | .retAddr a :: _ => if rc = 100 ∧ ex_sk a = true then some (.inr (.inl (cal, (st.take n).reverse, (pc + 3, lo, st.drop n)))) else none
        | _ => none
      | 1 => some (.inr (.inl (cal, (st.take n).reverse, (pc + 3, lo, st.drop n))))
      | 2 => match (st.take n).reverse with
        | .ref _ :: _ => some (.inr (.inl (cal, (st.take n).reverse, (pc + 3, lo, st.drop n))))
        | _ => none
      | _ => none
    else none
  | none => none
noncomputable def ex_iv (kd : Nat) (it : Option (Nat × Nat)) (t : Option (Nat × Nat × Nat × Nat × Nat × Nat × Nat)) (pc : Nat) (lo : ex_L) (st : List Value) (w : ex_W) : Option ex_A := match it with
  | some (k, _) => ex_int kd k pc lo st w
  | none => ex_cl kd t pc lo st w
noncomputable def ex_ok (ty : FieldType) (v : Int32) : Bool := decide (narrow ty (.int v) = .int v)
noncomputable def ex_ret (t : Option FieldType) (st : List Value) : Option ex_A := match t, st with
  | some ty, [.int v] => if ex_ok ty v = true then some (.inr (.inr (some (.int v)))) else none
  | _, _ => none
noncomputable def ex_lret (t : Option FieldType) (st : List Value) : Option ex_A := match t, st with
  | some .long, [.long v] => some (.inr (.inr (some (.long v))))
  | _, _ => none
noncomputable def ex_vret (t : Option FieldType) (st : List Value) : Option ex_A := match t, st with
  | none, [] => some (.inr (.inr none))
  | _, _ => none
noncomputable def ex_dup (pc : Nat) (lo : ex_L) (st : List Value) (w : ex_W) : Option ex_A := match st with
  | v :: r => if ex_two v = true then none else ex_go (pc + 1) lo (v :: v :: r) w
  | _ => none
noncomputable def ex_pop (pc : Nat) (lo : ex_L) (st : List Value) (w : ex_W) : Option ex_A := match st with
  | v :: r => if ex_two v = true then none else ex_go (pc + 1) lo r w
  | _ => none
noncomputable def ex_pop2 (pc : Nat) (lo : ex_L) (st : List Value) (w : ex_W) : Option ex_A := match st with
  | v :: r => if ex_two v = true then ex_go (pc + 1) lo r w else none
  | _ => none
noncomputable def ex_dup2 (pc : Nat) (lo : ex_L) (st : List Value) (w : ex_W) : Option ex_A := match st with
  | a :: b :: r => if ex_two a = true ∨ ex_two b = true then none else ex_go (pc + 1) lo (a :: b :: a :: b :: r) w
  | _ => none
noncomputable def ex_tsw (d lw hi : Int) (offs : Array Int) (pc : Nat) (lo : ex_L) (st : List Value) (w : ex_W) : Option ex_A := match st with
  | .int x :: r => if x.toInt < lw ∨ hi < x.toInt then ex_jp pc d lo r w else match offs[(x.toInt - lw).toNat]? with
    | some off => ex_jp pc off lo r w
    | none => none
  | _ => none
noncomputable def ex_lc (t : Option (Value × Nat)) (pc : Nat) (lo : ex_L) (st : List Value) (w : ex_W) : Option ex_A := match t with
  | some (.int v, _) => ex_go pc lo (.int v :: st) w
  | _ => none
noncomputable def ex_lcs (t : Option (Value × Nat)) (pc : Nat) (lo : ex_L) (st : List Value) (w : ex_W) : Option ex_A := match t with
  | some (.retAddr k, _) => ex_go pc lo (.retAddr k :: st) w
  | some (.int v, _) => ex_go pc lo (.int v :: st) w
  | _ => none
noncomputable def ex_lc2 (t : Option (Value × Nat)) (pc : Nat) (lo : ex_L) (st : List Value) (w : ex_W) : Option ex_A := match t with
  | some (.long v, _) => ex_go pc lo (.long v :: st) w
  | _ => none
noncomputable def ex_l2i (pc : Nat) (lo : ex_L) (st : List Value) (w : ex_W) : Option ex_A := match st with
  | .long x :: r => ex_go pc lo (.int x.toInt32 :: r) w
  | _ => none
noncomputable def ex_i2l (pc : Nat) (lo : ex_L) (st : List Value) (w : ex_W) : Option ex_A := match st with
  | .int x :: r => ex_go pc lo (.long x.toInt64 :: r) w
  | _ => none
noncomputable def ex_lcm (pc : Nat) (lo : ex_L) (st : List Value) (w : ex_W) : Option ex_A := match st with
  | .long y :: .long x :: r => ex_go pc lo (.int (lg_cmp x y) :: r) w
  | _ => none
noncomputable def ex_b0 (c : Jvm.ClassFile.Cond) (off : Int) (pc : Nat) (lo : ex_L) (st : List Value) (w : ex_W) : Option ex_A := match st with
  | .int x :: r => ex_if (ex_c0 c x) pc off lo r w
  | _ => none
noncomputable def ex_b2 (c : Jvm.ClassFile.Cond) (off : Int) (pc : Nat) (lo : ex_L) (st : List Value) (w : ex_W) : Option ex_A := match st with
  | .int y :: .int x :: r => ex_if (ex_c2 c x y) pc off lo r w
  | _ => none
noncomputable def ex_inc (i : Nat) (n : Int) (pc : Nat) (lo : ex_L) (st : List Value) (w : ex_W) : Option ex_A := match ex_rd lo i with
  | some (.int x) => ex_go (pc + 3) (ex_wr1 lo i (.int (x + Int32.ofInt n))) st w
  | _ => none
/-- one instruction -/
noncomputable def ex_ins (ins : Instr) : List Int32 → ex_M → Nat → ex_L → List Value → ex_W → Option ex_A := match ins with
  | .aload_n k => fun _ _ pc lo st w => ex_ldA (pc + 1) lo k st w
  | .aload i => fun _ _ pc lo st w => ex_ldA (pc + 2) lo i st w
  | .iload_n k => fun _ _ pc lo st w => ex_ldI (pc + 1) lo k st w
  | .iload i => fun _ _ pc lo st w => ex_ldI (pc + 2) lo i st w
  | .lload_n k => fun _ _ pc lo st w => ex_ldL (pc + 1) lo k st w
  | .lload i => fun _ _ pc lo st w => ex_ldL (pc + 2) lo i st w
  | .astore_n k => fun _ _ pc lo st w => ex_stA (pc + 1) lo k st w
  | .astore i => fun _ _ pc lo st w => ex_stA (pc + 2) lo i st w
  | .istore_n k => fun _ _ pc lo st w => ex_stI (pc + 1) lo k st w
  | .istore i => fun _ _ pc lo st w => ex_stI (pc + 2) lo i st w
  | .lstore_n k => fun _ _ pc lo st w => ex_stL (pc + 1) lo k st w
  | .lstore i => fun _ _ pc lo st w => ex_stL (pc + 2) lo i st w
  | .iinc i n => fun _ _ pc lo st w => ex_inc i n pc lo st w
  | .iconst n => fun _ _ pc lo st w => ex_go (pc + 1) lo (.int (Int32.ofInt n) :: st) w
  | .bipush n => fun _ _ pc lo st w => ex_go (pc + 2) lo (.int (Int8.ofInt n).toInt32 :: st) w
  | .sipush n => fun _ _ pc lo st w => ex_go (pc + 3) lo (.int (Int16.ofInt n).toInt32 :: st) w
  | .lconst n => fun _ _ pc lo st w => ex_go (pc + 1) lo (.long (Int64.ofNat (n : Nat)) :: st) w
  | .ldc i => fun _ M pc lo st w => ex_lcs (ex_ldc M.2.2.1 i) (pc + 2) lo st w
  | .ldc_w i => fun _ M pc lo st w => ex_lc (ex_ldc M.2.2.1 i) (pc + 3) lo st w
  | .ldc2_w i => fun _ M pc lo st w => ex_lc2 (ex_ldc M.2.2.1 i) (pc + 3) lo st w
  | .iadd => fun _ _ pc lo st w => ex_i2 (fun x y => x + y) (pc + 1) lo st w
  | .isub => fun _ _ pc lo st w => ex_i2 (fun x y => x - y) (pc + 1) lo st w
  | .imul => fun _ _ pc lo st w => ex_i2 (fun x y => x * y) (pc + 1) lo st w
  | .iand => fun _ _ pc lo st w => ex_i2 (fun x y => x &&& y) (pc + 1) lo st w
  | .ior => fun _ _ pc lo st w => ex_i2 (fun x y => x ||| y) (pc + 1) lo st w
  | .ixor => fun _ _ pc lo st w => ex_i2 (fun x y => x ^^^ y) (pc + 1) lo st w
  | .ishl => fun _ _ pc lo st w => ex_i2 (fun x y => x <<< (y &&& 31)) (pc + 1) lo st w
  | .ishr => fun _ _ pc lo st w => ex_i2 (fun x y => x >>> (y &&& 31)) (pc + 1) lo st w
  | .iushr => fun _ _ pc lo st w => ex_i2 (fun x y => (x.toUInt32 >>> (y.toUInt32 &&& Int32.toUInt32 31)).toInt32) (pc + 1) lo st w
  | .idiv => fun _ _ pc lo st w => ex_d2 (fun x y => x / y) (pc + 1) lo st w
  | .irem => fun _ _ pc lo st w => ex_d2 (fun x y => x - x / y * y) (pc + 1) lo st w
  | .ineg => fun _ _ pc lo st w => ex_i1 (fun x => -x) (pc + 1) lo st w
  | .i2b => fun _ _ pc lo st w => ex_i1 (fun x => x.toInt8.toInt32) (pc + 1) lo st w
  | .i2s => fun _ _ pc lo st w => ex_i1 (fun x => x.toInt16.toInt32) (pc + 1) lo st w
  | .i2c => fun _ _ pc lo st w => ex_i1 (fun x => (x.toUInt32 % 65536).toInt32) (pc + 1) lo st w
  | .i2l => fun _ _ pc lo st w => ex_i2l (pc + 1) lo st w
  | .l2i => fun _ _ pc lo st w => ex_l2i (pc + 1) lo st w
  | .ladd => fun _ _ pc lo st w => ex_l2 (fun x y => x + y) (pc + 1) lo st w
  | .lmul => fun _ _ pc lo st w => ex_l2 (fun x y => x * y) (pc + 1) lo st w
  | .land => fun _ _ pc lo st w => ex_l2 (fun x y => x &&& y) (pc + 1) lo st w
  | .lor => fun _ _ pc lo st w => ex_l2 (fun x y => x ||| y) (pc + 1) lo st w
  | .ldiv => fun _ _ pc lo st w => ex_e2 (fun x y => x / y) (pc + 1) lo st w
  | .lrem => fun _ _ pc lo st w => ex_e2 (fun x y => x - x / y * y) (pc + 1) lo st w
  | .lshl => fun _ _ pc lo st w => ex_ls (fun x y => x <<< (y.toInt64 &&& 63)) (pc + 1) lo st w
  | .lshr => fun _ _ pc lo st w => ex_ls (fun x y => x >>> (y.toInt64 &&& 63)) (pc + 1) lo st w
  | .lushr => fun _ _ pc lo st w => ex_ls (fun x y => (x.toUInt64 >>> (y.toInt64.toUInt64 &&& Int64.toUInt64 63)).toInt64) (pc + 1) lo st w
  | .lcmp => fun _ _ pc lo st w => ex_lcm (pc + 1) lo st w
  | .dup => fun _ _ pc lo st w => ex_dup pc lo st w
  | .dup2 => fun _ _ pc lo st w => ex_dup2 pc lo st w
  | .pop => fun _ _ pc lo st w => ex_pop pc lo st w
  | .pop2 => fun _ _ pc lo st w => ex_pop2 pc lo st w
  | .goto off => fun _ _ pc lo st w => ex_jp pc off lo st w
  | .ifCond c off => fun _ _ pc lo st w => ex_b0 c off pc lo st w
  | .if_icmp c off => fun _ _ pc lo st w => ex_b2 c off pc lo st w
  | .tableswitch d lw hi offs => fun _ _ pc lo st w => ex_tsw d lw hi offs pc lo st w
  | .getfield i => fun _ M pc lo st w => ex_gfs (ex_sfl M.2.2.1 i) (ex_fld M.2.2.1 i) pc lo st w
  | .getstatic i => fun _ M pc lo st w => ex_gst (ex_sta M.2.2.1 i) pc lo st w
  | .putfield i => fun _ M pc lo st w => ex_pf (ex_fld M.2.2.1 i) M.2.2.2.2.2.2.1 M.2.2.2.2.2.2.2.1 pc lo st w
  | .iaload => fun X M pc lo st w => ex_ald false X (Nat.beq M.1 0) pc lo st w
  | .baload => fun X M pc lo st w => ex_ald true X (Nat.beq M.1 0) pc lo st w
  | .iastore => fun _ _ pc lo st w => ex_ast false pc lo st w
  | .bastore => fun _ _ pc lo st w => ex_ast true pc lo st w
  | .aaload => fun _ _ pc lo st w => ex_alq pc lo st w
  | .aastore => fun _ _ pc lo st w => ex_asq pc lo st w
  | .arraylength => fun X M pc lo st w => ex_aln X (Nat.beq M.1 0) pc lo st w
  | .new i => fun _ M pc lo st w => ex_nwo (ex_nwc M.2.2.1 i) pc lo st w
  | .newarray ty => fun _ _ pc lo st w => ex_nwa (newarray.typeOf ty) pc lo st w
  | .anewarray i => fun _ M pc lo st w => ex_nwq (ex_nwc M.2.2.1 i) pc lo st w
  | .invokevirtual i => fun _ M pc lo st w => ex_iv 0 (ex_itr M.2.2.1 i) (ex_cal M.2.2.1 i) pc lo st w
  | .invokestatic i => fun _ M pc lo st w => ex_iv 1 (ex_itr M.2.2.1 i) (ex_cal M.2.2.1 i) pc lo st w
  | .invokespecial i => fun _ M pc lo st w => ex_iv 2 (ex_itr M.2.2.1 i) (ex_cal M.2.2.1 i) pc lo st w
  | .ireturn => fun _ M _ _ st _ => ex_ret M.2.2.2.1 st
  | .lreturn => fun _ M _ _ st _ => ex_lret M.2.2.2.1 st
  | .return_ => fun _ M _ _ st _ => ex_vret M.2.2.2.1 st
  | _ => fun _ _ _ _ _ _ => none
noncomputable def ex_step (X : List Int32) (M : ex_M) (f : ex_F) (w : ex_W) : Option ex_A := match ex_g3 M.2.1 f.1 with
  | some ins => ex_ins ins X M f.1 f.2.1 f.2.2 w
  | none => none
noncomputable def ex_lay : List Value → ex_L
  | [] => []
  | v :: r => match ex_two v with
    | true => some v :: none :: ex_lay r
    | false => some v :: ex_lay r
/-- a method's first frame -/
noncomputable def ex_ent (M : ex_M) (as : List Value) : ex_F := (0, ex_lay as ++ List.replicate (M.2.2.2.2.1 - (ex_lay as).length) none, [])
/-- what comes of an instruction -/
noncomputable def ex_nxt (ih : Nat → ex_M → ex_F → ex_W → Option (Option Value × ex_W)) (d : Nat) (M : ex_M) (w : ex_W) (a : Option ex_A) : Option (Option Value × ex_W) := match a with
  | none => none
  | some (.inl q) => ih d M q.1 q.2
  | some (.inr (.inl (cal, as, g))) => match d, ex_at ex_lst cal with
    | d' + 1, some M' => if (ex_lay as).length ≤ M'.2.2.2.2.1 then (match ih d' M' (ex_ent M' as) w with
      | some (r, w') => ih (d' + 1) M (g.1, g.2.1, r.toList ++ g.2.2) w'
      | none => none) else none
    | _, _ => none
  | some (.inr (.inr v)) => some (v, w)
/-- a run of a method's frame: its answer and the cells behind it -/
noncomputable def ex_run (X : List Int32) (n : Nat) : Nat → ex_M → ex_F → ex_W → Option (Option Value × ex_W) := Nat.rec (motive := fun _ => Nat → ex_M → ex_F → ex_W → Option (Option Value × ex_W)) (fun _ _ _ _ => none) (fun _ ih d M f w => ex_nxt ih d M w (ex_step X M f w)) n
theorem ex_run_0 (X : List Int32) (d : Nat) (M : ex_M) (f : ex_F) (w : ex_W) : ex_run X 0 d M f w = none := rfl
theorem ex_run_s (X : List Int32) (n d : Nat) (M : ex_M) (f : ex_F) (w : ex_W) : ex_run X (n + 1) d M f w = ex_nxt (ex_run X n) d M w (ex_step X M f w) := rfl
