/-! bitCount COUNTS. -/
def pop (N : Nat) : Nat → Nat
  | 0 => 0
  | n + 1 => pop N n + if N.testBit n = true then 1 else 0
/-! the same with natural numbers -/
theorem nI_and (a b : Nat) : nI a &&& nI b = nI (a &&& b) := Int32.toBitVec.inj (show BitVec.ofNat 32 a &&& BitVec.ofNat 32 b = BitVec.ofNat 32 (a &&& b) from BitVec.ofNat_and.symm)
theorem nI_plus (a b : Nat) : nI a + nI b = nI (a + b) := (Int32.ofNat_add a b).symm
theorem nI_less {a b : Nat} (h : b ≤ a) : nI a - nI b = nI (a - b) := (Int32.ofNat_sub a b h).symm
theorem nI_us {N s : Nat} {k : Int32} (h : N < 2 ^ 32) (hk : (UInt32.mod ((Int32.toUInt32 k) &&& Int32.toUInt32 31) 32).toBitVec.toNat = s) : (((Int32.toUInt32 (nI N)) >>> ((Int32.toUInt32 k) &&& Int32.toUInt32 31)).toInt32) = nI (N >>> s) := by
  refine Int32.toBitVec.inj (BitVec.eq_of_toNat_eq ?_)
  show (BitVec.ofNat 32 N >>> (UInt32.mod ((Int32.toUInt32 k) &&& Int32.toUInt32 31) 32).toBitVec.toNat).toNat = (BitVec.ofNat 32 (N >>> s)).toNat
  have h2 : N >>> s ≤ N := Nat.shiftRight_le N s
  rw [hk, BitVec.toNat_ushiftRight, BitVec.toNat_ofNat, BitVec.toNat_ofNat, Nat.mod_eq_of_lt h, Nat.mod_eq_of_lt (by omega)]
def bcn1 (N : Nat) : Nat := N - ((N >>> 1) &&& 1431655765)
def bcn2 (N : Nat) : Nat := (N &&& 858993459) + ((N >>> 2) &&& 858993459)
def bcn3 (N : Nat) : Nat := (N + (N >>> 4)) &&& 252645135
def bcn4 (N : Nat) : Nat := N + (N >>> 8)
def bcn5 (N : Nat) : Nat := N + (N >>> 16)
def bcn (N : Nat) : Nat := bcn5 (bcn4 (bcn3 (bcn2 (bcn1 N)))) &&& 63
theorem bcn_1 {N : Nat} (h : N < 2 ^ 32) : bcf1 (nI N) = nI (bcn1 N) := by
  unfold bcf1 bcn1
  rw [nI_us (s := 1) h (by decide), show (1431655765 : Int32) = nI 1431655765 from rfl, nI_and, nI_less (Nat.le_trans Nat.and_le_left (Nat.shiftRight_le N 1))]
theorem bcn_2 {N : Nat} (h : N < 2 ^ 32) : bcf2 (nI N) = nI (bcn2 N) := by
  unfold bcf2 bcn2
  rw [nI_us (s := 2) h (by decide), show (858993459 : Int32) = nI 858993459 from rfl, nI_and, nI_and, nI_plus]
theorem bcn_3 {N : Nat} (h : N < 2 ^ 32) : bcf3 (nI N) = nI (bcn3 N) := by
  unfold bcf3 bcn3
  rw [nI_us (s := 4) h (by decide), show (252645135 : Int32) = nI 252645135 from rfl, nI_plus, nI_and]
theorem bcn_4 {N : Nat} (h : N < 2 ^ 32) : bcf4 (nI N) = nI (bcn4 N) := by
  unfold bcf4 bcn4
  rw [nI_us (s := 8) h (by decide), nI_plus]
theorem bcn_5 {N : Nat} (h : N < 2 ^ 32) : bcf5 (nI N) = nI (bcn5 N) := by
  unfold bcf5 bcn5
  rw [nI_us (s := 16) h (by decide), nI_plus]
theorem bcn_all {N : Nat} (h : N < 2 ^ 16) : bcf (nI N) = nI (bcn N) := by
  have h1 : bcn1 N < 2 ^ 16 := Nat.lt_of_le_of_lt (Nat.sub_le _ _) h
  have h2 : bcn2 (bcn1 N) < 2 ^ 17 := by
    have a1 : bcn1 N &&& 858993459 ≤ bcn1 N := Nat.and_le_left
    have a2 : (bcn1 N >>> 2) &&& 858993459 ≤ bcn1 N := Nat.le_trans Nat.and_le_left (Nat.shiftRight_le _ 2)
    show (bcn1 N &&& 858993459) + ((bcn1 N >>> 2) &&& 858993459) < 2 ^ 17
    omega
  have h3 : bcn3 (bcn2 (bcn1 N)) < 2 ^ 18 := by
    have a1 : bcn3 (bcn2 (bcn1 N)) ≤ bcn2 (bcn1 N) + (bcn2 (bcn1 N) >>> 4) := Nat.and_le_left
    have a2 : bcn2 (bcn1 N) >>> 4 ≤ bcn2 (bcn1 N) := Nat.shiftRight_le _ 4
    omega
  have h4 : bcn4 (bcn3 (bcn2 (bcn1 N))) < 2 ^ 19 := by
    have a2 : bcn3 (bcn2 (bcn1 N)) >>> 8 ≤ bcn3 (bcn2 (bcn1 N)) := Nat.shiftRight_le _ 8
    show bcn3 (bcn2 (bcn1 N)) + (bcn3 (bcn2 (bcn1 N)) >>> 8) < 2 ^ 19
    omega
  unfold bcf bcn
  rw [bcn_1 (by omega), bcn_2 (by omega), bcn_3 (by omega), bcn_4 (by omega), bcn_5 (by omega), show (63 : Int32) = nI 63 from rfl, nI_and]
/-- all numbers of n bits more -/
noncomputable def ck3 (n : Nat) : Nat → Nat → Bool := Nat.rec (motive := fun _ => Nat → Nat → Bool) (fun a c => Nat.beq (bcn (2 * a)) c) (fun _ ih a c => ih (2 * a) c && ih (2 * a + 1) (c + 1)) n
theorem ck3_j {n a c : Nat} (h1 : ck3 n (2 * a) c = true) (h2 : ck3 n (2 * a + 1) (c + 1) = true) : ck3 (n + 1) a c = true := by
  show (ck3 n (2 * a) c && ck3 n (2 * a + 1) (c + 1)) = true
  rw [h1, h2]
  rfl
theorem pop_low {N M : Nat} : ∀ n, (∀ j, j < n → N.testBit j = M.testBit j) → pop N n = pop M n
  | 0, _ => rfl
  | n + 1, h => by
    show pop N n + (if N.testBit n = true then 1 else 0) = pop M n + (if M.testBit n = true then 1 else 0)
    rw [pop_low n (fun j hj => h j (by omega)), h n (by omega)]
theorem ck3_all : ∀ n a c, ck3 n a c = true → ∀ r, r < 2 ^ n → bcn (2 * (2 ^ n * a + r)) = c + pop r n
  | 0, a, c, h, r, hr => by
    have hr : r = 0 := by
      have : r < 1 := hr
      omega
    have h : Nat.beq (bcn (2 * a)) c = true := h
    rw [hr, show 2 ^ 0 * a + 0 = a by omega, Nat.eq_of_beq_eq_true h]
    rfl
  | n + 1, a, c, h, r, hr => by
    have h : (ck3 n (2 * a) c && ck3 n (2 * a + 1) (c + 1)) = true := h
    rw [Bool.and_eq_true] at h
    have e : 2 ^ (n + 1) = 2 * 2 ^ n := by rw [Nat.pow_succ, Nat.mul_comm]
    show _ = c + (pop r n + if r.testBit n = true then 1 else 0)
    by_cases b : r < 2 ^ n
    · have k := ck3_all n (2 * a) c h.1 r b
      rw [e, show 2 * 2 ^ n * a + r = 2 ^ n * (2 * a) + r by rw [Nat.mul_assoc, Nat.mul_left_comm], k, Nat.testBit_lt_two_pow b, if_neg (by decide), Nat.add_zero]
    · have k := ck3_all n (2 * a + 1) (c + 1) h.2 (r - 2 ^ n) (by omega)
      have er : r = 2 ^ n + (r - 2 ^ n) := by omega
      have eb : r.testBit n = true := by
        rw [er, Nat.testBit_two_pow_add_eq, Nat.testBit_lt_two_pow (by omega)]
        rfl
      have el : pop r n = pop (r - 2 ^ n) n := pop_low n (fun j hj => by
        conv => lhs; rw [er]
        exact Nat.testBit_two_pow_add_gt hj _)
      rw [e, show 2 * 2 ^ n * a + r = 2 ^ n * (2 * a + 1) + (r - 2 ^ n) by
        rw [Nat.mul_add, Nat.mul_one, Nat.mul_assoc, Nat.mul_left_comm]
        omega, k, eb, if_pos rfl, el]
      omega
set_option maxRecDepth 1000000 in
theorem bc_ck0 : ck3 12 0 0 = true := by decide +kernel
set_option maxRecDepth 1000000 in
theorem bc_ck1 : ck3 12 1 1 = true := by decide +kernel
set_option maxRecDepth 1000000 in
theorem bc_ck2 : ck3 12 2 1 = true := by decide +kernel
set_option maxRecDepth 1000000 in
theorem bc_ck3 : ck3 12 3 2 = true := by decide +kernel
set_option maxRecDepth 1000000 in
theorem bc_ck4 : ck3 12 4 1 = true := by decide +kernel
set_option maxRecDepth 1000000 in
theorem bc_ck5 : ck3 12 5 2 = true := by decide +kernel
set_option maxRecDepth 1000000 in
theorem bc_ck6 : ck3 12 6 2 = true := by decide +kernel
set_option maxRecDepth 1000000 in
theorem bc_ck7 : ck3 12 7 3 = true := by decide +kernel
theorem bc_ck : ck3 15 0 0 = true := ck3_j (ck3_j (ck3_j bc_ck0 bc_ck1) (ck3_j bc_ck2 bc_ck3)) (ck3_j (ck3_j bc_ck4 bc_ck5) (ck3_j bc_ck6 bc_ck7))
theorem pop_two (M : Nat) : ∀ n, pop (2 * M) (n + 1) = pop M n
  | 0 => by
    show 0 + (if (2 * M).testBit 0 = true then 1 else 0) = 0
    rw [Nat.testBit_zero, decide_eq_false (show ¬ 2 * M % 2 = 1 by omega), if_neg (by decide)]
  | n + 1 => by
    show pop (2 * M) (n + 1) + (if (2 * M).testBit (n + 1) = true then 1 else 0) = pop M n + (if M.testBit n = true then 1 else 0)
    rw [pop_two M n, Nat.testBit_succ, show 2 * M / 2 = M by omega]
theorem bc_pop {N : Nat} (h : N < 2 ^ 16) (he : N % 2 = 0) : bcf (nI N) = nI (pop N 16) := by
  have k := ck3_all 15 0 0 bc_ck (N / 2) (by omega)
  rw [Nat.mul_zero, Nat.zero_add, Nat.zero_add, show 2 * (N / 2) = N by omega, ← pop_two, show 2 * (N / 2) = N by omega] at k
  rw [bcn_all h, k]
theorem nI_bits (v : Int32) : v = nI v.toBitVec.toNat := Int32.toBitVec.inj (by
  show v.toBitVec = BitVec.ofNat 32 v.toBitVec.toNat
  rw [BitVec.ofNat_toNat, BitVec.setWidth_eq])
set_option maxRecDepth 100000 in
theorem bt_mask : ∀ k, k ≤ 16 → ∀ j, j < 32 → bt (((1 : Int32) <<< (nI k &&& 31)) - 1) j = decide (j < k) := by decide +kernel
theorem pop_cnt {N k : Nat} {f : Nat → Bool} (h0 : f 0 = false) (h : ∀ j, j < 32 → N.testBit j = (f j && decide (j < k))) : ∀ n, n ≤ 16 → pop N n = cnt f (if n ≤ k then n else k)
  | 0, _ => by
    rw [if_pos (Nat.zero_le k)]
    rfl
  | n + 1, hn => by
    have ih := pop_cnt h0 h n (by omega)
    show pop N n + (if N.testBit n = true then 1 else 0) = _
    rw [ih, h n (by omega)]
    by_cases c : n + 1 ≤ k
    · rw [if_pos c, if_pos (show n ≤ k by omega), decide_eq_true (show n < k by omega), Bool.and_true]
      show _ = cnt f n + (if 1 ≤ n ∧ f n = true then 1 else 0)
      by_cases e : f n = true
      · by_cases z : n = 0
        · rw [z, h0] at e
          exact absurd e (by decide)
        · rw [if_pos e, if_pos ⟨by omega, e⟩]
      · rw [if_neg e, if_neg (fun q => e q.2)]
    · rw [if_neg c, decide_eq_false (show ¬ n < k by omega), Bool.and_false, if_neg (show ¬ false = true by decide), Nat.add_zero]
      by_cases e : n ≤ k
      · rw [if_pos e, show n = k by omega]
      · rw [if_neg e]
theorem bc_cnt {b : Int32} {k : Nat} (hk : k ≤ 16) (h0 : bt b 0 = false) : bcf (b &&& (((1 : Int32) <<< (nI k &&& 31)) - 1)) = nI (cnt (bt b) k) := by
  have hb : ∀ j, j < 32 → (b &&& (((1 : Int32) <<< (nI k &&& 31)) - 1)).toBitVec.toNat.testBit j = (bt b j && decide (j < k)) := fun j hj => by
    show bt (b &&& (((1 : Int32) <<< (nI k &&& 31)) - 1)) j = _
    rw [bt_and, bt_mask k hk j hj]
  have hN : (b &&& (((1 : Int32) <<< (nI k &&& 31)) - 1)).toBitVec.toNat < 2 ^ 16 := Nat.lt_pow_two_of_testBit _ (fun i hi => by
    by_cases c : i < 32
    · rw [hb i c, decide_eq_false (show ¬ i < k by omega), Bool.and_false]
    · exact BitVec.getLsbD_of_ge _ _ (by omega))
  have he : (b &&& (((1 : Int32) <<< (nI k &&& 31)) - 1)).toBitVec.toNat % 2 = 0 := by
    have k0 := hb 0 (by omega)
    rw [h0, Bool.false_and, Nat.testBit_zero] at k0
    have := of_decide_eq_false k0
    omega
  rw [nI_bits (b &&& (((1 : Int32) <<< (nI k &&& 31)) - 1)), bc_pop hN he, pop_cnt h0 hb 16 (by omega)]
  congr 1
  by_cases c : 16 ≤ k
  · rw [if_pos c, show k = 16 by omega]
  · rw [if_neg c]
theorem cnt_cg {f g : Nat → Bool} : ∀ k, (∀ j, 1 ≤ j → j < k → f j = g j) → cnt f k = cnt g k
  | 0, _ => rfl
  | k + 1, h => by
    show cnt f k + (if 1 ≤ k ∧ f k = true then 1 else 0) = cnt g k + (if 1 ≤ k ∧ g k = true then 1 else 0)
    rw [cnt_cg k (fun j a b => h j a (by omega))]
    by_cases c : 1 ≤ k
    · rw [h k c (by omega)]
    · rw [if_neg (fun q => c q.1), if_neg (fun q => c q.1)]
/-- what a number means is the same in both -/
theorem mg_mn {tf : Nat → Int32} {ta : Nat → List Int32} {ST : List Int32} {dn : Nat} {R : Nat → Int} {x b : Int32} (hx : 1 ≤ x.toInt ∧ x.toInt ≤ (tf 0).toInt) (h16 : (tf 0).toInt ≤ 16) (e78 : ST.getD 78 0 = tf 2) (e79 : ST.getD 79 0 = tf 3) (e80 : ST.getD 80 0 = tf 4) (hp : ST.getD (61 + x.toInt.toNat) 0 = (ta 1).getD x.toInt.toNat 0) (hb : ∀ j, j < 32 → bt b j = (decide (1 ≤ j ∧ (j : Int) ≤ (tf 0).toInt) && okP R dn (tf 2).toInt (tf 3).toInt j)) : mgV tf ta x b = mnV R dn ST (tf 1) x := by
  have ex : x = nI x.toInt.toNat := tI_nI (by omega) (by omega)
  have hbx : bt b x.toInt.toNat = okP R dn (tf 2).toInt (tf 3).toInt x.toInt := by
    rw [hb _ (by omega), decide_eq_true (show 1 ≤ x.toInt.toNat ∧ (x.toInt.toNat : Int) ≤ (tf 0).toInt by omega), Bool.true_and, show ((x.toInt.toNat : Nat) : Int) = x.toInt by omega]
  have h0 : bt b 0 = false := by
    rw [hb 0 (by omega), decide_eq_false (by omega), Bool.false_and]
  unfold mgV mnV
  rw [if_pos hx, e78, e79, e80, hp, hbx]
  have ec : bcf (b &&& (((1 : Int32) <<< (x &&& 31)) - 1)) = nI (cnt (fun k => okP R dn (tf 2).toInt (tf 3).toInt k) x.toInt.toNat) := by
    have k := bc_cnt (b := b) (k := x.toInt.toNat) (by omega) h0
    rw [← ex] at k
    rw [k]
    congr 1
    exact cnt_cg _ (fun j a c => by rw [hb j (by omega), decide_eq_true (by omega), Bool.true_and])
  rw [ec]
