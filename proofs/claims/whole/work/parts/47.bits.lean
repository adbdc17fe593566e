/-! BITS: sets as masks -/
theorem zi_n (n : Nat) : zi (n : Int) = Int32.ofNat n := Int32.ofInt_eq_ofNat
/-- what n has and m hasn't -/
def sdf (n m : Nat) : Nat := n ^^^ (n &&& m)
theorem sdf_bit (n m i : Nat) : (sdf n m).testBit i = (n.testBit i && !m.testBit i) := by
  unfold sdf
  rw [Nat.testBit_xor, Nat.testBit_and]
  cases n.testBit i <;> cases m.testBit i <;> rfl
theorem zb_andN (n m : Nat) : zi (n : Int) &&& zi (m : Int) = zi ((n &&& m : Nat) : Int) := by
  rw [zi_n, zi_n, zi_n]
  apply Int32.toBitVec_inj.mp
  show BitVec.ofNat 32 n &&& BitVec.ofNat 32 m = BitVec.ofNat 32 (n &&& m)
  exact BitVec.ofNat_and.symm
theorem zb_orN (n m : Nat) : zi (n : Int) ||| zi (m : Int) = zi ((n ||| m : Nat) : Int) := by
  rw [zi_n, zi_n, zi_n, i32_ofNat_or]
theorem zb_not (n m : Nat) : zi (n : Int) &&& (zi (m : Int) ^^^ zi (-1)) = zi ((sdf n m : Nat) : Int) := by
  rw [zi_n, zi_n, zi_n]
  apply Int32.toBitVec_inj.mp
  show BitVec.ofNat 32 n &&& (BitVec.ofNat 32 m ^^^ BitVec.allOnes 32) = BitVec.ofNat 32 (sdf n m)
  apply BitVec.eq_of_getLsbD_eq
  intro i hi
  rw [BitVec.getLsbD_and, BitVec.getLsbD_xor, BitVec.getLsbD_ofNat, BitVec.getLsbD_ofNat, BitVec.getLsbD_ofNat, sdf_bit, BitVec.getLsbD_allOnes]
  simp [hi]
theorem zb_shl {j : Nat} (h : j < 31) : zi 1 <<< (zi (j : Int) &&& 31) = zi ((2 ^ j : Nat) : Int) := by
  rw [zi_n, zi_n]
  exact i32_shl_small j h
theorem zb_sm : ∀ p : Nat, p < 31 → ((Int32.ofNat p &&& 31).toBitVec.smod 32#32).toNat = p := by decide +kernel
theorem zb_bit (n : Nat) {p : Nat} (h : p < 31) : (zi (n : Int) >>> (zi (p : Int) &&& 31)) &&& zi 1 = zi (if n.testBit p then 1 else 0) := by
  rw [zi_n, zi_n]
  apply Int32.toBitVec_inj.mp
  have e : (Int32.ofNat n >>> (Int32.ofNat p &&& 31)).toBitVec = (BitVec.ofNat 32 n).sshiftRight p := by
    show (BitVec.ofNat 32 n).sshiftRight ((Int32.ofNat p &&& 31).toBitVec.smod 32#32).toNat = _
    rw [zb_sm p h]
  show (Int32.ofNat n >>> (Int32.ofNat p &&& 31)).toBitVec &&& 1#32 = _
  rw [e, BitVec.and_one_eq_setWidth_ofBool_getLsbD, BitVec.getLsbD_sshiftRight]
  have e2 : (BitVec.ofNat 32 n).getLsbD p = n.testBit p := by
    rw [BitVec.getLsbD_ofNat]
    simp
    omega
  have e3 : (!decide (32 ≤ 0) && if p + 0 < 32 then (BitVec.ofNat 32 n).getLsbD (p + 0) else (BitVec.ofNat 32 n).msb) = n.testBit p := by
    rw [if_pos (by omega), Nat.add_zero, e2]
    rfl
  rw [e3]
  cases n.testBit p <;> rfl
theorem ite_b (b : Bool) (x y : Int) : (if b = true then x else y) = bif b then x else y := by cases b <;> rfl
theorem sdf_eq {S f : Nat} (h : S.testBit f = false) : sdf S (2 ^ f) = S := by
  apply Nat.eq_of_testBit_eq
  intro i
  rw [sdf_bit, Nat.testBit_two_pow]
  by_cases q : f = i
  · subst q
    rw [h]
    rfl
  · simp [q]
theorem sdf_le (S m : Nat) : sdf S m ≤ S := by
  refine Nat.le_of_testBit (fun i => ?_)
  rw [sdf_bit]
  cases S.testBit i <;> simp
theorem sdf_lt {S f : Nat} (h : S.testBit f = true) : sdf S (2 ^ f) < S := by
  refine Nat.lt_of_le_of_ne (sdf_le S _) (fun q => ?_)
  have e := sdf_bit S (2 ^ f) f
  rw [q, h, Nat.testBit_two_pow_self] at e
  cases e
theorem or_bit {S f i : Nat} : (S ||| 2 ^ f).testBit i = (S.testBit i || decide (f = i)) := by rw [Nat.testBit_or, Nat.testBit_two_pow]
/-- as sets: n within m -/
def sub (n m : Nat) : Prop := ∀ i, n.testBit i = true → m.testBit i = true
theorem sdf_0 {n m : Nat} : sdf n m = 0 ↔ sub n m := by
  constructor
  · intro h i hi
    have e := sdf_bit n m i
    rw [h, Nat.zero_testBit, hi] at e
    cases q : m.testBit i with
    | true => rfl
    | false => rw [q] at e; cases e
  · intro h
    apply Nat.eq_of_testBit_eq
    intro i
    rw [sdf_bit, Nat.zero_testBit]
    cases q : n.testBit i with
    | false => rfl
    | true => rw [h i q]; rfl
theorem lt_of_sub {n m k : Nat} (h : sub n m) (hm : m < 2 ^ k) : n < 2 ^ k := by
  apply Nat.lt_pow_two_of_testBit
  intro i hi
  cases q : n.testBit i with
  | false => rfl
  | true =>
    have := h i q
    rw [Nat.testBit_lt_two_pow (Nat.lt_of_lt_of_le hm (Nat.pow_le_pow_right (by decide) hi))] at this
    cases this
theorem bit_hi {n k i : Nat} (hn : n < 2 ^ k) (hi : k ≤ i) : n.testBit i = false := Nat.testBit_lt_two_pow (Nat.lt_of_lt_of_le hn (Nat.pow_le_pow_right (by decide) hi))
theorem all_bit (k i : Nat) : (2 ^ k - 1).testBit i = decide (i < k) := Nat.testBit_two_pow_sub_one k i
