/-! PURE: helpers for what the machine's equations say -/
theorem zbi_some (v : Int32) (M : zM) (f : Int32 → zM → zR) : zbi (some (.int v, M)) f = f v M := rfl
theorem zbl_some (v : Int64) (M : zM) (f : Int64 → zM → zR) : zbl (some (.long v, M)) f = f v M := rfl
theorem zbv_some (M : zM) (f : zM → zR) : zbv (some (.null, M)) f = f M := rfl
theorem zbi_ite {c : Prop} [Decidable c] (a b : zR) (f : Int32 → zM → zR) : zbi (if c then a else b) f = if c then zbi a f else zbi b f := by split <;> rfl
theorem zbl_ite {c : Prop} [Decidable c] (a b : zR) (f : Int64 → zM → zR) : zbl (if c then a else b) f = if c then zbl a f else zbl b f := by split <;> rfl
theorem zbv_ite {c : Prop} [Decidable c] (a b : zR) (f : zM → zR) : zbv (if c then a else b) f = if c then zbv a f else zbv b f := by split <;> rfl
/-- a condition as an int -/
def zb (c : Prop) [Decidable c] : Int32 := if c then 1 else 0
theorem zb_eq0 {c : Prop} [Decidable c] : (zb c = 0) ↔ ¬ c := by unfold zb; split <;> simp_all
theorem zb_01 (c : Prop) [Decidable c] : zb c = 0 ∨ zb c = 1 := by unfold zb; split <;> simp
theorem zb_true {c : Prop} [Decidable c] (h : c) : zb c = 1 := by unfold zb; rw [if_pos h]
theorem zb_false {c : Prop} [Decidable c] (h : ¬ c) : zb c = 0 := by unfold zb; rw [if_neg h]
/-- Int32 by its number -/
theorem i32_lt (a b : Int32) : a < b ↔ a.toInt < b.toInt := Int32.lt_iff_toInt_lt
theorem i32_le (a b : Int32) : a ≤ b ↔ a.toInt ≤ b.toInt := Int32.le_iff_toInt_le
theorem i32_eq (a b : Int32) : a = b ↔ a.toInt = b.toInt := Int32.toInt_inj.symm
theorem i32_lo (a : Int32) : -2147483648 ≤ a.toInt := by have := a.le_toInt; simpa using this
theorem i32_hi (a : Int32) : a.toInt < 2147483648 := by have := a.toInt_lt; simpa using this
theorem i32_add {a b : Int32} (h : -2147483648 ≤ a.toInt + b.toInt) (h2 : a.toInt + b.toInt < 2147483648) : (a + b).toInt = a.toInt + b.toInt := by
  rw [Int32.toInt_add]
  exact Int.bmod_eq_of_le (by omega) (by omega)
theorem i32_sub {a b : Int32} (h : -2147483648 ≤ a.toInt - b.toInt) (h2 : a.toInt - b.toInt < 2147483648) : (a - b).toInt = a.toInt - b.toInt := by
  rw [Int32.toInt_sub]
  exact Int.bmod_eq_of_le (by omega) (by omega)
theorem i32_mul {a b : Int32} (h : -2147483648 ≤ a.toInt * b.toInt) (h2 : a.toInt * b.toInt < 2147483648) : (a * b).toInt = a.toInt * b.toInt := by
  rw [Int32.toInt_mul]
  exact Int.bmod_eq_of_le (by omega) (by omega)
theorem i64_add {a b : Int64} (h : -9223372036854775808 ≤ a.toInt + b.toInt) (h2 : a.toInt + b.toInt < 9223372036854775808) : (a + b).toInt = a.toInt + b.toInt := by
  rw [Int64.toInt_add]
  exact Int.bmod_eq_of_le (by omega) (by omega)
theorem i64_sub {a b : Int64} (h : -9223372036854775808 ≤ a.toInt - b.toInt) (h2 : a.toInt - b.toInt < 9223372036854775808) : (a - b).toInt = a.toInt - b.toInt := by
  rw [Int64.toInt_sub]
  exact Int.bmod_eq_of_le (by omega) (by omega)
theorem i64_mul {a b : Int64} (h : -9223372036854775808 ≤ a.toInt * b.toInt) (h2 : a.toInt * b.toInt < 9223372036854775808) : (a * b).toInt = a.toInt * b.toInt := by
  rw [Int64.toInt_mul]
  exact Int.bmod_eq_of_le (by omega) (by omega)
theorem i64_lt (a b : Int64) : a < b ↔ a.toInt < b.toInt := Int64.lt_iff_toInt_lt
theorem i64_le (a b : Int64) : a ≤ b ↔ a.toInt ≤ b.toInt := Int64.le_iff_toInt_le
theorem i64_eq (a b : Int64) : a = b ↔ a.toInt = b.toInt := Int64.toInt_inj.symm
theorem i64_of (a : Int32) : a.toInt64.toInt = a.toInt := Int32.toInt_toInt64 a
theorem i32_nat (a : Int32) : a.toNatClampNeg = a.toInt.toNat := rfl
/-- memory, read back -/
theorem zup_at (μ : zMu) (r i : Nat) (v : Int32) (a : Nat) : zup μ r i v a = if a = r then upd (μ r) i v else μ a := rfl
theorem upd_at (f : Nat → Int32) (k : Nat) (x : Int32) (j : Nat) : upd f k x j = if j = k then x else f j := rfl
theorem upd_eq (f : Nat → Int32) (k : Nat) (x : Int32) : upd f k x k = x := if_pos rfl
theorem upd_ne (f : Nat → Int32) {k j : Nat} (x : Int32) (h : j ≠ k) : upd f k x j = f j := if_neg h
