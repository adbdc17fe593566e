/-! INTS: Int32 and Int64 by their numbers, for simp with omega -/
def zi (a : Int) : Int32 := Int32.ofInt a
def zl (a : Int) : Int64 := Int64.ofInt a
theorem zi_toInt {a : Int} (h : -2147483648 ≤ a ∧ a < 2147483648) : (zi a).toInt = a := Int32.toInt_ofInt_of_le (by omega) (by omega)
theorem zl_toInt {a : Int} (h : -9223372036854775808 ≤ a ∧ a < 9223372036854775808) : (zl a).toInt = a := Int64.toInt_ofInt_of_le (by omega) (by omega)
theorem zi_of (x : Int32) : zi x.toInt = x := Int32.ofInt_toInt x
theorem zl_of (x : Int64) : zl x.toInt = x := Int64.ofInt_toInt x
theorem zi_ex (x : Int32) : ∃ a : Int, -2147483648 ≤ a ∧ a < 2147483648 ∧ x = zi a := ⟨x.toInt, i32_lo x, i32_hi x, (zi_of x).symm⟩
theorem zi_add (a b : Int) : zi a + zi b = zi (a + b) := (Int32.ofInt_add a b).symm
theorem zi_sub (a b : Int) : zi a - zi b = zi (a - b) := (Int32.ofInt_sub a b).symm
theorem zi_mul (a b : Int) : zi a * zi b = zi (a * b) := (Int32.ofInt_mul a b).symm
theorem zi_neg (a : Int) : -zi a = zi (-a) := Int32.neg_ofInt
theorem zl_add (a b : Int) : zl a + zl b = zl (a + b) := (Int64.ofInt_add a b).symm
theorem zl_sub (a b : Int) : zl a - zl b = zl (a - b) := (Int64.ofInt_sub a b).symm
theorem zl_mul (a b : Int) : zl a * zl b = zl (a * b) := (Int64.ofInt_mul a b).symm
theorem zl_neg (a : Int) : -zl a = zl (-a) := Int64.neg_ofInt
theorem zi_lit (n : Nat) : (OfNat.ofNat n : Int32) = zi (OfNat.ofNat n : Int) := (Int32.ofInt_eq_ofNat (n := n)).symm
theorem zl_lit (n : Nat) : (OfNat.ofNat n : Int64) = zl (OfNat.ofNat n : Int) := (Int64.ofInt_eq_ofNat (n := n)).symm
theorem zi_nat {a : Int} (h : -2147483648 ≤ a ∧ a < 2147483648) : (zi a).toNatClampNeg = a.toNat := by rw [i32_nat, zi_toInt h]
theorem zi_le {a b : Int} (h : (-2147483648 ≤ a ∧ a < 2147483648) ∧ -2147483648 ≤ b ∧ b < 2147483648) : (zi a ≤ zi b) = (a ≤ b) := by rw [i32_le, zi_toInt h.1, zi_toInt h.2]
theorem zi_lt {a b : Int} (h : (-2147483648 ≤ a ∧ a < 2147483648) ∧ -2147483648 ≤ b ∧ b < 2147483648) : (zi a < zi b) = (a < b) := by rw [i32_lt, zi_toInt h.1, zi_toInt h.2]
theorem zi_eq {a b : Int} (h : (-2147483648 ≤ a ∧ a < 2147483648) ∧ -2147483648 ≤ b ∧ b < 2147483648) : (zi a = zi b) = (a = b) := by rw [i32_eq, zi_toInt h.1, zi_toInt h.2]
theorem zl_le {a b : Int} (h : (-9223372036854775808 ≤ a ∧ a < 9223372036854775808) ∧ -9223372036854775808 ≤ b ∧ b < 9223372036854775808) : (zl a ≤ zl b) = (a ≤ b) := by rw [i64_le, zl_toInt h.1, zl_toInt h.2]
theorem zl_lt {a b : Int} (h : (-9223372036854775808 ≤ a ∧ a < 9223372036854775808) ∧ -9223372036854775808 ≤ b ∧ b < 9223372036854775808) : (zl a < zl b) = (a < b) := by rw [i64_lt, zl_toInt h.1, zl_toInt h.2]
theorem zl_eq {a b : Int} (h : (-9223372036854775808 ≤ a ∧ a < 9223372036854775808) ∧ -9223372036854775808 ≤ b ∧ b < 9223372036854775808) : (zl a = zl b) = (a = b) := by rw [i64_eq, zl_toInt h.1, zl_toInt h.2]
theorem zl_of32 {a : Int} (h : -2147483648 ≤ a ∧ a < 2147483648) : (zi a).toInt64 = zl a := by rw [i64_eq, i64_of, zi_toInt h, zl_toInt (by omega)]
theorem zi_of64 (a : Int) : (zl a).toInt32 = zi a := Int64.toInt32_ofInt
theorem zi_div {a b : Int} (h : 0 ≤ a ∧ a < 2147483648 ∧ 0 < b ∧ b < 2147483648) : zi a / zi b = zi (a / b) := by
  have h1 : (-2147483648 ≤ a ∧ a < 2147483648) := by omega
  have h2 : (-2147483648 ≤ b ∧ b < 2147483648) := by omega
  have h3 : 0 ≤ a / b := Int.ediv_nonneg (by omega) (by omega)
  have h4 : a / b ≤ a := Int.ediv_le_self b (by omega)
  rw [i32_eq, Int32.toInt_div, zi_toInt h1, zi_toInt h2, zi_toInt (by omega), Int.tdiv_eq_ediv_of_nonneg (by omega)]
  exact Int.bmod_eq_of_le (by omega) (by omega)
theorem zi_mod {a b : Int} (h : 0 ≤ a ∧ a < 2147483648 ∧ 0 < b ∧ b < 2147483648) : zi a - zi a / zi b * zi b = zi (a % b) := by
  rw [zi_div h, zi_mul, zi_sub, Int.emod_def, Int.mul_comm b]
theorem zl_div {a b : Int} (h : 0 ≤ a ∧ a < 9223372036854775808 ∧ 0 < b ∧ b < 9223372036854775808) : zl a / zl b = zl (a / b) := by
  have h1 : (-9223372036854775808 ≤ a ∧ a < 9223372036854775808) := by omega
  have h2 : (-9223372036854775808 ≤ b ∧ b < 9223372036854775808) := by omega
  have h3 : 0 ≤ a / b := Int.ediv_nonneg (by omega) (by omega)
  have h4 : a / b ≤ a := Int.ediv_le_self b (by omega)
  rw [i64_eq, Int64.toInt_div, zl_toInt h1, zl_toInt h2, zl_toInt (by omega), Int.tdiv_eq_ediv_of_nonneg (by omega)]
  exact Int.bmod_eq_of_le (by omega) (by omega)
theorem zl_mod {a b : Int} (h : 0 ≤ a ∧ a < 9223372036854775808 ∧ 0 < b ∧ b < 9223372036854775808) : zl a - zl a / zl b * zl b = zl (a % b) := by
  rw [zl_div h, zl_mul, zl_sub, Int.emod_def, Int.mul_comm b]
theorem zk0 : (0 : Int32) = zi 0 := rfl
theorem zk1 : (1 : Int32) = zi 1 := rfl
theorem zk2 : (2 : Int32) = zi 2 := rfl
theorem zk3 : (3 : Int32) = zi 3 := rfl
theorem zk4 : (4 : Int32) = zi 4 := rfl
theorem zk5 : (5 : Int32) = zi 5 := rfl
theorem zk6 : (6 : Int32) = zi 6 := rfl
theorem zk7 : (7 : Int32) = zi 7 := rfl
theorem zk8 : (8 : Int32) = zi 8 := rfl
theorem zk9 : (9 : Int32) = zi 9 := rfl
theorem zk10 : (10 : Int32) = zi 10 := rfl
theorem zk11 : (11 : Int32) = zi 11 := rfl
theorem zk12 : (12 : Int32) = zi 12 := rfl
theorem zk14 : (14 : Int32) = zi 14 := rfl
theorem zk15 : (15 : Int32) = zi 15 := rfl
theorem zk16 : (16 : Int32) = zi 16 := rfl
theorem zk17 : (17 : Int32) = zi 17 := rfl
theorem zk19 : (19 : Int32) = zi 19 := rfl
theorem zk20 : (20 : Int32) = zi 20 := rfl
theorem zk21 : (21 : Int32) = zi 21 := rfl
theorem zk24 : (24 : Int32) = zi 24 := rfl
theorem zk25 : (25 : Int32) = zi 25 := rfl
theorem zk30 : (30 : Int32) = zi 30 := rfl
theorem zk32 : (32 : Int32) = zi 32 := rfl
theorem zk36 : (36 : Int32) = zi 36 := rfl
theorem zk40 : (40 : Int32) = zi 40 := rfl
theorem zk45 : (45 : Int32) = zi 45 := rfl
theorem zk50 : (50 : Int32) = zi 50 := rfl
theorem zk64 : (64 : Int32) = zi 64 := rfl
theorem zk97 : (97 : Int32) = zi 97 := rfl
theorem zk99 : (99 : Int32) = zi 99 := rfl
theorem zk100 : (100 : Int32) = zi 100 := rfl
theorem zk102 : (102 : Int32) = zi 102 := rfl
theorem zk122 : (122 : Int32) = zi 122 := rfl
theorem zk128 : (128 : Int32) = zi 128 := rfl
theorem zk255 : (255 : Int32) = zi 255 := rfl
theorem zk800 : (800 : Int32) = zi 800 := rfl
theorem zk801 : (801 : Int32) = zi 801 := rfl
theorem zk900 : (900 : Int32) = zi 900 := rfl
theorem zk999 : (999 : Int32) = zi 999 := rfl
theorem zk1000 : (1000 : Int32) = zi 1000 := rfl
theorem zk1997 : (1997 : Int32) = zi 1997 := rfl
theorem zk9999 : (9999 : Int32) = zi 9999 := rfl
theorem zk10000 : (10000 : Int32) = zi 10000 := rfl
theorem zk100000 : (100000 : Int32) = zi 100000 := rfl
theorem zk99999 : (99999 : Int32) = zi 99999 := rfl
theorem zk9999999 : (9999999 : Int32) = zi 9999999 := rfl
theorem zk999999999 : (999999999 : Int32) = zi 999999999 := rfl
theorem zk2147483647 : (2147483647 : Int32) = zi 2147483647 := rfl
theorem zlc0 : (0 : Int64) = zl 0 := rfl
theorem zlc1 : (1 : Int64) = zl 1 := rfl
theorem zlc2 : (2 : Int64) = zl 2 := rfl
theorem zlc3 : (3 : Int64) = zl 3 := rfl
theorem zlc4 : (4 : Int64) = zl 4 := rfl
theorem zlc23 : (23 : Int64) = zl 23 := rfl
theorem zlc99 : (99 : Int64) = zl 99 := rfl
theorem zlc100 : (100 : Int64) = zl 100 := rfl
theorem zlc9999999 : (9999999 : Int64) = zl 9999999 := rfl
theorem zlc999999999999 : (999999999999 : Int64) = zl 999999999999 := rfl
theorem zlc1073741824 : (1073741824 : Int64) = zl 1073741824 := rfl
theorem zc_lt (x y : Int64) : (lg_cmp x y < zi 0) = (x < y) := propext (lg_cmp_lt x y)
theorem zc_le (x y : Int64) : (lg_cmp x y ≤ zi 0) = (x ≤ y) := propext (lg_cmp_le x y)
theorem zc_ge (x y : Int64) : (zi 0 ≤ lg_cmp x y) = (y ≤ x) := propext (lg_cmp_ge x y)
theorem zc_gt (x y : Int64) : (zi 0 < lg_cmp x y) = (y < x) := propext (lg_cmp_gt x y)
theorem zc_eq (x y : Int64) : (lg_cmp x y = zi 0) = (x = y) := propext (lg_cmp_eq x y)
theorem zbZ {c : Prop} [Decidable c] {α : Type} (A B : α) : (if zb c = zi 0 then A else B) = if c then B else A := zb_ite0 A B
theorem zbO {c : Prop} [Decidable c] {α : Type} (A B : α) : (if zb c = zi 0 ∨ zb c = zi 1 then A else B) = A := zb_or A B
theorem zi_ite {c : Prop} [Decidable c] (a b : Int) : (if c then zi a else zi b) = zi (if c then a else b) := by split <;> rfl
theorem zl_ite {c : Prop} [Decidable c] (a b : Int) : (if c then zl a else zl b) = zl (if c then a else b) := by split <;> rfl
theorem zcastS (j : Nat) : ((j + 1 : Nat) : Int) = (j : Int) + 1 := rfl
theorem znatC (j : Nat) : ((j : Int)).toNat = j := rfl
theorem zloop {f : Nat → zR} {n : Nat} (h : ∀ j, j < n → f j = f (j + 1)) : f 0 = f n := by
  induction n with
  | zero => rfl
  | succ n ih => exact (ih fun j hj => h j (Nat.lt_succ_of_lt hj)).trans (h n (Nat.lt_succ_self n))
/-- a row all at once -/
def zrw (μ : zMu) (r : Nat) (f : Nat → Int32) : zMu := fun a => if a = r then f else μ a
theorem zrw_s (μ : zMu) (r : Nat) (f : Nat → Int32) : zrw μ r f r = f := if_pos rfl
theorem zrw_n (μ : zMu) {r a : Nat} (f : Nat → Int32) (h : a ≠ r) : zrw μ r f a = μ a := if_neg h
theorem zrw_id (μ : zMu) (r : Nat) : zrw μ r (μ r) = μ := by
  funext a
  by_cases h : a = r
  · rw [h, zrw_s]
  · rw [zrw_n _ _ h]
theorem zrw_zrw (μ : zMu) (r : Nat) (f g : Nat → Int32) : zrw (zrw μ r f) r g = zrw μ r g := by
  funext a
  by_cases h : a = r
  · rw [h, zrw_s, zrw_s]
  · rw [zrw_n _ _ h, zrw_n _ _ h, zrw_n _ _ h]
theorem zrw_comm (μ : zMu) {r s : Nat} (f g : Nat → Int32) (h : r ≠ s) : zrw (zrw μ r f) s g = zrw (zrw μ s g) r f := by
  funext a
  by_cases h1 : a = r
  · rw [h1, zrw_n _ _ h, zrw_s, zrw_s]
  · rw [zrw_n _ f h1]
    by_cases h2 : a = s
    · rw [h2, zrw_s, zrw_s]
    · rw [zrw_n _ _ h2, zrw_n _ _ h2, zrw_n _ _ h1]
theorem zup_rw (μ : zMu) (r i : Nat) (v : Int32) : zup μ r i v = zrw μ r (upd (μ r) i v) := by
  funext a
  by_cases h : a = r
  · rw [h, zup_self, zrw_s]
  · rw [zup_ne _ _ _ h, zrw_n _ _ h]
theorem zup_zrw (μ : zMu) (r i : Nat) (v : Int32) (f : Nat → Int32) : zup (zrw μ r f) r i v = zrw μ r (upd f i v) := by rw [zup_rw, zrw_s, zrw_zrw]
theorem zup_zrw_n (μ : zMu) {r s : Nat} (i : Nat) (v : Int32) (f : Nat → Int32) (h : r ≠ s) : zup (zrw μ r f) s i v = zrw (zup μ s i v) r f := by
  rw [zup_rw, zup_rw, zrw_n _ _ (Ne.symm h), zrw_comm _ _ _ h]
theorem zfr_rw {C D : List Nat} {μ μ' : zMu} {r : Nat} {f : Nat → Int32} (h : zfr C D μ μ') (hr : r ∈ C) (h92 : r ≠ 92) : zfr C D μ (zrw μ' r f) := by
  refine ⟨fun a ha hn => ?_, fun j hj => ?_⟩
  · rw [zrw_n _ _ (show a ≠ r from fun q => ha (by rw [q]; exact hr))]
    exact h.1 a ha hn
  · rw [zrw_n _ _ (Ne.symm h92)]
    exact h.2 j hj
theorem zfr_tr {C D : List Nat} {μ μ' μ'' : zMu} (h : zfr C D μ μ') (h2 : zfr C D μ' μ'') : zfr C D μ μ'' := ⟨fun a ha hn => (h2.1 a ha hn).trans (h.1 a ha hn), fun j hj => (h2.2 j hj).trans (h.2 j hj)⟩
theorem zfr_mono {C D C' D' : List Nat} {μ μ' : zMu} (h : zfr C D μ μ') (hC : ∀ a ∈ C, a ∈ C') (hD : ∀ a ∈ D, a ∈ D') : zfr C' D' μ μ' := ⟨fun a ha hn => h.1 a (fun q => ha (hC a q)) hn, fun j hj => h.2 j (fun q => hj (hD j q))⟩
theorem zrow_ex (f : Nat → Int32) : ∃ g : Nat → Int, ∀ k, f k = zi (g k) ∧ -2147483648 ≤ g k ∧ g k < 2147483648 := ⟨fun k => (f k).toInt, fun k => ⟨(zi_of _).symm, i32_lo _, i32_hi _⟩⟩
theorem zTle {a b : Int} (h : a ≤ b) : (a ≤ b) = True := eq_true h
theorem zFle {a b : Int} (h : b < a) : (a ≤ b) = False := eq_false (by omega)
theorem zTlt {a b : Int} (h : a < b) : (a < b) = True := eq_true h
theorem zFlt {a b : Int} (h : b ≤ a) : (a < b) = False := eq_false (by omega)
theorem zTeq {a b : Int} (h : a = b) : (a = b) = True := eq_true h
theorem zFeq {a b : Int} (h : ¬ a = b) : (a = b) = False := eq_false h
theorem nTle {a b : Nat} (h : a ≤ b) : (a ≤ b) = True := eq_true h
theorem nFle {a b : Nat} (h : b < a) : (a ≤ b) = False := eq_false (by omega)
theorem nTlt {a b : Nat} (h : a < b) : (a < b) = True := eq_true h
theorem nFlt {a b : Nat} (h : b ≤ a) : (a < b) = False := eq_false (by omega)
theorem nTeq {a b : Nat} (h : a = b) : (a = b) = True := eq_true h
theorem nFeq {a b : Nat} (h : ¬ a = b) : (a = b) = False := eq_false h
theorem zmodI (a b : Int) : a - a / b * b = a % b := by rw [Int.emod_def, Int.mul_comm]
theorem zmod_le {a b : Int} (h : 0 ≤ a) (hb : 0 < b) : a % b ≤ a := by
  have h1 : 0 ≤ b * (a / b) := Int.mul_nonneg (by omega) (Int.ediv_nonneg h (by omega))
  rw [Int.emod_def]
  omega
theorem zcastA (a b : Nat) : ((a + b : Nat) : Int) = (a : Int) + (b : Int) := rfl
theorem zcastL (n : Nat) : ((no_index (OfNat.ofNat n) : Nat) : Int) = OfNat.ofNat n := rfl
def ab (x : Int) : Int := if 0 ≤ x then x else -x
theorem zab (x : Int) : (if 0 ≤ x then x else -x) = ab x := rfl
