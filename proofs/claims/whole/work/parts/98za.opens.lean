/-! TABLET: an open BLOCK's fills, the class's by product -/
theorem clz {ln : Nat → Ln} {n b : Nat} (h : clF ln b n = 0) (x y : Int) : loB ln n b x y = 0 ∧ hiB ln n b x y = h0B ln n b := by
  unfold loB hiB
  rw [if_pos h, if_pos h]
  exact ⟨rfl, rfl⟩
theorem h0_b (ln : Nat → Ln) (n b : Nat) : 0 ≤ h0B ln n b ∧ h0B ln n b ≤ 99999 := by
  unfold h0B
  split <;> omega
/-- how many fills, of an open BLOCK -/
theorem fY_o {ln : Nat → Ln} {n b : Nat} (h : clF ln b n = 0) (x : Int) (S : Stt) : ∀ y : Nat, (fY ln n b x y S).1 = S.1 + (y : Int) * (h0B ln n b + 1)
  | 0 => by show S.1 = S.1 + ((0 : Nat) : Int) * _; rw [show ((0 : Nat) : Int) = 0 from rfl, Int.zero_mul, Int.add_zero]
  | y + 1 => by
    have a := fY_o h x S y
    have c := h0_b ln n b
    obtain ⟨l, u⟩ := clz h x (y : Int)
    show (stp ln n b x (y : Int) (fY ln n b x y S)).1 = _
    unfold stp
    rw [l, u, if_pos c.1]
    show (fY ln n b x y S).1 + (h0B ln n b - 0 + 1) = _
    rw [a, show ((y + 1 : Nat) : Int) = (y : Int) + 1 from rfl, Int.add_mul]
    omega
theorem fX_o {ln : Nat → Ln} {n b : Nat} (h : clF ln b n = 0) (S : Stt) : ∀ x : Nat, (fX ln n b x S).1 = S.1 + (x : Int) * ((((mW (mkF ln b n) 1).toNat + 1 : Nat) : Int) * (h0B ln n b + 1))
  | 0 => by show S.1 = S.1 + ((0 : Nat) : Int) * _; rw [show ((0 : Nat) : Int) = 0 from rfl, Int.zero_mul, Int.add_zero]
  | x + 1 => by
    have a := fX_o h S x
    show (fY ln n b (x : Int) ((mW (mkF ln b n) 1).toNat + 1) (fX ln n b x S)).1 = _
    rw [fY_o h, a, show ((x + 1 : Nat) : Int) = (x : Int) + 1 from rfl, Int.add_mul]
    omega
/-- and between what: least, greatest so far -/
def sp0 (ln : Nat → Ln) (n b j : Nat) (S : Stt) : Prop := S.2.1 j = (if unK ln n b j then 2147483647 else (ln j).2.2.2.1) ∧ S.2.2 j = (if unK ln n b j then -1 else (ln j).2.2.2.1)
def top (ln : Nat → Ln) (n b j : Nat) : Int := if (j : Int) = loF ln b n then 99999 else vlM ln n b (j : Int) (mW (mkF ln b n) 0) (mW (mkF ln b n) 1)
/-- what one fill writes for a line: between its base and the top -/
theorem stp_j {ln : Nat → Ln} {n b : Nat} (hV : LV ln n) (h : clF ln b n = 0) {x y : Int} (hx : 0 ≤ x ∧ x ≤ mW (mkF ln b n) 0) (hy : 0 ≤ y ∧ y ≤ mW (mkF ln b n) 1) {j : Nat} (hj : j < n) (S : Stt) (hS : (ln j).2.2.2.1 ≤ S.2.1 j) : (unK ln n b j → (ln j).2.2.2.1 ≤ (stp ln n b x y S).2.1 j) ∧ (¬ unK ln n b j → (stp ln n b x y S).2.1 j = S.2.1 j ∧ (stp ln n b x y S).2.2 j = S.2.2 j) := by
  have c := h0_b ln n b
  obtain ⟨l, u⟩ := clz h x y
  have w0 := mW_b hV b 0
  have w1 := mW_b hV b 1
  have v := vlM_b hV b hj (x := x) (y := y) (by omega) (by omega)
  unfold stp
  rw [l, u, if_pos c.1]
  refine ⟨fun hu => ?_, fun hu => ⟨?_, ?_⟩⟩
  · show (ln j).2.2.2.1 ≤ wmn (wmn (wmn S.2.1 (loF ln b n) 0) (mL (mkF ln b n) 0) (vlM ln n b (mL (mkF ln b n) 0) x y)) (mL (mkF ln b n) 1) (vlM ln n b (mL (mkF ln b n) 1) x y) j
    have k0 : (ln j).2.2.2.1 ≤ wmn S.2.1 (loF ln b n) 0 j := by
      unfold wmn
      by_cases z : (j : Int) = loF ln b n
      · obtain ⟨i, i1, i2, i3, i4⟩ := loF_m ln b n (by omega)
        have : i = j := by omega
        subst this
        have e := ((hV.1 i i2).2.2.2.2.2.2 i4)
        rw [if_pos z]
        have b0 : (ln i).2.2.2.1 = 0 := by rw [e]
        split <;> omega
      · rw [if_neg z]
        exact hS
    have k1 : ∀ (A : Nat → Int) (m : Int), (ln j).2.2.2.1 ≤ A j → (ln j).2.2.2.1 ≤ wmn A m (vlM ln n b m x y) j := fun A m hA => by
      unfold wmn
      by_cases z : (j : Int) = m
      · rw [if_pos z, ← z]
        split <;> omega
      · rw [if_neg z]
        exact hA
    exact k1 _ _ (k1 _ _ k0)
  · show wmn (wmn (wmn S.2.1 (loF ln b n) 0) (mL (mkF ln b n) 0) (vlM ln n b (mL (mkF ln b n) 0) x y)) (mL (mkF ln b n) 1) (vlM ln n b (mL (mkF ln b n) 1) x y) j = S.2.1 j
    unfold wmn
    rw [if_neg (fun q => hu (Or.inr (Or.inr q))), if_neg (fun q => hu (Or.inr (Or.inl q))), if_neg (fun q => hu (Or.inl q))]
  · show wmx (wmx (wmx S.2.2 (loF ln b n) (h0B ln n b)) (mL (mkF ln b n) 0) (vlM ln n b (mL (mkF ln b n) 0) x y)) (mL (mkF ln b n) 1) (vlM ln n b (mL (mkF ln b n) 1) x y) j = S.2.2 j
    unfold wmx
    rw [if_neg (fun q => hu (Or.inr (Or.inr q))), if_neg (fun q => hu (Or.inr (Or.inl q))), if_neg (fun q => hu (Or.inl q))]
