/-! TABLET: an open BLOCK's spans, the class's -/
def lvF (ln : Nat → Ln) (n b j : Nat) (x y : Int) : Int := if (j : Int) = loF ln b n then 0 else vlM ln n b (j : Int) x y
def hvF (ln : Nat → Ln) (n b j : Nat) (x y : Int) : Int := if (j : Int) = loF ln b n then 99999 else vlM ln n b (j : Int) x y
theorem wmn_2 {A : Nat → Int} {i v : Int} {j : Nat} (h : (j : Int) = i) : wmn A i v j = if v < A j then v else A j := if_pos h
theorem wmn_o {A : Nat → Int} {i v : Int} {j : Nat} (h : (j : Int) ≠ i) : wmn A i v j = A j := if_neg h
theorem wmx_2 {A : Nat → Int} {i v : Int} {j : Nat} (h : (j : Int) = i) : wmx A i v j = if A j < v then v else A j := if_pos h
theorem wmx_o {A : Nat → Int} {i v : Int} {j : Nat} (h : (j : Int) ≠ i) : wmx A i v j = A j := if_neg h
theorem mn2 (v a : Int) : (if v < (if v < a then v else a) then v else (if v < a then v else a)) = if v < a then v else a := by
  by_cases q : v < a
  · rw [if_pos q, if_neg (Int.lt_irrefl v)]
  · rw [if_neg q, if_neg q]
theorem mx2 (v a : Int) : (if (if a < v then v else a) < v then v else (if a < v then v else a)) = if a < v then v else a := by
  by_cases q : a < v
  · rw [if_pos q, if_neg (Int.lt_irrefl v)]
  · rw [if_neg q, if_neg q]
section OT
variable {ln : Nat → Ln} {n b : Nat}
theorem stp_k (h : clF ln b n = 0) (x y : Int) {j : Nat} (hu : ¬ unK ln n b j) (S : Stt) : (stp ln n b x y S).2.1 j = S.2.1 j ∧ (stp ln n b x y S).2.2 j = S.2.2 j := by
  have c := h0_b ln n b
  obtain ⟨l, u⟩ := clz h x y
  have a0 : (j : Int) ≠ loF ln b n := fun q => hu (Or.inl q)
  have a1 : (j : Int) ≠ mL (mkF ln b n) 0 := fun q => hu (Or.inr (Or.inl q))
  have a2 : (j : Int) ≠ mL (mkF ln b n) 1 := fun q => hu (Or.inr (Or.inr q))
  unfold stp
  rw [l, u, if_pos c.1]
  refine ⟨?_, ?_⟩
  · show wmn (wmn (wmn S.2.1 (loF ln b n) 0) (mL (mkF ln b n) 0) (vlM ln n b (mL (mkF ln b n) 0) x y)) (mL (mkF ln b n) 1) (vlM ln n b (mL (mkF ln b n) 1) x y) j = S.2.1 j
    rw [wmn_o a2, wmn_o a1, wmn_o a0]
  · show wmx (wmx (wmx S.2.2 (loF ln b n) (h0B ln n b)) (mL (mkF ln b n) 0) (vlM ln n b (mL (mkF ln b n) 0) x y)) (mL (mkF ln b n) 1) (vlM ln n b (mL (mkF ln b n) 1) x y) j = S.2.2 j
    rw [wmx_o a2, wmx_o a1, wmx_o a0]
/-- a lost line is no marked one -/
theorem lo_mk (hV : LV ln n) {j : Nat} (h : (j : Int) = loF ln b n) : (j : Int) ≠ mL (mkF ln b n) 0 ∧ (j : Int) ≠ mL (mkF ln b n) 1 ∧ (ln j).2.2.2.1 = 0 ∧ j < n ∧ h0B ln n b = 99999 := by
  obtain ⟨i, i1, i2, i3, i4⟩ := loF_m ln b n (by omega)
  have : i = j := by omega
  subst this
  have e := ((hV.1 i i2).2.2.2.2.2.2 i4)
  have em : (ln i).2.2.2.2 = [] := by rw [e]
  have no : ∀ q, (i : Int) ≠ mL (mkF ln b n) q := fun q hq => by
    rcases mk_r hV b q with ⟨a, _⟩ | ⟨k, a, _, _, _, _, m⟩
    · omega
    · have : k = i := by omega
      subst this
      rw [em] at m
      cases m
  refine ⟨no 0, no 1, by rw [e], i2, ?_⟩
  unfold h0B
  rw [if_neg (by omega)]
theorem stp_u (hV : LV ln n) (h : clF ln b n = 0) (x y : Int) {j : Nat} (hu : unK ln n b j) (S : Stt) : (stp ln n b x y S).2.1 j = (if lvF ln n b j x y < S.2.1 j then lvF ln n b j x y else S.2.1 j) ∧ (stp ln n b x y S).2.2 j = (if S.2.2 j < hvF ln n b j x y then hvF ln n b j x y else S.2.2 j) := by
  have c := h0_b ln n b
  obtain ⟨l, u⟩ := clz h x y
  unfold stp lvF hvF
  rw [l, u, if_pos c.1]
  show wmn (wmn (wmn S.2.1 (loF ln b n) 0) (mL (mkF ln b n) 0) (vlM ln n b (mL (mkF ln b n) 0) x y)) (mL (mkF ln b n) 1) (vlM ln n b (mL (mkF ln b n) 1) x y) j = _ ∧ wmx (wmx (wmx S.2.2 (loF ln b n) (h0B ln n b)) (mL (mkF ln b n) 0) (vlM ln n b (mL (mkF ln b n) 0) x y)) (mL (mkF ln b n) 1) (vlM ln n b (mL (mkF ln b n) 1) x y) j = _
  by_cases z : (j : Int) = loF ln b n
  · obtain ⟨a0, a1, _, _, a2⟩ := lo_mk hV z
    rw [if_pos z, if_pos z, wmn_o a1, wmn_o a0, wmn_2 z, wmx_o a1, wmx_o a0, wmx_2 z, a2]
    exact ⟨rfl, rfl⟩
  · rw [if_neg z, if_neg z]
    by_cases z0 : (j : Int) = mL (mkF ln b n) 0
    · by_cases z1 : (j : Int) = mL (mkF ln b n) 1
      · rw [wmn_2 z1, wmn_2 z0, wmn_o z, wmx_2 z1, wmx_2 z0, wmx_o z, ← z0, ← z1]
        exact ⟨mn2 _ _, mx2 _ _⟩
      · rw [wmn_o z1, wmn_2 z0, wmn_o z, wmx_o z1, wmx_2 z0, wmx_o z, ← z0]
        exact ⟨rfl, rfl⟩
    · have z1 : (j : Int) = mL (mkF ln b n) 1 := by
        rcases hu with q | q | q
        · exact absurd q z
        · exact absurd q z0
        · exact q
      rw [wmn_2 z1, wmn_o z0, wmn_o z, wmx_2 z1, wmx_o z0, wmx_o z, ← z1]
      exact ⟨rfl, rfl⟩
theorem mul_mono {u x w : Int} (hu : 0 ≤ u) (hx : x ≤ w) : u * x ≤ u * w := Int.mul_le_mul_of_nonneg_left hx hu
theorem lh_b (hV : LV ln n) {j : Nat} (hj : j < n) {x y : Int} (hx : 0 ≤ x ∧ x ≤ mW (mkF ln b n) 0) (hy : 0 ≤ y ∧ y ≤ mW (mkF ln b n) 1) : (ln j).2.2.2.1 ≤ lvF ln n b j x y ∧ (ln j).2.2.2.1 ≤ hvF ln n b j x y ∧ hvF ln n b j x y ≤ hvF ln n b j (mW (mkF ln b n) 0) (mW (mkF ln b n) 1) ∧ lvF ln n b j 0 0 = (ln j).2.2.2.1 ∧ lvF ln n b j x y < 2147483647 := by
  have w0 := mW_b hV b 0
  have w1 := mW_b hV b 1
  have v := vlM_b hV b hj (x := x) (y := y) (by omega) (by omega)
  have u : ∀ q, 0 ≤ mU (mkF ln b n) q := fun q => by
    rcases mk_r hV b q with ⟨_, a, _⟩ | ⟨_, _, _, _, a, _, _⟩ <;> omega
  unfold lvF hvF
  by_cases z : (j : Int) = loF ln b n
  · obtain ⟨_, _, a, _, _⟩ := lo_mk hV z
    rw [if_pos z, if_pos z, if_pos z, if_pos z, a]
    omega
  · rw [if_neg z, if_neg z, if_neg z, if_neg z]
    have m0 := mul_mono (u 0) hx.2
    have m1 := mul_mono (u 1) hy.2
    refine ⟨v.2.2, v.2.2, ?_, ?_, by omega⟩
    · unfold vlM
      split <;> split <;> omega
    · unfold vlM
      rw [Int.mul_zero, Int.mul_zero]
      show (ln j).2.2.2.1 + _ + _ = _
      split <;> split <;> omega
def KK (ln : Nat → Ln) (n b j : Nat) (S : Stt) : Prop := S.2.1 j = (ln j).2.2.2.1 ∧ (ln j).2.2.2.1 ≤ S.2.2 j ∧ S.2.2 j ≤ hvF ln n b j (mW (mkF ln b n) 0) (mW (mkF ln b n) 1)
theorem KK_s (hV : LV ln n) (h : clF ln b n = 0) {j : Nat} (hj : j < n) (hu : unK ln n b j) {x y : Int} (hx : 0 ≤ x ∧ x ≤ mW (mkF ln b n) 0) (hy : 0 ≤ y ∧ y ≤ mW (mkF ln b n) 1) {S : Stt} (hK : KK ln n b j S) : KK ln n b j (stp ln n b x y S) := by
  obtain ⟨a1, a2, a3, _, _⟩ := lh_b hV hj hx hy
  obtain ⟨k1, k2, k3⟩ := hK
  obtain ⟨s1, s2⟩ := stp_u hV h x y hu S
  unfold KK
  rw [s1, s2]
  refine ⟨?_, ?_, ?_⟩
  · split <;> omega
  · split <;> omega
  · split <;> omega
theorem KK_0 (hV : LV ln n) (h : clF ln b n = 0) {j : Nat} (hj : j < n) (hu : unK ln n b j) {S : Stt} (h1 : S.2.1 j = 2147483647) (h2 : S.2.2 j = -1) : KK ln n b j (stp ln n b 0 0 S) := by
  have w0 := mW_b hV b 0
  have w1 := mW_b hV b 1
  obtain ⟨a1, a2, a3, a4, a5⟩ := lh_b hV (b := b) hj (x := 0) (y := 0) (by omega) (by omega)
  have v := (hV.1 j hj).2.2.2.1
  obtain ⟨s1, s2⟩ := stp_u hV h 0 0 hu S
  unfold KK
  rw [s1, s2, h1, h2, if_pos a5, if_pos (by omega)]
  exact ⟨a4, a2, a3⟩
theorem KK_l (hV : LV ln n) (h : clF ln b n = 0) {j : Nat} (hj : j < n) (hu : unK ln n b j) {S : Stt} (hK : S.2.2 j ≤ hvF ln n b j (mW (mkF ln b n) 0) (mW (mkF ln b n) 1)) : (stp ln n b (mW (mkF ln b n) 0) (mW (mkF ln b n) 1) S).2.2 j = hvF ln n b j (mW (mkF ln b n) 0) (mW (mkF ln b n) 1) := by
  obtain ⟨s1, s2⟩ := stp_u hV h (mW (mkF ln b n) 0) (mW (mkF ln b n) 1) hu S
  rw [s2]
  split <;> omega
theorem KK_y (hV : LV ln n) (h : clF ln b n = 0) {j : Nat} (hj : j < n) (hu : unK ln n b j) {x : Int} (hx : 0 ≤ x ∧ x ≤ mW (mkF ln b n) 0) {S : Stt} (hK : KK ln n b j S) : ∀ y : Nat, (y : Int) ≤ mW (mkF ln b n) 1 + 1 → KK ln n b j (fY ln n b x y S)
  | 0, _ => hK
  | y + 1, hy => KK_s hV h hj hu hx (by omega) (KK_y hV h hj hu hx hK y (by omega))
theorem KK_y0 (hV : LV ln n) (h : clF ln b n = 0) {j : Nat} (hj : j < n) (hu : unK ln n b j) {S : Stt} (h1 : S.2.1 j = 2147483647) (h2 : S.2.2 j = -1) : ∀ y : Nat, (y : Int) ≤ mW (mkF ln b n) 1 → KK ln n b j (fY ln n b 0 (y + 1) S)
  | 0, _ => KK_0 hV h hj hu h1 h2
  | y + 1, hy => KK_s hV h hj hu (by have := mW_b hV b 0; omega) (by omega) (KK_y0 hV h hj hu h1 h2 y (by omega))
theorem KK_x (hV : LV ln n) (h : clF ln b n = 0) {j : Nat} (hj : j < n) (hu : unK ln n b j) {S : Stt} (h1 : S.2.1 j = 2147483647) (h2 : S.2.2 j = -1) : ∀ x : Nat, (x : Int) ≤ mW (mkF ln b n) 0 → KK ln n b j (fX ln n b (x + 1) S)
  | 0, _ => KK_y0 hV h hj hu h1 h2 (mW (mkF ln b n) 1).toNat (by have := mW_b hV b 1; omega)
  | x + 1, hx => KK_y hV h hj hu (x := ((x + 1 : Nat) : Int)) (by omega) (KK_x hV h hj hu h1 h2 x (by omega)) ((mW (mkF ln b n) 1).toNat + 1) (by have := mW_b hV b 1; omega)
/-- what an open BLOCK comes to -/
theorem SF_open (hV : LV ln n) (h : clF ln b n = 0) {j : Nat} (hj : j < n) : (SF ln n b).1 = (mW (mkF ln b n) 0 + 1) * ((mW (mkF ln b n) 1 + 1) * (h0B ln n b + 1)) ∧ (SF ln n b).2.1 j = (ln j).2.2.2.1 ∧ (SF ln n b).2.2 j = hvF ln n b j (mW (mkF ln b n) 0) (mW (mkF ln b n) 1) := by
  have w0 := mW_b hV b 0
  have w1 := mW_b hV b 1
  have t0 : (((mW (mkF ln b n) 0).toNat : Nat) : Int) = mW (mkF ln b n) 0 := by omega
  have t1 : (((mW (mkF ln b n) 1).toNat : Nat) : Int) = mW (mkF ln b n) 1 := by omega
  refine ⟨?_, ?_⟩
  · unfold SF
    rw [fX_o h]
    show (0 : Int) + ((((mW (mkF ln b n) 0).toNat : Nat) : Int) + 1) * (((((mW (mkF ln b n) 1).toNat : Nat) : Int) + 1) * _) = _
    rw [t0, t1, Int.zero_add]
  · by_cases hu : unK ln n b j
    · have i1 : (lo0 ln n b) j = 2147483647 := if_pos hu
      have i2 : (hi0 ln n b) j = -1 := if_pos hu
      have K := KK_x hV h hj hu (S := (0, lo0 ln n b, hi0 ln n b)) i1 i2 (mW (mkF ln b n) 0).toNat (by omega)
      refine ⟨K.1, ?_⟩
      have e : SF ln n b = stp ln n b (mW (mkF ln b n) 0) (mW (mkF ln b n) 1) (fY ln n b (mW (mkF ln b n) 0) (mW (mkF ln b n) 1).toNat (fX ln n b (mW (mkF ln b n) 0).toNat (0, lo0 ln n b, hi0 ln n b))) := by
        show stp ln n b (((mW (mkF ln b n) 0).toNat : Nat) : Int) (((mW (mkF ln b n) 1).toNat : Nat) : Int) (fY ln n b (((mW (mkF ln b n) 0).toNat : Nat) : Int) (mW (mkF ln b n) 1).toNat (fX ln n b (mW (mkF ln b n) 0).toNat (0, lo0 ln n b, hi0 ln n b))) = _
        rw [t0, t1]
      rw [e]
      refine KK_l hV h hj hu ?_
      obtain ⟨a1, a2, a3, _, _⟩ := lh_b hV (b := b) hj (x := 0) (y := 0) (by omega) (by omega)
      have v := (hV.1 j hj).2.2.2.1
      by_cases z0 : (mW (mkF ln b n) 0).toNat = 0
      · by_cases z1 : (mW (mkF ln b n) 1).toNat = 0
        · rw [z0, z1]
          show (hi0 ln n b) j ≤ _
          rw [i2]
          omega
        · obtain ⟨y, hy⟩ : ∃ y, (mW (mkF ln b n) 1).toNat = y + 1 := ⟨(mW (mkF ln b n) 1).toNat - 1, by omega⟩
          rw [z0, hy]
          have e0 : mW (mkF ln b n) 0 = 0 := by omega
          have K := KK_y0 hV h hj hu (S := (0, lo0 ln n b, hi0 ln n b)) i1 i2 y (by omega)
          have K2 := K.2.2
          rw [e0] at K2 ⊢
          exact K2
      · obtain ⟨x, hx⟩ : ∃ x, (mW (mkF ln b n) 0).toNat = x + 1 := ⟨(mW (mkF ln b n) 0).toNat - 1, by omega⟩
        rw [hx]
        have K := KK_x hV h hj hu (S := (0, lo0 ln n b, hi0 ln n b)) i1 i2 x (by omega)
        exact (KK_y hV h hj hu (x := mW (mkF ln b n) 0) (by omega) K (mW (mkF ln b n) 1).toNat (by omega)).2.2
    · have ky : ∀ (x : Int) (y : Nat) (S : Stt), (fY ln n b x y S).2.1 j = S.2.1 j ∧ (fY ln n b x y S).2.2 j = S.2.2 j := fun x y S => by
        induction y with
        | zero => exact ⟨rfl, rfl⟩
        | succ y ih =>
          obtain ⟨a, c⟩ := stp_k h x (y : Int) hu (fY ln n b x y S)
          exact ⟨a.trans ih.1, c.trans ih.2⟩
      have kx : ∀ (x : Nat) (S : Stt), (fX ln n b x S).2.1 j = S.2.1 j ∧ (fX ln n b x S).2.2 j = S.2.2 j := fun x S => by
        induction x with
        | zero => exact ⟨rfl, rfl⟩
        | succ x ih =>
          obtain ⟨a, c⟩ := ky (x : Int) ((mW (mkF ln b n) 1).toNat + 1) (fX ln n b x S)
          exact ⟨a.trans ih.1, c.trans ih.2⟩
      obtain ⟨a, c⟩ := kx ((mW (mkF ln b n) 0).toNat + 1) (0, lo0 ln n b, hi0 ln n b)
      have i1 : (lo0 ln n b) j = (ln j).2.2.2.1 := if_neg hu
      have i2 : (hi0 ln n b) j = (ln j).2.2.2.1 := if_neg hu
      refine ⟨a.trans i1, (c.trans i2).trans ?_⟩
      unfold hvF vlM
      rw [if_neg (fun q => hu (Or.inl q)), if_neg (fun q => hu (Or.inr (Or.inl q.symm))), if_neg (fun q => hu (Or.inr (Or.inr q.symm)))]
      show _ = (ln j).2.2.2.1 + 0 + 0
      omega
end OT
