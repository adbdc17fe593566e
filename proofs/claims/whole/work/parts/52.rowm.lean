/-! ROWS: the model's side -/
theorem zkM : (1000000 : Int32) = zi 1000000 := rfl
theorem sdf_or {set lies f : Nat} (h : (sdf set lies).testBit f = true) : sdf set (lies ||| 2 ^ f) ||| 2 ^ f = sdf set lies := by
  apply Nat.eq_of_testBit_eq
  intro i
  rw [or_bit, sdf_bit, or_bit, sdf_bit]
  by_cases q : f = i
  · subst q
    rw [sdf_bit] at h
    rw [h]
    simp
  · simp [q]
theorem or_sdf {R f : Nat} (h : R.testBit f = false) : sdf (R ||| 2 ^ f) (2 ^ f) = R := by
  apply Nat.eq_of_testBit_eq
  intro i
  rw [sdf_bit, or_bit, Nat.testBit_two_pow]
  by_cases q : f = i
  · subst q
    rw [h]
    simp
  · simp [q]
theorem sdf_back {set f : Nat} (h : set.testBit f = true) : sdf set (2 ^ f) ||| 2 ^ f = set := by
  apply Nat.eq_of_testBit_eq
  intro i
  rw [or_bit, sdf_bit, Nat.testBit_two_pow]
  by_cases q : f = i
  · subst q
    rw [h]
    simp
  · simp [q]
theorem sub_or {T set f : Nat} (h : sub T set) (hf : set.testBit f = true) : sub (T ||| 2 ^ f) set := fun i hi => by
  rw [or_bit] at hi
  by_cases q : f = i
  · rw [← q]
    exact hf
  · simp [q] at hi
    exact h i hi
theorem sub_eq {a b : Nat} (h : sub a b) (h2 : sub b a) : a = b := by
  apply Nat.eq_of_testBit_eq
  intro i
  cases q : a.testBit i with
  | true => exact (h i q).symm
  | false =>
    cases z : b.testBit i with
    | true => rw [h2 i z] at q; cases q
    | false => rfl
theorem le_or (T m : Nat) : T ≤ T ||| m := Nat.left_le_or
/-- what is right for all sets T of set from p on -/
def Rw (gp : Nat → Nat → Int) (set p : Nat) (μ : zMu) : Prop := ∀ T f, p ≤ T → sub T set → T.testBit f = true → μ 132 (8 * T + f) = zi (rG gp (sdf set T ||| 2 ^ f) f).1 ∧ μ 133 (8 * T + f) = zi (rG gp (sdf set T ||| 2 ^ f) f).2
def Rn (n : Nat) (L R : Nat → Int) (μ : zMu) : Prop := n ≤ 8 ∧ μ 92 56 = zi (n : Int) ∧ (∀ i, μ 130 i = zi (L i) ∧ -9 ≤ L i ∧ L i ≤ 9) ∧ ∀ i, μ 131 i = zi (R i) ∧ -9 ≤ R i ∧ R i ≤ 9
theorem Rn_eq {n : Nat} {L R : Nat → Int} {μ μ' : zMu} (h : Rn n L R μ) (e : ∀ r, r ≠ 132 → r ≠ 133 → μ' r = μ r) : Rn n L R μ' := by
  unfold Rn at h ⊢
  rw [e 92 (by decide) (by decide), e 130 (by decide) (by decide), e 131 (by decide) (by decide)]
  exact h
theorem F_works (d len n : Nat) (ν : zNu) (L R : Nat → Int) (μ : zMu) (set lies last : Nat) (hR : Rn n L R μ) (hset : set < 2 ^ n) (hs : sub lies set) (hb : lies.testBit last = true) (hq : Rw (gpF (μ 129) L R) set (lies + 1) μ) : zF zT0 (d + 2) 246 [.ref 92, .int (zi (set : Int)), .int (zi (lies : Int)), .int (zi (last : Int))] (zm len μ ν) = some (.null, zm len (zup (zup μ 132 (8 * lies + last) (zi (rG (gpF (μ 129) L R) (sdf set lies ||| 2 ^ last) last).1)) 133 (8 * lies + last) (zi (rG (gpF (μ 129) L R) (sdf set lies ||| 2 ^ last) last).2)) ν) := by
  have hp : 2 ^ n ≤ 2 ^ 8 := Nat.pow_le_pow_right (by decide) hR.1
  have n8 := hR.1
  obtain ⟨gp, hgp⟩ : ∃ gp, gp = gpF (μ 129) L R := ⟨_, rfl⟩
  have gb : ∀ f g, 0 ≤ gp f g ∧ gp f g ≤ 105 := fun f g => by rw [hgp]; exact gpF_b (fun i => (hR.2.2.1 i).2) (fun i => (hR.2.2.2 i).2) f g
  have GAP := fun g h => F_gapM d len μ ν last g L R (bit8 (Nat.lt_of_lt_of_le (lt_of_sub hs hset) hp) hb) h hR.2.2.1 hR.2.2.2
  rw [← hgp] at hq GAP ⊢
  have l8 : last < 8 := bit8 (Nat.lt_of_lt_of_le (lt_of_sub hs hset) hp) hb
  have lle : lies ≤ set := Nat.le_of_testBit hs
  obtain ⟨r, hr⟩ : ∃ r, r = sdf set lies := ⟨_, rfl⟩
  have rle : r ≤ set := by rw [hr]; exact sdf_le _ _
  have rl : r.testBit last = false := by rw [hr, sdf_bit, hb]; simp
  have b := fun f => rG_b gb r r f (Nat.le_refl _) (by omega)
  obtain ⟨A, hA⟩ : ∃ A : Int × Int, A = if lies = set then (0, 1) else (1000000, 0) := ⟨_, rfl⟩
  obtain ⟨v, hv⟩ : ∃ v : Nat → Int, v = fun g => gp last g + (rG gp r g).1 := ⟨_, rfl⟩
  obtain ⟨w, hw⟩ : ∃ w : Nat → Int, w = fun g => (rG gp r g).2 := ⟨_, rfl⟩
  have vb : ∀ g, 0 ≤ v g ∧ v g ≤ 1000000 := fun g => by
    have h1 := gb last g
    have h2 := b g
    rw [hv]
    show 0 ≤ gp last g + (rG gp r g).1 ∧ gp last g + (rG gp r g).1 ≤ 1000000
    omega
  have fb := fld_bd (b := fun g => r.testBit g) (v := v) (w := w) (s0 := A) (lo := 0) (hi := 1000000) (by
    rw [hA]
    split
    · exact ⟨Int.le_refl _, by show (0 : Int) ≤ 1000000; omega⟩
    · exact ⟨by show (0 : Int) ≤ 1000000; omega, Int.le_refl _⟩) vb
  have E : fld (fun g => r.testBit g) v w A 8 = rG gp (r ||| 2 ^ last) last := by
    have hb2 : (r ||| 2 ^ last).testBit last = true := by rw [or_bit]; simp
    have e1 := or_sdf rl
    by_cases q : r = 0
    · have el : lies = set := sub_eq hs (sdf_0.mp (by rw [← hr]; exact q))
      have f0 : fld (fun g => r.testBit g) v w A (0 + 8) = fld (fun g => r.testBit g) v w A 0 := fld_hi (fun k _ _ => by show r.testBit k = false; rw [q, Nat.zero_testBit])
      rw [Nat.zero_add] at f0
      rw [f0, rG_0 gp hb2 (by rw [e1]; exact q), hA, if_pos el]
      rfl
    · have el : ¬ lies = set := fun z => q (by rw [hr, z]; exact sdf_0.mpr (fun i h => h))
      rw [rG_S gp hb2 (by rw [e1]; exact q), e1, hA, if_neg el, hv, hw]
  have K := zloopV (f := fun g v7 => zE zc_X12_worksRow (zF zT0 (d + 1)) 29 [.ref 92, .int (zi (set : Int)), .int (zi (lies : Int)), .int (zi (last : Int)), .int (zi (fld (fun g => r.testBit g) v w A g).1), .int (zi (fld (fun g => r.testBit g) v w A g).2), .int (zi (g : Int)), v7] [] (zm len μ ν)) (n := 8) (fun g v7 hg => by
    have fbg := fb g
    have vbg := vb g
    show ∃ v', zE _ _ _ _ _ _ = zE _ _ _ _ _ _
    rw [B_X12_worksRow_29, fld_S]
    cases q : r.testBit g with
    | false =>
      refine ⟨v7, ?_⟩
      simp (disch := omega) only [zb_not, ← hr, zb_bit, q, Bool.false_eq_true, B_X12_worksRow_142, zbi_some, zbl_some, zbv_some, zbi_none, zbl_none, zbv_none, zbi_ite, zbl_ite, zbv_ite, zbZ, zbO, zc_lt, zc_le, zc_ge, zc_gt, zc_eq, zk0, zk1, zk2, zk3, zk4, zk5, zk6, zk7, zk8, zk9, zk10, zk11, zk12, zk14, zk15, zk16, zk17, zk19, zk20, zk21, zk24, zk25, zk30, zk32, zk36, zk40, zk45, zk50, zk64, zk97, zk99, zk100, zk102, zk122, zk128, zk255, zk800, zk801, zk900, zk999, zk1000, zk1997, zk9999, zk10000, zk100000, zk99999, zk9999999, zk999999999, zk2147483647, zlc0, zlc1, zlc2, zlc3, zlc4, zlc23, zlc99, zlc100, zlc9999999, zlc999999999999, zlc1073741824, zi_neg, zi_add, zi_sub, zi_mul, zl_neg, zl_add, zl_sub, zl_mul, zi_toInt, zi_nat, zi_le, zi_lt, zi_eq, zl_le, zl_lt, zl_eq, zl_toInt, zl_of32, zi_of64, zi_div, zl_div, zmodI, ↓reduceIte, zTle, zFle, zTlt, zFlt, zTeq, zFeq, if_true, if_false, and_self, and_true, true_and, and_false, false_and, or_self, or_true, true_or, or_false, false_or, not_true_eq_false, not_false_eq_true, zcastA, zcastL, znatC, zab, Int.reduceAdd, Int.reduceSub, Int.reduceMul, Int.reduceNeg, Int.reduceToNat, Nat.reduceAdd]
    | true =>
      have q' : (sdf set lies).testBit g = true := by rw [← hr]; exact q
      have sg : set.testBit g = true := by
        rw [sdf_bit] at q'
        cases z : set.testBit g with
        | true => rfl
        | false => rw [z] at q'; cases q'
      have lg : lies.testBit g = false := by
        rw [sdf_bit] at q'
        cases z : lies.testBit g with
        | false => rfl
        | true => rw [z] at q'; simp at q'
      obtain ⟨T, hT⟩ : ∃ T, T = lies ||| 2 ^ g := ⟨_, rfl⟩
      have Ts : sub T set := by rw [hT]; exact sub_or hs sg
      have Tb : T.testBit g = true := by rw [hT, or_bit]; simp
      have Tl : lies + 1 ≤ T := by
        have h1 : lies ≤ T := by rw [hT]; exact le_or _ _
        have h2 : lies ≠ T := fun z => by rw [← z, lg] at Tb; cases Tb
        omega
      have Tm : T ≤ set := Nat.le_of_testBit Ts
      have h5 := hq T g Tl Ts Tb
      rw [show sdf set T ||| 2 ^ g = r by rw [hT, hr]; exact sdf_or q'] at h5
      have ix : (8 * (T : Int) + (g : Int)).toNat = 8 * T + g := by omega
      have ev : gp last g + (rG gp r g).1 = v g := by rw [hv]
      have ew : (rG gp r g).2 = w g := by rw [hw]
      have G := GAP g (by omega)
      have b1 := b g
      have b2 := gb last g
      refine ⟨.int (zi (v g)), ?_⟩
      by_cases c1 : v g < (fld (fun g => r.testBit g) v w A g).1
      · simp (disch := omega) only [zb_not, ← hr, zb_bit, q, G, B_X12_worksRow_59, zb_shl, zb_orN, ← hT, ix, h5.1, h5.2, ev, ew, c1, B_X12_worksRow_136, B_X12_worksRow_142, zbi_some, zbl_some, zbv_some, zbi_none, zbl_none, zbv_none, zbi_ite, zbl_ite, zbv_ite, zbZ, zbO, zc_lt, zc_le, zc_ge, zc_gt, zc_eq, zk0, zk1, zk2, zk3, zk4, zk5, zk6, zk7, zk8, zk9, zk10, zk11, zk12, zk14, zk15, zk16, zk17, zk19, zk20, zk21, zk24, zk25, zk30, zk32, zk36, zk40, zk45, zk50, zk64, zk97, zk99, zk100, zk102, zk122, zk128, zk255, zk800, zk801, zk900, zk999, zk1000, zk1997, zk9999, zk10000, zk100000, zk99999, zk9999999, zk999999999, zk2147483647, zlc0, zlc1, zlc2, zlc3, zlc4, zlc23, zlc99, zlc100, zlc9999999, zlc999999999999, zlc1073741824, zi_neg, zi_add, zi_sub, zi_mul, zl_neg, zl_add, zl_sub, zl_mul, zi_toInt, zi_nat, zi_le, zi_lt, zi_eq, zl_le, zl_lt, zl_eq, zl_toInt, zl_of32, zi_of64, zi_div, zl_div, zmodI, ↓reduceIte, zTle, zFle, zTlt, zFlt, zTeq, zFeq, if_true, if_false, and_self, and_true, true_and, and_false, false_and, or_self, or_true, true_or, or_false, false_or, not_true_eq_false, not_false_eq_true, zcastA, zcastL, znatC, zab, Int.reduceAdd, Int.reduceSub, Int.reduceMul, Int.reduceNeg, Int.reduceToNat, Nat.reduceAdd]
      · by_cases c2 : v g = (fld (fun g => r.testBit g) v w A g).1
        · simp (disch := omega) only [zb_not, ← hr, zb_bit, q, G, B_X12_worksRow_59, zb_shl, zb_orN, ← hT, ix, h5.1, h5.2, ev, ew, c2, B_X12_worksRow_136, B_X12_worksRow_142, zbi_some, zbl_some, zbv_some, zbi_none, zbl_none, zbv_none, zbi_ite, zbl_ite, zbv_ite, zbZ, zbO, zc_lt, zc_le, zc_ge, zc_gt, zc_eq, zk0, zk1, zk2, zk3, zk4, zk5, zk6, zk7, zk8, zk9, zk10, zk11, zk12, zk14, zk15, zk16, zk17, zk19, zk20, zk21, zk24, zk25, zk30, zk32, zk36, zk40, zk45, zk50, zk64, zk97, zk99, zk100, zk102, zk122, zk128, zk255, zk800, zk801, zk900, zk999, zk1000, zk1997, zk9999, zk10000, zk100000, zk99999, zk9999999, zk999999999, zk2147483647, zlc0, zlc1, zlc2, zlc3, zlc4, zlc23, zlc99, zlc100, zlc9999999, zlc999999999999, zlc1073741824, zi_neg, zi_add, zi_sub, zi_mul, zl_neg, zl_add, zl_sub, zl_mul, zi_toInt, zi_nat, zi_le, zi_lt, zi_eq, zl_le, zl_lt, zl_eq, zl_toInt, zl_of32, zi_of64, zi_div, zl_div, zmodI, ↓reduceIte, zTle, zFle, zTlt, zFlt, zTeq, zFeq, if_true, if_false, and_self, and_true, true_and, and_false, false_and, or_self, or_true, true_or, or_false, false_or, not_true_eq_false, not_false_eq_true, zcastA, zcastL, znatC, zab, Int.reduceAdd, Int.reduceSub, Int.reduceMul, Int.reduceNeg, Int.reduceToNat, Nat.reduceAdd]
        · simp (disch := omega) only [zb_not, ← hr, zb_bit, q, G, B_X12_worksRow_59, zb_shl, zb_orN, ← hT, ix, h5.1, h5.2, ev, ew, c1, c2, B_X12_worksRow_136, B_X12_worksRow_142, zbi_some, zbl_some, zbv_some, zbi_none, zbl_none, zbv_none, zbi_ite, zbl_ite, zbv_ite, zbZ, zbO, zc_lt, zc_le, zc_ge, zc_gt, zc_eq, zk0, zk1, zk2, zk3, zk4, zk5, zk6, zk7, zk8, zk9, zk10, zk11, zk12, zk14, zk15, zk16, zk17, zk19, zk20, zk21, zk24, zk25, zk30, zk32, zk36, zk40, zk45, zk50, zk64, zk97, zk99, zk100, zk102, zk122, zk128, zk255, zk800, zk801, zk900, zk999, zk1000, zk1997, zk9999, zk10000, zk100000, zk99999, zk9999999, zk999999999, zk2147483647, zlc0, zlc1, zlc2, zlc3, zlc4, zlc23, zlc99, zlc100, zlc9999999, zlc999999999999, zlc1073741824, zi_neg, zi_add, zi_sub, zi_mul, zl_neg, zl_add, zl_sub, zl_mul, zi_toInt, zi_nat, zi_le, zi_lt, zi_eq, zl_le, zl_lt, zl_eq, zl_toInt, zl_of32, zi_of64, zi_div, zl_div, zmodI, ↓reduceIte, zTle, zFle, zTlt, zFlt, zTeq, zFeq, if_true, if_false, and_self, and_true, true_and, and_false, false_and, or_self, or_true, true_or, or_false, false_or, not_true_eq_false, not_false_eq_true, zcastA, zcastL, znatC, zab, Int.reduceAdd, Int.reduceSub, Int.reduceMul, Int.reduceNeg, Int.reduceToNat, Nat.reduceAdd])
  obtain ⟨v7, K1⟩ := K zU
  have K0 : zE zc_X12_worksRow (zF zT0 (d + 1)) 29 [.ref 92, .int (zi (set : Int)), .int (zi (lies : Int)), .int (zi (last : Int)), .int (zi A.1), .int (zi A.2), .int (zi 0), zU] [] (zm len μ ν) = zE zc_X12_worksRow (zF zT0 (d + 1)) 29 [.ref 92, .int (zi (set : Int)), .int (zi (lies : Int)), .int (zi (last : Int)), .int (zi (fld (fun g => r.testBit g) v w A 8).1), .int (zi (fld (fun g => r.testBit g) v w A 8).2), .int (zi 8), v7] [] (zm len μ ν) := K1
  rw [E] at K0
  have ixl : (8 * (lies : Int) + (last : Int)).toNat = 8 * lies + last := by omega
  rw [← hr]
  have fin : zE zc_X12_worksRow (zF zT0 (d + 1)) 29 [.ref 92, .int (zi (set : Int)), .int (zi (lies : Int)), .int (zi (last : Int)), .int (zi (rG gp (r ||| 2 ^ last) last).1), .int (zi (rG gp (r ||| 2 ^ last) last).2), .int (zi 8), v7] [] (zm len μ ν) = some (.null, zm len (zup (zup μ 132 (8 * lies + last) (zi (rG gp (r ||| 2 ^ last) last).1)) 133 (8 * lies + last) (zi (rG gp (r ||| 2 ^ last) last).2)) ν) := by
    rw [B_X12_worksRow_29]
    simp (disch := omega) only [ixl, zbi_some, zbl_some, zbv_some, zbi_none, zbl_none, zbv_none, zbi_ite, zbl_ite, zbv_ite, zbZ, zbO, zc_lt, zc_le, zc_ge, zc_gt, zc_eq, zk0, zk1, zk2, zk3, zk4, zk5, zk6, zk7, zk8, zk9, zk10, zk11, zk12, zk14, zk15, zk16, zk17, zk19, zk20, zk21, zk24, zk25, zk30, zk32, zk36, zk40, zk45, zk50, zk64, zk97, zk99, zk100, zk102, zk122, zk128, zk255, zk800, zk801, zk900, zk999, zk1000, zk1997, zk9999, zk10000, zk100000, zk99999, zk9999999, zk999999999, zk2147483647, zlc0, zlc1, zlc2, zlc3, zlc4, zlc23, zlc99, zlc100, zlc9999999, zlc999999999999, zlc1073741824, zi_neg, zi_add, zi_sub, zi_mul, zl_neg, zl_add, zl_sub, zl_mul, zi_toInt, zi_nat, zi_le, zi_lt, zi_eq, zl_le, zl_lt, zl_eq, zl_toInt, zl_of32, zi_of64, zi_div, zl_div, zmodI, ↓reduceIte, zTle, zFle, zTlt, zFlt, zTeq, zFeq, if_true, if_false, and_self, and_true, true_and, and_false, false_and, or_self, or_true, true_or, or_false, false_or, not_true_eq_false, not_false_eq_true, zcastA, zcastL, znatC, zab, Int.reduceAdd, Int.reduceSub, Int.reduceMul, Int.reduceNeg, Int.reduceToNat, Nat.reduceAdd]
  rw [B_X12_worksRow, ← fin, ← K0]
  by_cases q : lies = set
  · rw [if_pos q] at hA
    rw [hA]
    simp (disch := omega) only [q, zkM, B_X12_worksRow_12, B_X12_worksRow_24, zbi_some, zbl_some, zbv_some, zbi_none, zbl_none, zbv_none, zbi_ite, zbl_ite, zbv_ite, zbZ, zbO, zc_lt, zc_le, zc_ge, zc_gt, zc_eq, zk0, zk1, zk2, zk3, zk4, zk5, zk6, zk7, zk8, zk9, zk10, zk11, zk12, zk14, zk15, zk16, zk17, zk19, zk20, zk21, zk24, zk25, zk30, zk32, zk36, zk40, zk45, zk50, zk64, zk97, zk99, zk100, zk102, zk122, zk128, zk255, zk800, zk801, zk900, zk999, zk1000, zk1997, zk9999, zk10000, zk100000, zk99999, zk9999999, zk999999999, zk2147483647, zlc0, zlc1, zlc2, zlc3, zlc4, zlc23, zlc99, zlc100, zlc9999999, zlc999999999999, zlc1073741824, zi_neg, zi_add, zi_sub, zi_mul, zl_neg, zl_add, zl_sub, zl_mul, zi_toInt, zi_nat, zi_le, zi_lt, zi_eq, zl_le, zl_lt, zl_eq, zl_toInt, zl_of32, zi_of64, zi_div, zl_div, zmodI, ↓reduceIte, zTle, zFle, zTlt, zFlt, zTeq, zFeq, if_true, if_false, and_self, and_true, true_and, and_false, false_and, or_self, or_true, true_or, or_false, false_or, not_true_eq_false, not_false_eq_true, zcastA, zcastL, znatC, zab, Int.reduceAdd, Int.reduceSub, Int.reduceMul, Int.reduceNeg, Int.reduceToNat, Nat.reduceAdd]
  · rw [if_neg q] at hA
    rw [hA]
    have q2 : ¬ ((lies : Int) = (set : Int)) := by omega
    simp (disch := omega) only [q2, zkM, B_X12_worksRow_12, B_X12_worksRow_24, zbi_some, zbl_some, zbv_some, zbi_none, zbl_none, zbv_none, zbi_ite, zbl_ite, zbv_ite, zbZ, zbO, zc_lt, zc_le, zc_ge, zc_gt, zc_eq, zk0, zk1, zk2, zk3, zk4, zk5, zk6, zk7, zk8, zk9, zk10, zk11, zk12, zk14, zk15, zk16, zk17, zk19, zk20, zk21, zk24, zk25, zk30, zk32, zk36, zk40, zk45, zk50, zk64, zk97, zk99, zk100, zk102, zk122, zk128, zk255, zk800, zk801, zk900, zk999, zk1000, zk1997, zk9999, zk10000, zk100000, zk99999, zk9999999, zk999999999, zk2147483647, zlc0, zlc1, zlc2, zlc3, zlc4, zlc23, zlc99, zlc100, zlc9999999, zlc999999999999, zlc1073741824, zi_neg, zi_add, zi_sub, zi_mul, zl_neg, zl_add, zl_sub, zl_mul, zi_toInt, zi_nat, zi_le, zi_lt, zi_eq, zl_le, zl_lt, zl_eq, zl_toInt, zl_of32, zi_of64, zi_div, zl_div, zmodI, ↓reduceIte, zTle, zFle, zTlt, zFlt, zTeq, zFeq, if_true, if_false, and_self, and_true, true_and, and_false, false_and, or_self, or_true, true_or, or_false, false_or, not_true_eq_false, not_false_eq_true, zcastA, zcastL, znatC, zab, Int.reduceAdd, Int.reduceSub, Int.reduceMul, Int.reduceNeg, Int.reduceToNat, Nat.reduceAdd]
theorem mrow_in (d len n : Nat) (ν : zNu) (L R : Nat → Int) (μ : zMu) (set p : Nat) (x2 : Int32) (v5 : Value) (hR : Rn n L R μ) (hset : set < 2 ^ n) (hs : sub p set) : ∀ (m f : Nat) (μ1 : zMu), f + m = 8 → (∀ r, r ≠ 132 → r ≠ 133 → μ1 r = μ r) → Rw (gpF (μ 129) L R) set (p + 1) μ1 → (∀ g, g < f → p.testBit g = true → μ1 132 (8 * p + g) = zi (rG (gpF (μ 129) L R) (sdf set p ||| 2 ^ g) g).1 ∧ μ1 133 (8 * p + g) = zi (rG (gpF (μ 129) L R) (sdf set p ||| 2 ^ g) g).2) → ∃ μ' : zMu, zE zc_X12_row (zF zT0 (d + 2)) 42 [.ref 92, .int (zi (set : Int)), .int x2, .int (zi (p : Int)), .int (zi (f : Int)), v5] [] (zm len μ1 ν) = zE zc_X12_row (zF zT0 (d + 2)) 35 [.ref 92, .int (zi (set : Int)), .int x2, .int (zi ((p : Int) - 1)), .int (zi 8), v5] [] (zm len μ' ν) ∧ (∀ r, r ≠ 132 → r ≠ 133 → μ' r = μ r) ∧ Rw (gpF (μ 129) L R) set p μ' := by
  have hp : 2 ^ n ≤ 2 ^ 8 := Nat.pow_le_pow_right (by decide) hR.1
  have ple : p ≤ set := Nat.le_of_testBit hs
  have em : (p : Int) + -1 = (p : Int) - 1 := by omega
  intro m
  induction m with
  | zero =>
    intro f μ1 hf e hq hg
    have e0 : f = 8 := by omega
    subst e0
    refine ⟨μ1, ?_, e, fun T g hT hs hb => ?_⟩
    · rw [B_X12_row_42]
      simp (disch := omega) only [B_X12_row_81, em, zbi_some, zbl_some, zbv_some, zbi_none, zbl_none, zbv_none, zbi_ite, zbl_ite, zbv_ite, zbZ, zbO, zc_lt, zc_le, zc_ge, zc_gt, zc_eq, zk0, zk1, zk2, zk3, zk4, zk5, zk6, zk7, zk8, zk9, zk10, zk11, zk12, zk14, zk15, zk16, zk17, zk19, zk20, zk21, zk24, zk25, zk30, zk32, zk36, zk40, zk45, zk50, zk64, zk97, zk99, zk100, zk102, zk122, zk128, zk255, zk800, zk801, zk900, zk999, zk1000, zk1997, zk9999, zk10000, zk100000, zk99999, zk9999999, zk999999999, zk2147483647, zlc0, zlc1, zlc2, zlc3, zlc4, zlc23, zlc99, zlc100, zlc9999999, zlc999999999999, zlc1073741824, zi_neg, zi_add, zi_sub, zi_mul, zl_neg, zl_add, zl_sub, zl_mul, zi_toInt, zi_nat, zi_le, zi_lt, zi_eq, zl_le, zl_lt, zl_eq, zl_toInt, zl_of32, zi_of64, zi_div, zl_div, zmodI, ↓reduceIte, zTle, zFle, zTlt, zFlt, zTeq, zFeq, if_true, if_false, and_self, and_true, true_and, and_false, false_and, or_self, or_true, true_or, or_false, false_or, not_true_eq_false, not_false_eq_true, zcastA, zcastL, znatC, zab, Int.reduceAdd, Int.reduceSub, Int.reduceMul, Int.reduceNeg, Int.reduceToNat, Nat.reduceAdd]
    · by_cases q : T = p
      · subst q
        exact hg g (bit8 (by omega) hb) hb
      · exact hq T g (by omega) hs hb
  | succ m ih =>
    intro f μ1 hf e hq hg
    have hR1 := Rn_eq hR e
    have e129 : μ1 129 = μ 129 := e 129 (by decide) (by decide)
    have s0 : sdf p set = 0 := sdf_0.mpr hs
    rw [B_X12_row_42]
    cases q : p.testBit f with
    | true =>
      have W := F_works d len n ν L R μ1 set p f hR1 hset hs q (by rw [e129]; exact hq)
      rw [e129] at W
      obtain ⟨μ', a, b, c⟩ := ih (f + 1) (zup (zup μ1 132 (8 * p + f) (zi (rG (gpF (μ 129) L R) (sdf set p ||| 2 ^ f) f).1)) 133 (8 * p + f) (zi (rG (gpF (μ 129) L R) (sdf set p ||| 2 ^ f) f).2)) (by omega) (fun r h1 h2 => by rw [zup_ne _ _ _ h2, zup_ne _ _ _ h1]; exact e r h1 h2) (fun T g hT hs hb => by
        have g8 : g < 8 := bit8 (Nat.lt_of_lt_of_le (lt_of_sub hs hset) hp) hb
        rw [zup_self, zup_ne _ _ _ (show (132 : Nat) ≠ 133 by decide), zup_self, upd_ne _ _ (show 8 * T + g ≠ 8 * p + f by omega), upd_ne _ _ (show 8 * T + g ≠ 8 * p + f by omega), zup_ne _ _ _ (show (133 : Nat) ≠ 132 by decide)]
        exact hq T g hT hs hb) (fun g hgf hb => by
        rw [zup_self, zup_ne _ _ _ (show (132 : Nat) ≠ 133 by decide), zup_self, zup_ne _ _ _ (show (133 : Nat) ≠ 132 by decide)]
        by_cases z : g = f
        · rw [z, upd_eq, upd_eq]
          exact ⟨rfl, rfl⟩
        · rw [upd_ne _ _ (show 8 * p + g ≠ 8 * p + f by omega), upd_ne _ _ (show 8 * p + g ≠ 8 * p + f by omega)]
          exact hg g (by omega) hb)
      refine ⟨μ', ?_, b, c⟩
      rw [← a]
      simp (disch := omega) only [zb_not, s0, zb_bit, q, W, B_X12_row_75, zbi_some, zbl_some, zbv_some, zbi_none, zbl_none, zbv_none, zbi_ite, zbl_ite, zbv_ite, zbZ, zbO, zc_lt, zc_le, zc_ge, zc_gt, zc_eq, zk0, zk1, zk2, zk3, zk4, zk5, zk6, zk7, zk8, zk9, zk10, zk11, zk12, zk14, zk15, zk16, zk17, zk19, zk20, zk21, zk24, zk25, zk30, zk32, zk36, zk40, zk45, zk50, zk64, zk97, zk99, zk100, zk102, zk122, zk128, zk255, zk800, zk801, zk900, zk999, zk1000, zk1997, zk9999, zk10000, zk100000, zk99999, zk9999999, zk999999999, zk2147483647, zlc0, zlc1, zlc2, zlc3, zlc4, zlc23, zlc99, zlc100, zlc9999999, zlc999999999999, zlc1073741824, zi_neg, zi_add, zi_sub, zi_mul, zl_neg, zl_add, zl_sub, zl_mul, zi_toInt, zi_nat, zi_le, zi_lt, zi_eq, zl_le, zl_lt, zl_eq, zl_toInt, zl_of32, zi_of64, zi_div, zl_div, zmodI, ↓reduceIte, zTle, zFle, zTlt, zFlt, zTeq, zFeq, if_true, if_false, and_self, and_true, true_and, and_false, false_and, or_self, or_true, true_or, or_false, false_or, not_true_eq_false, not_false_eq_true, zcastA, zcastL, znatC, zab, Int.reduceAdd, Int.reduceSub, Int.reduceMul, Int.reduceNeg, Int.reduceToNat, Nat.reduceAdd]
    | false =>
      obtain ⟨μ', a, b, c⟩ := ih (f + 1) μ1 (by omega) e hq (fun g hgf hb => by
        by_cases z : g = f
        · rw [z, q] at hb
          cases hb
        · exact hg g (by omega) hb)
      refine ⟨μ', ?_, b, c⟩
      rw [← a]
      simp (disch := omega) only [zb_not, s0, zb_bit, q, Bool.false_eq_true, B_X12_row_75, zbi_some, zbl_some, zbv_some, zbi_none, zbl_none, zbv_none, zbi_ite, zbl_ite, zbv_ite, zbZ, zbO, zc_lt, zc_le, zc_ge, zc_gt, zc_eq, zk0, zk1, zk2, zk3, zk4, zk5, zk6, zk7, zk8, zk9, zk10, zk11, zk12, zk14, zk15, zk16, zk17, zk19, zk20, zk21, zk24, zk25, zk30, zk32, zk36, zk40, zk45, zk50, zk64, zk97, zk99, zk100, zk102, zk122, zk128, zk255, zk800, zk801, zk900, zk999, zk1000, zk1997, zk9999, zk10000, zk100000, zk99999, zk9999999, zk999999999, zk2147483647, zlc0, zlc1, zlc2, zlc3, zlc4, zlc23, zlc99, zlc100, zlc9999999, zlc999999999999, zlc1073741824, zi_neg, zi_add, zi_sub, zi_mul, zl_neg, zl_add, zl_sub, zl_mul, zi_toInt, zi_nat, zi_le, zi_lt, zi_eq, zl_le, zl_lt, zl_eq, zl_toInt, zl_of32, zi_of64, zi_div, zl_div, zmodI, ↓reduceIte, zTle, zFle, zTlt, zFlt, zTeq, zFeq, if_true, if_false, and_self, and_true, true_and, and_false, false_and, or_self, or_true, true_or, or_false, false_or, not_true_eq_false, not_false_eq_true, zcastA, zcastL, znatC, zab, Int.reduceAdd, Int.reduceSub, Int.reduceMul, Int.reduceNeg, Int.reduceToNat, Nat.reduceAdd]
theorem mrow_out (d len n : Nat) (ν : zNu) (L R : Nat → Int) (μ : zMu) (set : Nat) (x2 : Int32) (hR : Rn n L R μ) (hset : set < 2 ^ n) : ∀ (p : Nat) (μ1 : zMu) (v4 v5 : Value), p ≤ set → (∀ r, r ≠ 132 → r ≠ 133 → μ1 r = μ r) → Rw (gpF (μ 129) L R) set (p + 1) μ1 → ∃ (μ' : zMu), zE zc_X12_row (zF zT0 (d + 2)) 35 [.ref 92, .int (zi (set : Int)), .int x2, .int (zi (p : Int)), v4, v5] [] (zm len μ1 ν) = zE zc_X12_row (zF zT0 (d + 2)) 97 [.ref 92, .int (zi (set : Int)), .int x2, .int (zi 1000000), .int (zi 0), .int (zi 0)] [] (zm len μ' ν) ∧ (∀ r, r ≠ 132 → r ≠ 133 → μ' r = μ r) ∧ Rw (gpF (μ 129) L R) set 1 μ' := by
  have hp : 2 ^ n ≤ 2 ^ 8 := Nat.pow_le_pow_right (by decide) hR.1
  intro p
  induction p with
  | zero =>
    intro μ1 v4 v5 _ e hq
    refine ⟨μ1, ?_, e, hq⟩
    rw [B_X12_row_35]
    simp (disch := omega) only [zkM, zbi_some, zbl_some, zbv_some, zbi_none, zbl_none, zbv_none, zbi_ite, zbl_ite, zbv_ite, zbZ, zbO, zc_lt, zc_le, zc_ge, zc_gt, zc_eq, zk0, zk1, zk2, zk3, zk4, zk5, zk6, zk7, zk8, zk9, zk10, zk11, zk12, zk14, zk15, zk16, zk17, zk19, zk20, zk21, zk24, zk25, zk30, zk32, zk36, zk40, zk45, zk50, zk64, zk97, zk99, zk100, zk102, zk122, zk128, zk255, zk800, zk801, zk900, zk999, zk1000, zk1997, zk9999, zk10000, zk100000, zk99999, zk9999999, zk999999999, zk2147483647, zlc0, zlc1, zlc2, zlc3, zlc4, zlc23, zlc99, zlc100, zlc9999999, zlc999999999999, zlc1073741824, zi_neg, zi_add, zi_sub, zi_mul, zl_neg, zl_add, zl_sub, zl_mul, zi_toInt, zi_nat, zi_le, zi_lt, zi_eq, zl_le, zl_lt, zl_eq, zl_toInt, zl_of32, zi_of64, zi_div, zl_div, zmodI, ↓reduceIte, zTle, zFle, zTlt, zFlt, zTeq, zFeq, if_true, if_false, and_self, and_true, true_and, and_false, false_and, or_self, or_true, true_or, or_false, false_or, not_true_eq_false, not_false_eq_true, zcastA, zcastL, znatC, zab, Int.reduceAdd, Int.reduceSub, Int.reduceMul, Int.reduceNeg, Int.reduceToNat, Nat.reduceAdd]
  | succ p ih =>
    intro μ1 v4 v5 hps e hq
    have em : ((p + 1 : Nat) : Int) - 1 = (p : Int) := by omega
    have le := sdf_le (p + 1) set
    by_cases q : sdf (p + 1) set = 0
    · obtain ⟨μ2, a, b, c⟩ := mrow_in d len n ν L R μ set (p + 1) x2 v5 hR hset (sdf_0.mp q) 8 0 μ1 (by omega) e hq (fun g h => by omega)
      rw [em] at a
      obtain ⟨μ', z1, z2, z3⟩ := ih μ2 (.int (zi 8)) v5 (by omega) b c
      refine ⟨μ', ?_, z2, z3⟩
      have a' : zE zc_X12_row (zF zT0 (d + 2)) 42 [.ref 92, .int (zi (set : Int)), .int x2, .int (zi ((p : Int) + 1)), .int (zi 0), v5] [] (zm len μ1 ν) = _ := a
      rw [← z1, ← a', B_X12_row_35]
      simp (disch := omega) only [zbi_some, zbl_some, zbv_some, zbi_none, zbl_none, zbv_none, zbi_ite, zbl_ite, zbv_ite, zbZ, zbO, zc_lt, zc_le, zc_ge, zc_gt, zc_eq, zk0, zk1, zk2, zk3, zk4, zk5, zk6, zk7, zk8, zk9, zk10, zk11, zk12, zk14, zk15, zk16, zk17, zk19, zk20, zk21, zk24, zk25, zk30, zk32, zk36, zk40, zk45, zk50, zk64, zk97, zk99, zk100, zk102, zk122, zk128, zk255, zk800, zk801, zk900, zk999, zk1000, zk1997, zk9999, zk10000, zk100000, zk99999, zk9999999, zk999999999, zk2147483647, zlc0, zlc1, zlc2, zlc3, zlc4, zlc23, zlc99, zlc100, zlc9999999, zlc999999999999, zlc1073741824, zi_neg, zi_add, zi_sub, zi_mul, zl_neg, zl_add, zl_sub, zl_mul, zi_toInt, zi_nat, zi_le, zi_lt, zi_eq, zl_le, zl_lt, zl_eq, zl_toInt, zl_of32, zi_of64, zi_div, zl_div, zmodI, ↓reduceIte, zTle, zFle, zTlt, zFlt, zTeq, zFeq, if_true, if_false, and_self, and_true, true_and, and_false, false_and, or_self, or_true, true_or, or_false, false_or, not_true_eq_false, not_false_eq_true, zcastA, zcastL, znatC, zab, Int.reduceAdd, Int.reduceSub, Int.reduceMul, Int.reduceNeg, Int.reduceToNat, Nat.reduceAdd]
    · obtain ⟨μ', z1, z2, z3⟩ := ih μ1 (.int (zi 0)) v5 (by omega) e (fun T f hT hs hb => by
        by_cases z : T = p + 1
        · rw [z] at hs
          exact absurd (sdf_0.mpr hs) q
        · exact hq T f (by omega) hs hb)
      refine ⟨μ', ?_, z2, z3⟩
      have em2 : (p : Int) + 1 + -1 = (p : Int) := by omega
      have N := zb_not (p + 1) set
      rw [zcastA] at N
      have N' : zi ((p : Int) + 1) &&& (zi (set : Int) ^^^ zi (-1)) = zi ((sdf (p + 1) set : Nat) : Int) := N
      have q' : ¬ ((sdf (p + 1) set : Nat) : Int) = 0 := by omega
      rw [← z1, B_X12_row_35]
      simp (disch := omega) only [B_X12_row_42, N', q', B_X12_row_81, em2, zbi_some, zbl_some, zbv_some, zbi_none, zbl_none, zbv_none, zbi_ite, zbl_ite, zbv_ite, zbZ, zbO, zc_lt, zc_le, zc_ge, zc_gt, zc_eq, zk0, zk1, zk2, zk3, zk4, zk5, zk6, zk7, zk8, zk9, zk10, zk11, zk12, zk14, zk15, zk16, zk17, zk19, zk20, zk21, zk24, zk25, zk30, zk32, zk36, zk40, zk45, zk50, zk64, zk97, zk99, zk100, zk102, zk122, zk128, zk255, zk800, zk801, zk900, zk999, zk1000, zk1997, zk9999, zk10000, zk100000, zk99999, zk9999999, zk999999999, zk2147483647, zlc0, zlc1, zlc2, zlc3, zlc4, zlc23, zlc99, zlc100, zlc9999999, zlc999999999999, zlc1073741824, zi_neg, zi_add, zi_sub, zi_mul, zl_neg, zl_add, zl_sub, zl_mul, zi_toInt, zi_nat, zi_le, zi_lt, zi_eq, zl_le, zl_lt, zl_eq, zl_toInt, zl_of32, zi_of64, zi_div, zl_div, zmodI, ↓reduceIte, zTle, zFle, zTlt, zFlt, zTeq, zFeq, if_true, if_false, and_self, and_true, true_and, and_false, false_and, or_self, or_true, true_or, or_false, false_or, not_true_eq_false, not_false_eq_true, zcastA, zcastL, znatC, zab, Int.reduceAdd, Int.reduceSub, Int.reduceMul, Int.reduceNeg, Int.reduceToNat, Nat.reduceAdd]
