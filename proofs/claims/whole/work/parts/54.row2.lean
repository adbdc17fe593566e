/-! ROWS: row agrees -/
theorem zbT {i : Decidable True} : @zb True i = zi 1 := by cases i <;> first | rfl | contradiction
theorem zbF {i : Decidable False} : @zb False i = zi 0 := by cases i <;> first | rfl | contradiction
theorem in_all (d len n : Nat) (ν : zNu) (L R : Nat → Int) (μ : zMu) (set : Nat) (k : Nat) (hR : Rn n L R μ) (hset : set < 2 ^ n) (h0 : set ≠ 0) (hq : Rw (gpF (μ 129) L R) set 1 μ) (hk : k < pcn set) : ∀ i, i ≤ k → ∃ (lies last : Nat) (v7 : Value), zE zc_X12_inRow (zF zT0 (d + 1)) 3 [.ref 92, .int (zi (set : Int)), .int (zi (rR (gpF (μ 129) L R) set).1), .int (zi (k : Int)), .int (zi 0), zU, zU, zU] [] (zm len μ ν) = zE zc_X12_inRow (zF zT0 (d + 1)) 49 [.ref 92, .int (zi (set : Int)), .int (zi (rR (gpF (μ 129) L R) set).1), .int (zi (k : Int)), .int (zi (last : Int)), .int (zi (lies : Int)), .int (zi (i : Int)), v7] [] (zm len μ ν) ∧ (rst (gpF (μ 129) L R) set (rR (gpF (μ 129) L R) set).1 (i + 1)).1 = sdf set lies ∧ sub lies set ∧ lies.testBit last = true ∧ (rst (gpF (μ 129) L R) set (rR (gpF (μ 129) L R) set).1 (i + 1)).2.1 = (rG (gpF (μ 129) L R) (sdf set lies ||| 2 ^ last) last).1 ∧ (rst (gpF (μ 129) L R) set (rR (gpF (μ 129) L R) set).1 (i + 1)).2.2 = (last : Int) := by
  have hp : 2 ^ n ≤ 2 ^ 8 := Nat.pow_le_pow_right (by decide) hR.1
  have p8 := pcn_8 set (by omega)
  have gb : ∀ f g, 0 ≤ gpF (μ 129) L R f g ∧ gpF (μ 129) L R f g ≤ 105 := fun f g => gpF_b (fun i => (hR.2.2.1 i).2) (fun i => (hR.2.2.2 i).2) f g
  have ok := rst_ok gb (set := set) (by omega) h0
  intro i
  induction i with
  | zero =>
    intro _
    obtain ⟨gp, hgp⟩ : ∃ gp, gp = gpF (μ 129) L R := ⟨_, rfl⟩
    rw [← hgp] at hq gb ok ⊢
    have b := fun f => rG_b gb set set f (Nat.le_refl _) (by omega)
    obtain ⟨a1, a2, a3, a4, a5⟩ := ok 0 (by omega)
    obtain ⟨x, hx⟩ : ∃ x, x = (rR gp set).1 := ⟨_, rfl⟩
    rw [← hx] at a1 a2 a3 a4 a5 ⊢
    have e0 : rst gp set x 0 = (set, x, -1) := rfl
    rw [e0] at a3 a4
    obtain ⟨j, j1, j2⟩ := a3 h0
    obtain ⟨_, m2, m3, m4⟩ := lst_ok (P := pkP gp (set, x, -1)) (n := 8) (k := 0) (j := j) (by omega) (by omega) j2
    have hF : lst (pkP gp (set, x, -1)) 8 0 = pkF gp (set, x, -1) := rfl
    rw [hF] at m2 m3 m4
    obtain ⟨q1, q2, q3⟩ := pkP_lt (s := (set, x, -1)) (n := n) hset m3
    have g0 : ∀ f, glF gp (-1) f = 0 := fun f => rfl
    have q2' : set.testBit (pkF gp (set, x, -1)) = true := q2
    have q3' : (rG gp set (pkF gp (set, x, -1))).1 = x := by
      have := q3
      rw [g0, Int.zero_add] at this
      exact this
    have row : ∀ f, set.testBit f = true → ∃ T : Nat, 2 ^ f = T ∧ T ≤ set ∧ μ 132 (8 * T + f) = zi (rG gp set f).1 := fun f hf => by
      have Ts : sub (2 ^ f) set := fun i hi => by
        rw [Nat.testBit_two_pow] at hi
        have : f = i := by simpa using hi
        rw [← this]
        exact hf
      have h5 := (hq (2 ^ f) f (Nat.two_pow_pos f) Ts Nat.testBit_two_pow_self).1
      rw [sdf_back hf] at h5
      exact ⟨2 ^ f, rfl, Nat.le_of_testBit Ts, h5⟩
    have xb : 0 ≤ x ∧ x ≤ 1000000 := a4
    have K := zloop (f := fun f => zE zc_X12_inRow (zF zT0 (d + 1)) 3 [.ref 92, .int (zi (set : Int)), .int (zi x), .int (zi (k : Int)), .int (zi (f : Int)), zU, zU, zU] [] (zm len μ ν)) (n := pkF gp (set, x, -1)) (fun f hf => by
      have pf := m4 f (by omega) hf
      show zE _ _ _ _ _ _ = zE _ _ _ _ _ _
      rw [B_X12_inRow_3]
      cases q : set.testBit f with
      | false => simp (disch := omega) only [zb_bit, q, Bool.false_eq_true, B_X12_inRow_31, zbi_some, zbl_some, zbv_some, zbi_none, zbl_none, zbv_none, zbi_ite, zbl_ite, zbv_ite, zbZ, zbO, zc_lt, zc_le, zc_ge, zc_gt, zc_eq, zk0, zk1, zk2, zk3, zk4, zk5, zk6, zk7, zk8, zk9, zk10, zk11, zk12, zk14, zk15, zk16, zk17, zk19, zk20, zk21, zk24, zk25, zk30, zk32, zk36, zk40, zk45, zk50, zk64, zk97, zk99, zk100, zk102, zk122, zk128, zk255, zk800, zk801, zk900, zk999, zk1000, zk1997, zk9999, zk10000, zk100000, zk99999, zk9999999, zk999999999, zk2147483647, zlc0, zlc1, zlc2, zlc3, zlc4, zlc23, zlc99, zlc100, zlc9999999, zlc999999999999, zlc1073741824, zi_neg, zi_add, zi_sub, zi_mul, zl_neg, zl_add, zl_sub, zl_mul, zi_toInt, zi_nat, zi_le, zi_lt, zi_eq, zl_le, zl_lt, zl_eq, zl_toInt, zl_of32, zi_of64, zi_div, zl_div, zmodI, ↓reduceIte, zTle, zFle, zTlt, zFlt, zTeq, zFeq, if_true, if_false, and_self, and_true, true_and, and_false, false_and, or_self, or_true, true_or, or_false, false_or, not_true_eq_false, not_false_eq_true, zcastA, zcastL, znatC, zab, Int.reduceAdd, Int.reduceSub, Int.reduceMul, Int.reduceNeg, Int.reduceToNat, Nat.reduceAdd]
      | true =>
        have ne : ¬ ((rG gp set f).1 = x) := fun z => by
          have pf' : (set.testBit f && decide (glF gp (-1) f + (rG gp set f).1 = x)) = false := pf
          rw [g0, Int.zero_add, q, z] at pf'
          simp at pf'
        obtain ⟨T, hT, Tm, h5⟩ := row f q
        have ix : (8 * (T : Int) + (f : Int)).toNat = 8 * T + f := by omega
        have b1 := b f
        simp (disch := omega) only [zb_bit, q, zb_shl, hT, ix, h5, ne, B_X12_inRow_31, zbi_some, zbl_some, zbv_some, zbi_none, zbl_none, zbv_none, zbi_ite, zbl_ite, zbv_ite, zbZ, zbO, zc_lt, zc_le, zc_ge, zc_gt, zc_eq, zk0, zk1, zk2, zk3, zk4, zk5, zk6, zk7, zk8, zk9, zk10, zk11, zk12, zk14, zk15, zk16, zk17, zk19, zk20, zk21, zk24, zk25, zk30, zk32, zk36, zk40, zk45, zk50, zk64, zk97, zk99, zk100, zk102, zk122, zk128, zk255, zk800, zk801, zk900, zk999, zk1000, zk1997, zk9999, zk10000, zk100000, zk99999, zk9999999, zk999999999, zk2147483647, zlc0, zlc1, zlc2, zlc3, zlc4, zlc23, zlc99, zlc100, zlc9999999, zlc999999999999, zlc1073741824, zi_neg, zi_add, zi_sub, zi_mul, zl_neg, zl_add, zl_sub, zl_mul, zi_toInt, zi_nat, zi_le, zi_lt, zi_eq, zl_le, zl_lt, zl_eq, zl_toInt, zl_of32, zi_of64, zi_div, zl_div, zmodI, ↓reduceIte, zTle, zFle, zTlt, zFlt, zTeq, zFeq, if_true, if_false, and_self, and_true, true_and, and_false, false_and, or_self, or_true, true_or, or_false, false_or, not_true_eq_false, not_false_eq_true, zcastA, zcastL, znatC, zab, Int.reduceAdd, Int.reduceSub, Int.reduceMul, Int.reduceNeg, Int.reduceToNat, Nat.reduceAdd])
    have K0 : zE zc_X12_inRow (zF zT0 (d + 1)) 3 [.ref 92, .int (zi (set : Int)), .int (zi x), .int (zi (k : Int)), .int (zi 0), zU, zU, zU] [] (zm len μ ν) = zE zc_X12_inRow (zF zT0 (d + 1)) 3 [.ref 92, .int (zi (set : Int)), .int (zi x), .int (zi (k : Int)), .int (zi (pkF gp (set, x, -1) : Int)), zU, zU, zU] [] (zm len μ ν) := K
    refine ⟨2 ^ pkF gp (set, x, -1), pkF gp (set, x, -1), zU, ?_, rfl, fun i hi => ?_, Nat.testBit_two_pow_self, ?_, rfl⟩
    · rw [K0]
      obtain ⟨f, hf⟩ : ∃ f, f = pkF gp (set, x, -1) := ⟨_, rfl⟩
      rw [← hf] at q1 q2' q3' m2 ⊢
      obtain ⟨T, hT, Tm, h5⟩ := row f q2'
      have ix : (8 * (T : Int) + (f : Int)).toNat = 8 * T + f := by omega
      rw [B_X12_inRow_3, hT]
      simp (disch := omega) only [zb_bit, q2', zb_shl, hT, ix, h5, q3', zbi_some, zbl_some, zbv_some, zbi_none, zbl_none, zbv_none, zbi_ite, zbl_ite, zbv_ite, zbZ, zbO, zc_lt, zc_le, zc_ge, zc_gt, zc_eq, zk0, zk1, zk2, zk3, zk4, zk5, zk6, zk7, zk8, zk9, zk10, zk11, zk12, zk14, zk15, zk16, zk17, zk19, zk20, zk21, zk24, zk25, zk30, zk32, zk36, zk40, zk45, zk50, zk64, zk97, zk99, zk100, zk102, zk122, zk128, zk255, zk800, zk801, zk900, zk999, zk1000, zk1997, zk9999, zk10000, zk100000, zk99999, zk9999999, zk999999999, zk2147483647, zlc0, zlc1, zlc2, zlc3, zlc4, zlc23, zlc99, zlc100, zlc9999999, zlc999999999999, zlc1073741824, zi_neg, zi_add, zi_sub, zi_mul, zl_neg, zl_add, zl_sub, zl_mul, zi_toInt, zi_nat, zi_le, zi_lt, zi_eq, zl_le, zl_lt, zl_eq, zl_toInt, zl_of32, zi_of64, zi_div, zl_div, zmodI, ↓reduceIte, zTle, zFle, zTlt, zFlt, zTeq, zFeq, if_true, if_false, and_self, and_true, true_and, and_false, false_and, or_self, or_true, true_or, or_false, false_or, not_true_eq_false, not_false_eq_true, zcastA, zcastL, znatC, zab, Int.reduceAdd, Int.reduceSub, Int.reduceMul, Int.reduceNeg, Int.reduceToNat, Nat.reduceAdd]
    · rw [Nat.testBit_two_pow] at hi
      have : pkF gp (set, x, -1) = i := by simpa using hi
      rw [← this]
      exact q2'
    · rw [sdf_back q2']
      rfl
  | succ i ih =>
    intro hi
    obtain ⟨lies, last, v7, h1, h2, h3, h4, h5, h6⟩ := ih (by omega)
    obtain ⟨a1, a2, a3, a4, a5⟩ := ok (i + 1) (by omega)
    have sn : (rst (gpF (μ 129) L R) set (rR (gpF (μ 129) L R) set).1 (i + 1)).1 ≠ 0 := fun z => by
      have := (pcn_0 _ (lt_of_sub (k := 8) a1 (by omega))).mpr z
      omega
    have hj := a3 sn
    obtain ⟨v7', K⟩ := in_step d len n ν L R μ set lies i (zi (rR (gpF (μ 129) L R) set).1) (k : Int) last (rst (gpF (μ 129) L R) set (rR (gpF (μ 129) L R) set).1 (i + 1)) v7 hR hset hq (by omega) (by omega) h2 h3 h4 h5 h6 hj
    obtain ⟨j, j1, j2⟩ := hj
    obtain ⟨s, hs⟩ : ∃ s, s = rst (gpF (μ 129) L R) set (rR (gpF (μ 129) L R) set).1 (i + 1) := ⟨_, rfl⟩
    have e2 : rst (gpF (μ 129) L R) set (rR (gpF (μ 129) L R) set).1 (i + 1 + 1) = (sdf s.1 (2 ^ pkF (gpF (μ 129) L R) s), (rG (gpF (μ 129) L R) s.1 (pkF (gpF (μ 129) L R) s)).1, (pkF (gpF (μ 129) L R) s : Int)) := by rw [hs]; rfl
    rw [e2]
    rw [← hs] at h2 K j2
    obtain ⟨_, m2, m3, m4⟩ := lst_ok (P := pkP (gpF (μ 129) L R) s) (n := 8) (k := 0) (j := j) (by omega) (by omega) j2
    have hF : lst (pkP (gpF (μ 129) L R) s) 8 0 = pkF (gpF (μ 129) L R) s := rfl
    rw [hF] at m3
    obtain ⟨q1, q2, q3⟩ := pkP_lt (s := s) (n := n) (by rw [h2]; exact Nat.lt_of_le_of_lt (sdf_le _ _) hset) m3
    rw [h2] at q2
    have sg : set.testBit (pkF (gpF (μ 129) L R) s) = true := by
      rw [sdf_bit] at q2
      cases z : set.testBit (pkF (gpF (μ 129) L R) s) with
      | true => rfl
      | false => rw [z] at q2; cases q2
    refine ⟨lies ||| 2 ^ pkF (gpF (μ 129) L R) s, pkF (gpF (μ 129) L R) s, v7', h1.trans K, ?_, sub_or h3 sg, by rw [or_bit]; simp, ?_, rfl⟩
    · show sdf s.1 (2 ^ pkF (gpF (μ 129) L R) s) = _
      rw [h2, sdf_sdf]
    · show (rG (gpF (μ 129) L R) s.1 (pkF (gpF (μ 129) L R) s)).1 = _
      rw [sdf_or q2, h2]
theorem F_inRow (d len n : Nat) (ν : zNu) (L R : Nat → Int) (μ : zMu) (set k : Nat) (hR : Rn n L R μ) (hset : set < 2 ^ n) (h0 : set ≠ 0) (hq : Rw (gpF (μ 129) L R) set 1 μ) (hk : k < pcn set) : zF zT0 (d + 2) 249 [.ref 92, .int (zi (set : Int)), .int (zi (rR (gpF (μ 129) L R) set).1), .int (zi (k : Int))] (zm len μ ν) = some (.int (zi (rst (gpF (μ 129) L R) set (rR (gpF (μ 129) L R) set).1 (k + 1)).2.2), zm len μ ν) := by
  have hp : 2 ^ n ≤ 2 ^ 8 := Nat.pow_le_pow_right (by decide) hR.1
  have p8 := pcn_8 set (by omega)
  obtain ⟨lies, last, v7, h1, h2, h3, h4, h5, h6⟩ := in_all d len n ν L R μ set k hR hset h0 hq hk k (Nat.le_refl k)
  rw [B_X12_inRow]
  refine Eq.trans h1 ?_
  rw [B_X12_inRow_49, h6]
  simp (disch := omega) only [zbi_some, zbl_some, zbv_some, zbi_none, zbl_none, zbv_none, zbi_ite, zbl_ite, zbv_ite, zbZ, zbO, zc_lt, zc_le, zc_ge, zc_gt, zc_eq, zk0, zk1, zk2, zk3, zk4, zk5, zk6, zk7, zk8, zk9, zk10, zk11, zk12, zk14, zk15, zk16, zk17, zk19, zk20, zk21, zk24, zk25, zk30, zk32, zk36, zk40, zk45, zk50, zk64, zk97, zk99, zk100, zk102, zk122, zk128, zk255, zk800, zk801, zk900, zk999, zk1000, zk1997, zk9999, zk10000, zk100000, zk99999, zk9999999, zk999999999, zk2147483647, zlc0, zlc1, zlc2, zlc3, zlc4, zlc23, zlc99, zlc100, zlc9999999, zlc999999999999, zlc1073741824, zi_neg, zi_add, zi_sub, zi_mul, zl_neg, zl_add, zl_sub, zl_mul, zi_toInt, zi_nat, zi_le, zi_lt, zi_eq, zl_le, zl_lt, zl_eq, zl_toInt, zl_of32, zi_of64, zi_div, zl_div, zmodI, ↓reduceIte, zTle, zFle, zTlt, zFlt, zTeq, zFeq, if_true, if_false, and_self, and_true, true_and, and_false, false_and, or_self, or_true, true_or, or_false, false_or, not_true_eq_false, not_false_eq_true, zcastA, zcastL, znatC, zab, Int.reduceAdd, Int.reduceSub, Int.reduceMul, Int.reduceNeg, Int.reduceToNat, Nat.reduceAdd]
theorem ag_row (d len : Nat) (μ : zMu) (ν : zNu) (a b : Int32) (h : RfragM μ) : ∃ (v : Int32) (μ1 μ2 : zMu), zF zT0 (d + 8) 158 [.ref 1, .int a, .int b] (zm len μ ν) = some (.int v, zm len μ1 ν) ∧ zF zT0 (d + 8) 248 [.ref 92, .int a, .int b] (zm len μ1 ν) = some (.int v, zm len μ2 ν) ∧ RfragM μ2 ∧ zfr [55, 56, 132, 133] [0] μ μ2 := by
  have hRR := h
  obtain ⟨h1, h2, h3, h4, h5, h6, h7, h8, h9⟩ := h
  obtain ⟨a, a1, a2, rfl⟩ := zi_ex a
  obtain ⟨b, b1, b2, rfl⟩ := zi_ex b
  obtain ⟨n, hn⟩ : ∃ n : Nat, (n : Int) = (μ 51 0).toInt := ⟨(μ 51 0).toInt.toNat, by omega⟩
  have hc : μ 51 0 = zi (n : Int) := by rw [hn, zi_of]
  have n8 : n ≤ 8 := by omega
  have hp : 2 ^ n ≤ 2 ^ 8 := Nat.pow_le_pow_right (by decide) n8
  have hp1 : 1 ≤ 2 ^ n := Nat.two_pow_pos n
  obtain ⟨N, hN⟩ : ∃ N, N = 2 ^ n := ⟨_, rfl⟩
  have shn : zi 1 <<< (zi (n : Int) &&& 31) = zi (N : Int) := by rw [zb_shl (by omega), hN]
  obtain ⟨L, hL⟩ : ∃ L : Nat → Int, L = fun i => (μ 53 i).toInt := ⟨_, rfl⟩
  obtain ⟨R, hR⟩ : ∃ R : Nat → Int, R = fun i => (μ 54 i).toInt := ⟨_, rfl⟩
  have cL : ∀ i, μ 53 i = zi (L i) ∧ -9 ≤ L i ∧ L i ≤ 9 := fun i => by rw [hL]; exact ⟨(zi_of _).symm, h8 i⟩
  have cR : ∀ i, μ 54 i = zi (R i) ∧ -9 ≤ R i ∧ R i ≤ 9 := fun i => by rw [hR]; exact ⟨(zi_of _).symm, h9 i⟩
  have RC : Rc n L R μ := ⟨n8, hc, cL, cR⟩
  rw [← hN] at hp hp1
  have keep : ∀ μ2 : zMu, zfr [55, 56, 132, 133] [0] μ μ2 → RfragM μ2 := fun μ2 z => by
    unfold RfragM
    rw [z.1 51 (by decide) (by decide), z.1 52 (by decide) (by decide), z.1 53 (by decide) (by decide), z.1 54 (by decide) (by decide), z.1 129 (by decide) (by decide), z.1 130 (by decide) (by decide), z.1 131 (by decide) (by decide), z.2 56 (by decide)]
    exact hRR
  have rn : ∀ μ1 : zMu, (∀ r, r ≠ 55 → r ≠ 56 → μ1 r = μ r) → Rn n L R (zup μ1 92 0 (zi 0)) ∧ gpF ((zup μ1 92 0 (zi 0)) 129) L R = gpF (μ 52) L R ∧ μ1 92 56 = zi (n : Int) := fun μ1 e => by
    have e93 : μ1 92 56 = zi (n : Int) := by rw [e 92 (by decide) (by decide), ← h1]; exact hc
    have e92 : (zup μ1 92 0 (zi 0)) 92 56 = zi (n : Int) := by rw [zup_self, upd_ne _ _ (by decide)]; exact e93
    refine ⟨⟨n8, e92, fun i => ?_, fun i => ?_⟩, ?_, e93⟩
    · rw [zup_ne _ _ _ (by decide), e 130 (by decide) (by decide), ← h5]
      exact cL i
    · rw [zup_ne _ _ _ (by decide), e 131 (by decide) (by decide), ← h6]
      exact cR i
    · rw [zup_ne _ _ _ (by decide), e 129 (by decide) (by decide), ← h4]
  by_cases c0 : 0 ≤ a ∧ a ≤ (N : Int) - 1
  · obtain ⟨set, hset⟩ : ∃ set : Nat, (set : Int) = a := ⟨a.toNat, by omega⟩
    subst hset
    have s8 : set < 256 := by omega
    have sN : set < 2 ^ n := by omega
    have bits : bcF (zi (set : Int)) = zi (pcn set : Int) := by rw [zi_n, zi_n]; exact bcF_ok set s8
    have p8 := pcn_8 set s8
    by_cases c1 : 2 ≤ pcn set
    · have s0 : set ≠ 0 := fun z => by
        have := (pcn_0 set s8).mpr z
        omega
      have model : ∀ μ1 : zMu, (∀ r, r ≠ 55 → r ≠ 56 → μ1 r = μ r) → ∃ μ2 : zMu, zF zT0 (d + 8) 248 [.ref 92, .int (zi (set : Int)), .int (zi b)] (zm len μ1 ν) = zE zc_X12_row (zF zT0 (d + 7)) 97 [.ref 92, .int (zi (set : Int)), .int (zi b), .int (zi (rR (gpF (μ 52) L R) set).1), .int (zi (rR (gpF (μ 52) L R) set).2), .int (zi 8)] [] (zm len μ2 ν) ∧ zfr [55, 56, 132, 133] [0] μ μ2 ∧ Rn n L R μ2 ∧ gpF (μ2 129) L R = gpF (μ 52) L R ∧ Rw (gpF (μ2 129) L R) set 1 μ2 := fun μ1 e => by
        obtain ⟨g1, g2, g3⟩ := rn μ1 e
        obtain ⟨μ2, z1, z2, z3⟩ := mrow_out (d + 5) len n ν L R (zup μ1 92 0 (zi 0)) set (zi b) g1 sN set (zup μ1 92 0 (zi 0)) zU zU (Nat.le_refl _) (fun r _ _ => rfl) (fun T f hT hs hb => by
          have := Nat.le_of_testBit hs
          omega)
        have e129 : μ2 129 = (zup μ1 92 0 (zi 0)) 129 := z2 129 (by decide) (by decide)
        have M := m97 (d + 5) len n ν L R μ2 set (zi b) (Rn_eq g1 z2) sN s0 (by rw [e129]; exact z3)
        refine ⟨μ2, ?_, ⟨fun r hr h92 => ?_, fun j hj => ?_⟩, Rn_eq g1 z2, by rw [e129]; exact g2, by rw [e129]; exact z3⟩
        · rw [← g2, ← e129, ← M, ← z1, B_X12_row]
          have O := F_ones (d + 6) len (zup μ1 92 0 (zi 0)) ν set s8
          simp (disch := omega) only [g3, shn, F_isIn, B_X12_row_19, O, B_X12_row_27, zbi_some, zbl_some, zbv_some, zbi_none, zbl_none, zbv_none, zbi_ite, zbl_ite, zbv_ite, zbZ, zbO, zc_lt, zc_le, zc_ge, zc_gt, zc_eq, zk0, zk1, zk2, zk3, zk4, zk5, zk6, zk7, zk8, zk9, zk10, zk11, zk12, zk14, zk15, zk16, zk17, zk19, zk20, zk21, zk24, zk25, zk30, zk32, zk36, zk40, zk45, zk50, zk64, zk97, zk99, zk100, zk102, zk122, zk128, zk255, zk800, zk801, zk900, zk999, zk1000, zk1997, zk9999, zk10000, zk100000, zk99999, zk9999999, zk999999999, zk2147483647, zlc0, zlc1, zlc2, zlc3, zlc4, zlc23, zlc99, zlc100, zlc9999999, zlc999999999999, zlc1073741824, zi_neg, zi_add, zi_sub, zi_mul, zl_neg, zl_add, zl_sub, zl_mul, zi_toInt, zi_nat, zi_le, zi_lt, zi_eq, zl_le, zl_lt, zl_eq, zl_toInt, zl_of32, zi_of64, zi_div, zl_div, zmodI, ↓reduceIte, zTle, zFle, zTlt, zFlt, zTeq, zFeq, if_true, if_false, and_self, and_true, true_and, and_false, false_and, or_self, or_true, true_or, or_false, false_or, not_true_eq_false, not_false_eq_true, zcastA, zcastL, znatC, zab, Int.reduceAdd, Int.reduceSub, Int.reduceMul, Int.reduceNeg, Int.reduceToNat, Nat.reduceAdd]
        · simp only [List.mem_cons, List.not_mem_nil, or_false, not_or] at hr
          rw [z2 r hr.2.2.1 hr.2.2.2, zup_ne _ _ _ h92]
          exact e r hr.1 hr.2.1
        · simp only [List.mem_cons, List.not_mem_nil, or_false, not_or] at hj
          rw [z2 92 (by decide) (by decide), zup_self, upd_ne _ _ hj, e 92 (by decide) (by decide)]
      by_cases c2 : b = 0 ∨ b = 1 ∨ (10 ≤ b ∧ b ≤ 10 + (pcn set : Int) - 1)
      · have walk : ∀ x : Int, ∃ μ1 : zMu, zE zc_X3_answer (zF zT0 (d + 6)) 61 [.ref 51, .int (zi (set : Int)), .int (zi b), .int (zi (pcn set : Int)), .int (zi x), .int (zi 1)] [] (zm len μ ν) = zE zc_X3_answer (zF zT0 (d + 6)) 61 [.ref 51, .int (zi (set : Int)), .int (zi b), .int (zi (pcn set : Int)), .int (zi x), .int (zi ((set : Int) + 1))] [] (zm len μ1 ν) ∧ (∀ r, r ≠ 55 → r ≠ 56 → μ1 r = μ r) ∧ Rq (gpF (μ 52) L R) set (set + 1) μ1 := fun x => ans_loop (d + 4) len n ν L R μ set (zi b) (zi (pcn set : Int)) (zi x) RC sN set 1 μ (by omega) (Nat.le_refl _) (fun r _ _ => rfl) (fun T f hT hs hb => by
          have e : T = 0 := by omega
          rw [e, Nat.zero_testBit] at hb
          cases hb)
        have fn : ∀ μ1 : zMu, (∀ r, r ≠ 55 → r ≠ 56 → μ1 r = μ r) → Rq (gpF (μ 52) L R) set (set + 1) μ1 → zF zT0 (d + 6) 48 [.ref 51, .int (zi (set : Int))] (zm len μ1 ν) = some (.int (zi (rR (gpF (μ 52) L R) set).1), zm len μ1 ν) ∧ zF zT0 (d + 6) 49 [.ref 51, .int (zi (set : Int)), .int (zi (rR (gpF (μ 52) L R) set).1)] (zm len μ1 ν) = some (.int (zi (rR (gpF (μ 52) L R) set).2), zm len μ1 ν) ∧ ∀ pl : Nat, pl < pcn set → zF zT0 (d + 6) 50 [.ref 51, .int (zi (set : Int)), .int (zi (rR (gpF (μ 52) L R) set).1), .int (zi (pl : Int))] (zm len μ1 ν) = some (.int (zi (rst (gpF (μ 52) L R) set (rR (gpF (μ 52) L R) set).1 (pl + 1)).2.2), zm len μ1 ν) := fun μ1 y2 y3 => by
          have RC1 := Rc_eq RC y2
          have e52 : μ1 52 = μ 52 := y2 52 (by decide) (by decide)
          have LG := F_least (d + 5) len n ν L R μ1 set RC1 sN s0 (by rw [e52]; exact y3)
          have WO := F_waysOf (d + 5) len n ν L R μ1 set RC1 sN s0 (by rw [e52]; exact y3)
          have PL := fun pl h => F_place (d + 3) len n ν L R μ1 set pl RC1 sN s0 (by rw [e52]; exact y3) h
          rw [e52] at LG WO PL
          exact ⟨LG, WO, PL⟩
        by_cases q0 : b = 0
        · subst q0
          obtain ⟨μ1, y1, y2, y3⟩ := walk 0
          obtain ⟨LG, WO, PL⟩ := fn μ1 y2 y3
          obtain ⟨μ2, w1, w2, w3, w4, w5⟩ := model μ1 y2
          refine ⟨zi (rR (gpF (μ 52) L R) set).1, μ1, μ2, ?_, ?_, keep μ2 w2, w2⟩
          · rw [B_X11_row]
            simp (disch := omega) only [B_X3_answer, F_bits, bits, B_X3_answer_4, hc, shn, F_within, B_X3_answer_18, B_X3_answer_40, zbT, zbF, B_X3_answer_58, y1, zbi_some, zbl_some, zbv_some, zbi_none, zbl_none, zbv_none, zbi_ite, zbl_ite, zbv_ite, zbZ, zbO, zc_lt, zc_le, zc_ge, zc_gt, zc_eq, zk0, zk1, zk2, zk3, zk4, zk5, zk6, zk7, zk8, zk9, zk10, zk11, zk12, zk14, zk15, zk16, zk17, zk19, zk20, zk21, zk24, zk25, zk30, zk32, zk36, zk40, zk45, zk50, zk64, zk97, zk99, zk100, zk102, zk122, zk128, zk255, zk800, zk801, zk900, zk999, zk1000, zk1997, zk9999, zk10000, zk100000, zk99999, zk9999999, zk999999999, zk2147483647, zlc0, zlc1, zlc2, zlc3, zlc4, zlc23, zlc99, zlc100, zlc9999999, zlc999999999999, zlc1073741824, zi_neg, zi_add, zi_sub, zi_mul, zl_neg, zl_add, zl_sub, zl_mul, zi_toInt, zi_nat, zi_le, zi_lt, zi_eq, zl_le, zl_lt, zl_eq, zl_toInt, zl_of32, zi_of64, zi_div, zl_div, zmodI, ↓reduceIte, zTle, zFle, zTlt, zFlt, zTeq, zFeq, if_true, if_false, and_self, and_true, true_and, and_false, false_and, or_self, or_true, true_or, or_false, false_or, not_true_eq_false, not_false_eq_true, zcastA, zcastL, znatC, zab, Int.reduceAdd, Int.reduceSub, Int.reduceMul, Int.reduceNeg, Int.reduceToNat, Nat.reduceAdd]
            rw [B_X3_answer_61]
            simp (disch := omega) only [LG, B_X3_answer_93, B_X3_answer_128, B_X11_row_9, zbi_some, zbl_some, zbv_some, zbi_none, zbl_none, zbv_none, zbi_ite, zbl_ite, zbv_ite, zbZ, zbO, zc_lt, zc_le, zc_ge, zc_gt, zc_eq, zk0, zk1, zk2, zk3, zk4, zk5, zk6, zk7, zk8, zk9, zk10, zk11, zk12, zk14, zk15, zk16, zk17, zk19, zk20, zk21, zk24, zk25, zk30, zk32, zk36, zk40, zk45, zk50, zk64, zk97, zk99, zk100, zk102, zk122, zk128, zk255, zk800, zk801, zk900, zk999, zk1000, zk1997, zk9999, zk10000, zk100000, zk99999, zk9999999, zk999999999, zk2147483647, zlc0, zlc1, zlc2, zlc3, zlc4, zlc23, zlc99, zlc100, zlc9999999, zlc999999999999, zlc1073741824, zi_neg, zi_add, zi_sub, zi_mul, zl_neg, zl_add, zl_sub, zl_mul, zi_toInt, zi_nat, zi_le, zi_lt, zi_eq, zl_le, zl_lt, zl_eq, zl_toInt, zl_of32, zi_of64, zi_div, zl_div, zmodI, ↓reduceIte, zTle, zFle, zTlt, zFlt, zTeq, zFeq, if_true, if_false, and_self, and_true, true_and, and_false, false_and, or_self, or_true, true_or, or_false, false_or, not_true_eq_false, not_false_eq_true, zcastA, zcastL, znatC, zab, Int.reduceAdd, Int.reduceSub, Int.reduceMul, Int.reduceNeg, Int.reduceToNat, Nat.reduceAdd]
          · rw [w1, B_X12_row_97]
            simp (disch := omega) only [zbi_some, zbl_some, zbv_some, zbi_none, zbl_none, zbv_none, zbi_ite, zbl_ite, zbv_ite, zbZ, zbO, zc_lt, zc_le, zc_ge, zc_gt, zc_eq, zk0, zk1, zk2, zk3, zk4, zk5, zk6, zk7, zk8, zk9, zk10, zk11, zk12, zk14, zk15, zk16, zk17, zk19, zk20, zk21, zk24, zk25, zk30, zk32, zk36, zk40, zk45, zk50, zk64, zk97, zk99, zk100, zk102, zk122, zk128, zk255, zk800, zk801, zk900, zk999, zk1000, zk1997, zk9999, zk10000, zk100000, zk99999, zk9999999, zk999999999, zk2147483647, zlc0, zlc1, zlc2, zlc3, zlc4, zlc23, zlc99, zlc100, zlc9999999, zlc999999999999, zlc1073741824, zi_neg, zi_add, zi_sub, zi_mul, zl_neg, zl_add, zl_sub, zl_mul, zi_toInt, zi_nat, zi_le, zi_lt, zi_eq, zl_le, zl_lt, zl_eq, zl_toInt, zl_of32, zi_of64, zi_div, zl_div, zmodI, ↓reduceIte, zTle, zFle, zTlt, zFlt, zTeq, zFeq, if_true, if_false, and_self, and_true, true_and, and_false, false_and, or_self, or_true, true_or, or_false, false_or, not_true_eq_false, not_false_eq_true, zcastA, zcastL, znatC, zab, Int.reduceAdd, Int.reduceSub, Int.reduceMul, Int.reduceNeg, Int.reduceToNat, Nat.reduceAdd]
        · by_cases q1 : b = 1
          · subst q1
            obtain ⟨μ1, y1, y2, y3⟩ := walk 0
            obtain ⟨LG, WO, PL⟩ := fn μ1 y2 y3
            obtain ⟨μ2, w1, w2, w3, w4, w5⟩ := model μ1 y2
            refine ⟨zi (rR (gpF (μ 52) L R) set).2, μ1, μ2, ?_, ?_, keep μ2 w2, w2⟩
            · rw [B_X11_row]
              simp (disch := omega) only [B_X3_answer, F_bits, bits, B_X3_answer_4, hc, shn, F_within, B_X3_answer_18, B_X3_answer_40, zbT, zbF, B_X3_answer_58, y1, zbi_some, zbl_some, zbv_some, zbi_none, zbl_none, zbv_none, zbi_ite, zbl_ite, zbv_ite, zbZ, zbO, zc_lt, zc_le, zc_ge, zc_gt, zc_eq, zk0, zk1, zk2, zk3, zk4, zk5, zk6, zk7, zk8, zk9, zk10, zk11, zk12, zk14, zk15, zk16, zk17, zk19, zk20, zk21, zk24, zk25, zk30, zk32, zk36, zk40, zk45, zk50, zk64, zk97, zk99, zk100, zk102, zk122, zk128, zk255, zk800, zk801, zk900, zk999, zk1000, zk1997, zk9999, zk10000, zk100000, zk99999, zk9999999, zk999999999, zk2147483647, zlc0, zlc1, zlc2, zlc3, zlc4, zlc23, zlc99, zlc100, zlc9999999, zlc999999999999, zlc1073741824, zi_neg, zi_add, zi_sub, zi_mul, zl_neg, zl_add, zl_sub, zl_mul, zi_toInt, zi_nat, zi_le, zi_lt, zi_eq, zl_le, zl_lt, zl_eq, zl_toInt, zl_of32, zi_of64, zi_div, zl_div, zmodI, ↓reduceIte, zTle, zFle, zTlt, zFlt, zTeq, zFeq, if_true, if_false, and_self, and_true, true_and, and_false, false_and, or_self, or_true, true_or, or_false, false_or, not_true_eq_false, not_false_eq_true, zcastA, zcastL, znatC, zab, Int.reduceAdd, Int.reduceSub, Int.reduceMul, Int.reduceNeg, Int.reduceToNat, Nat.reduceAdd]
              rw [B_X3_answer_61]
              simp (disch := omega) only [LG, B_X3_answer_93, WO, B_X3_answer_128, B_X11_row_9, zbi_some, zbl_some, zbv_some, zbi_none, zbl_none, zbv_none, zbi_ite, zbl_ite, zbv_ite, zbZ, zbO, zc_lt, zc_le, zc_ge, zc_gt, zc_eq, zk0, zk1, zk2, zk3, zk4, zk5, zk6, zk7, zk8, zk9, zk10, zk11, zk12, zk14, zk15, zk16, zk17, zk19, zk20, zk21, zk24, zk25, zk30, zk32, zk36, zk40, zk45, zk50, zk64, zk97, zk99, zk100, zk102, zk122, zk128, zk255, zk800, zk801, zk900, zk999, zk1000, zk1997, zk9999, zk10000, zk100000, zk99999, zk9999999, zk999999999, zk2147483647, zlc0, zlc1, zlc2, zlc3, zlc4, zlc23, zlc99, zlc100, zlc9999999, zlc999999999999, zlc1073741824, zi_neg, zi_add, zi_sub, zi_mul, zl_neg, zl_add, zl_sub, zl_mul, zi_toInt, zi_nat, zi_le, zi_lt, zi_eq, zl_le, zl_lt, zl_eq, zl_toInt, zl_of32, zi_of64, zi_div, zl_div, zmodI, ↓reduceIte, zTle, zFle, zTlt, zFlt, zTeq, zFeq, if_true, if_false, and_self, and_true, true_and, and_false, false_and, or_self, or_true, true_or, or_false, false_or, not_true_eq_false, not_false_eq_true, zcastA, zcastL, znatC, zab, Int.reduceAdd, Int.reduceSub, Int.reduceMul, Int.reduceNeg, Int.reduceToNat, Nat.reduceAdd]
            · rw [w1, B_X12_row_97]
              simp (disch := omega) only [zbi_some, zbl_some, zbv_some, zbi_none, zbl_none, zbv_none, zbi_ite, zbl_ite, zbv_ite, zbZ, zbO, zc_lt, zc_le, zc_ge, zc_gt, zc_eq, zk0, zk1, zk2, zk3, zk4, zk5, zk6, zk7, zk8, zk9, zk10, zk11, zk12, zk14, zk15, zk16, zk17, zk19, zk20, zk21, zk24, zk25, zk30, zk32, zk36, zk40, zk45, zk50, zk64, zk97, zk99, zk100, zk102, zk122, zk128, zk255, zk800, zk801, zk900, zk999, zk1000, zk1997, zk9999, zk10000, zk100000, zk99999, zk9999999, zk999999999, zk2147483647, zlc0, zlc1, zlc2, zlc3, zlc4, zlc23, zlc99, zlc100, zlc9999999, zlc999999999999, zlc1073741824, zi_neg, zi_add, zi_sub, zi_mul, zl_neg, zl_add, zl_sub, zl_mul, zi_toInt, zi_nat, zi_le, zi_lt, zi_eq, zl_le, zl_lt, zl_eq, zl_toInt, zl_of32, zi_of64, zi_div, zl_div, zmodI, ↓reduceIte, zTle, zFle, zTlt, zFlt, zTeq, zFeq, if_true, if_false, and_self, and_true, true_and, and_false, false_and, or_self, or_true, true_or, or_false, false_or, not_true_eq_false, not_false_eq_true, zcastA, zcastL, znatC, zab, Int.reduceAdd, Int.reduceSub, Int.reduceMul, Int.reduceNeg, Int.reduceToNat, Nat.reduceAdd]
          · have q2 : 10 ≤ b ∧ b ≤ 10 + (pcn set : Int) - 1 := by omega
            obtain ⟨μ1, y1, y2, y3⟩ := walk 1
            obtain ⟨LG, WO, PL⟩ := fn μ1 y2 y3
            obtain ⟨μ2, w1, w2, w3, w4, w5⟩ := model μ1 y2
            obtain ⟨pl, hpl⟩ : ∃ pl : Nat, (pl : Int) = b - 10 := ⟨(b - 10).toNat, by omega⟩
            have PL := PL pl (by omega)
            have IN := F_inRow (d + 5) len n ν L R μ2 set pl w3 sN s0 w5 (by omega)
            rw [w4] at IN
            refine ⟨zi (rst (gpF (μ 52) L R) set (rR (gpF (μ 52) L R) set).1 (pl + 1)).2.2, μ1, μ2, ?_, ?_, keep μ2 w2, w2⟩
            · rw [B_X11_row]
              simp (disch := omega) only [B_X3_answer, F_bits, bits, B_X3_answer_4, hc, shn, F_within, B_X3_answer_18, B_X3_answer_40, zbT, zbF, B_X3_answer_58, y1, zbi_some, zbl_some, zbv_some, zbi_none, zbl_none, zbv_none, zbi_ite, zbl_ite, zbv_ite, zbZ, zbO, zc_lt, zc_le, zc_ge, zc_gt, zc_eq, zk0, zk1, zk2, zk3, zk4, zk5, zk6, zk7, zk8, zk9, zk10, zk11, zk12, zk14, zk15, zk16, zk17, zk19, zk20, zk21, zk24, zk25, zk30, zk32, zk36, zk40, zk45, zk50, zk64, zk97, zk99, zk100, zk102, zk122, zk128, zk255, zk800, zk801, zk900, zk999, zk1000, zk1997, zk9999, zk10000, zk100000, zk99999, zk9999999, zk999999999, zk2147483647, zlc0, zlc1, zlc2, zlc3, zlc4, zlc23, zlc99, zlc100, zlc9999999, zlc999999999999, zlc1073741824, zi_neg, zi_add, zi_sub, zi_mul, zl_neg, zl_add, zl_sub, zl_mul, zi_toInt, zi_nat, zi_le, zi_lt, zi_eq, zl_le, zl_lt, zl_eq, zl_toInt, zl_of32, zi_of64, zi_div, zl_div, zmodI, ↓reduceIte, zTle, zFle, zTlt, zFlt, zTeq, zFeq, if_true, if_false, and_self, and_true, true_and, and_false, false_and, or_self, or_true, true_or, or_false, false_or, not_true_eq_false, not_false_eq_true, zcastA, zcastL, znatC, zab, Int.reduceAdd, Int.reduceSub, Int.reduceMul, Int.reduceNeg, Int.reduceToNat, Nat.reduceAdd]
              rw [B_X3_answer_61]
              simp (disch := omega) only [LG, B_X3_answer_93, ← hpl, PL, B_X3_answer_111, B_X11_row_9, zbi_some, zbl_some, zbv_some, zbi_none, zbl_none, zbv_none, zbi_ite, zbl_ite, zbv_ite, zbZ, zbO, zc_lt, zc_le, zc_ge, zc_gt, zc_eq, zk0, zk1, zk2, zk3, zk4, zk5, zk6, zk7, zk8, zk9, zk10, zk11, zk12, zk14, zk15, zk16, zk17, zk19, zk20, zk21, zk24, zk25, zk30, zk32, zk36, zk40, zk45, zk50, zk64, zk97, zk99, zk100, zk102, zk122, zk128, zk255, zk800, zk801, zk900, zk999, zk1000, zk1997, zk9999, zk10000, zk100000, zk99999, zk9999999, zk999999999, zk2147483647, zlc0, zlc1, zlc2, zlc3, zlc4, zlc23, zlc99, zlc100, zlc9999999, zlc999999999999, zlc1073741824, zi_neg, zi_add, zi_sub, zi_mul, zl_neg, zl_add, zl_sub, zl_mul, zi_toInt, zi_nat, zi_le, zi_lt, zi_eq, zl_le, zl_lt, zl_eq, zl_toInt, zl_of32, zi_of64, zi_div, zl_div, zmodI, ↓reduceIte, zTle, zFle, zTlt, zFlt, zTeq, zFeq, if_true, if_false, and_self, and_true, true_and, and_false, false_and, or_self, or_true, true_or, or_false, false_or, not_true_eq_false, not_false_eq_true, zcastA, zcastL, znatC, zab, Int.reduceAdd, Int.reduceSub, Int.reduceMul, Int.reduceNeg, Int.reduceToNat, Nat.reduceAdd]
            · have O := F_ones (d + 6) len μ2 ν set s8
              have e9 : 9 + (pcn set : Int) = 10 + (pcn set : Int) - 1 := by omega
              rw [w1, B_X12_row_97]
              simp (disch := omega) only [O, B_X12_row_239, F_isIn, e9, B_X12_row_243, ← hpl, IN, B_X12_row_256, zbi_some, zbl_some, zbv_some, zbi_none, zbl_none, zbv_none, zbi_ite, zbl_ite, zbv_ite, zbZ, zbO, zc_lt, zc_le, zc_ge, zc_gt, zc_eq, zk0, zk1, zk2, zk3, zk4, zk5, zk6, zk7, zk8, zk9, zk10, zk11, zk12, zk14, zk15, zk16, zk17, zk19, zk20, zk21, zk24, zk25, zk30, zk32, zk36, zk40, zk45, zk50, zk64, zk97, zk99, zk100, zk102, zk122, zk128, zk255, zk800, zk801, zk900, zk999, zk1000, zk1997, zk9999, zk10000, zk100000, zk99999, zk9999999, zk999999999, zk2147483647, zlc0, zlc1, zlc2, zlc3, zlc4, zlc23, zlc99, zlc100, zlc9999999, zlc999999999999, zlc1073741824, zi_neg, zi_add, zi_sub, zi_mul, zl_neg, zl_add, zl_sub, zl_mul, zi_toInt, zi_nat, zi_le, zi_lt, zi_eq, zl_le, zl_lt, zl_eq, zl_toInt, zl_of32, zi_of64, zi_div, zl_div, zmodI, ↓reduceIte, zTle, zFle, zTlt, zFlt, zTeq, zFeq, if_true, if_false, and_self, and_true, true_and, and_false, false_and, or_self, or_true, true_or, or_false, false_or, not_true_eq_false, not_false_eq_true, zcastA, zcastL, znatC, zab, Int.reduceAdd, Int.reduceSub, Int.reduceMul, Int.reduceNeg, Int.reduceToNat, Nat.reduceAdd]
      · obtain ⟨μ2, w1, w2, w3, w4, w5⟩ := model μ (fun r _ _ => rfl)
        have q0 : ¬ b = 0 := by omega
        have q1 : ¬ b = 1 := by omega
        have q2 : ¬ (10 ≤ b ∧ b ≤ 10 + (pcn set : Int) - 1) := by omega
        refine ⟨zi (-1), μ, μ2, ?_, ?_, keep μ2 w2, w2⟩
        · rw [B_X11_row]
          simp (disch := omega) only [B_X3_answer, F_bits, bits, B_X3_answer_4, hc, shn, F_within, q2, B_X3_answer_18, B_X3_answer_40, q0, q1, zbT, zbF, B_X11_row_9, zbi_some, zbl_some, zbv_some, zbi_none, zbl_none, zbv_none, zbi_ite, zbl_ite, zbv_ite, zbZ, zbO, zc_lt, zc_le, zc_ge, zc_gt, zc_eq, zk0, zk1, zk2, zk3, zk4, zk5, zk6, zk7, zk8, zk9, zk10, zk11, zk12, zk14, zk15, zk16, zk17, zk19, zk20, zk21, zk24, zk25, zk30, zk32, zk36, zk40, zk45, zk50, zk64, zk97, zk99, zk100, zk102, zk122, zk128, zk255, zk800, zk801, zk900, zk999, zk1000, zk1997, zk9999, zk10000, zk100000, zk99999, zk9999999, zk999999999, zk2147483647, zlc0, zlc1, zlc2, zlc3, zlc4, zlc23, zlc99, zlc100, zlc9999999, zlc999999999999, zlc1073741824, zi_neg, zi_add, zi_sub, zi_mul, zl_neg, zl_add, zl_sub, zl_mul, zi_toInt, zi_nat, zi_le, zi_lt, zi_eq, zl_le, zl_lt, zl_eq, zl_toInt, zl_of32, zi_of64, zi_div, zl_div, zmodI, ↓reduceIte, zTle, zFle, zTlt, zFlt, zTeq, zFeq, if_true, if_false, and_self, and_true, true_and, and_false, false_and, or_self, or_true, true_or, or_false, false_or, not_true_eq_false, not_false_eq_true, zcastA, zcastL, znatC, zab, Int.reduceAdd, Int.reduceSub, Int.reduceMul, Int.reduceNeg, Int.reduceToNat, Nat.reduceAdd]
        · have O := F_ones (d + 6) len μ2 ν set s8
          have e9 : 9 + (pcn set : Int) = 10 + (pcn set : Int) - 1 := by omega
          rw [w1, B_X12_row_97]
          simp (disch := omega) only [O, B_X12_row_239, F_isIn, e9, q0, q1, q2, B_X12_row_243, zbi_some, zbl_some, zbv_some, zbi_none, zbl_none, zbv_none, zbi_ite, zbl_ite, zbv_ite, zbZ, zbO, zc_lt, zc_le, zc_ge, zc_gt, zc_eq, zk0, zk1, zk2, zk3, zk4, zk5, zk6, zk7, zk8, zk9, zk10, zk11, zk12, zk14, zk15, zk16, zk17, zk19, zk20, zk21, zk24, zk25, zk30, zk32, zk36, zk40, zk45, zk50, zk64, zk97, zk99, zk100, zk102, zk122, zk128, zk255, zk800, zk801, zk900, zk999, zk1000, zk1997, zk9999, zk10000, zk100000, zk99999, zk9999999, zk999999999, zk2147483647, zlc0, zlc1, zlc2, zlc3, zlc4, zlc23, zlc99, zlc100, zlc9999999, zlc999999999999, zlc1073741824, zi_neg, zi_add, zi_sub, zi_mul, zl_neg, zl_add, zl_sub, zl_mul, zi_toInt, zi_nat, zi_le, zi_lt, zi_eq, zl_le, zl_lt, zl_eq, zl_toInt, zl_of32, zi_of64, zi_div, zl_div, zmodI, ↓reduceIte, zTle, zFle, zTlt, zFlt, zTeq, zFeq, if_true, if_false, and_self, and_true, true_and, and_false, false_and, or_self, or_true, true_or, or_false, false_or, not_true_eq_false, not_false_eq_true, zcastA, zcastL, znatC, zab, Int.reduceAdd, Int.reduceSub, Int.reduceMul, Int.reduceNeg, Int.reduceToNat, Nat.reduceAdd]
    · refine ⟨zi (-1), μ, zup μ 92 0 (zi 0), ?_, ?_, hRR, zfr_92 (zfr_rf _ _ _) (by decide)⟩
      · rw [B_X11_row]
        simp (disch := omega) only [B_X3_answer, F_bits, bits, B_X3_answer_4, hc, shn, F_within, B_X3_answer_18, B_X11_row_9, zbi_some, zbl_some, zbv_some, zbi_none, zbl_none, zbv_none, zbi_ite, zbl_ite, zbv_ite, zbZ, zbO, zc_lt, zc_le, zc_ge, zc_gt, zc_eq, zk0, zk1, zk2, zk3, zk4, zk5, zk6, zk7, zk8, zk9, zk10, zk11, zk12, zk14, zk15, zk16, zk17, zk19, zk20, zk21, zk24, zk25, zk30, zk32, zk36, zk40, zk45, zk50, zk64, zk97, zk99, zk100, zk102, zk122, zk128, zk255, zk800, zk801, zk900, zk999, zk1000, zk1997, zk9999, zk10000, zk100000, zk99999, zk9999999, zk999999999, zk2147483647, zlc0, zlc1, zlc2, zlc3, zlc4, zlc23, zlc99, zlc100, zlc9999999, zlc999999999999, zlc1073741824, zi_neg, zi_add, zi_sub, zi_mul, zl_neg, zl_add, zl_sub, zl_mul, zi_toInt, zi_nat, zi_le, zi_lt, zi_eq, zl_le, zl_lt, zl_eq, zl_toInt, zl_of32, zi_of64, zi_div, zl_div, zmodI, ↓reduceIte, zTle, zFle, zTlt, zFlt, zTeq, zFeq, if_true, if_false, and_self, and_true, true_and, and_false, false_and, or_self, or_true, true_or, or_false, false_or, not_true_eq_false, not_false_eq_true, zcastA, zcastL, znatC, zab, Int.reduceAdd, Int.reduceSub, Int.reduceMul, Int.reduceNeg, Int.reduceToNat, Nat.reduceAdd]
      · obtain ⟨g1, g2, g3⟩ := rn μ (fun r _ _ => rfl)
        have O := F_ones (d + 6) len (zup μ 92 0 (zi 0)) ν set s8
        rw [B_X12_row]
        by_cases z : set = 0
        · subst z
          simp (disch := omega) only [g3, shn, F_isIn, B_X12_row_19, zbi_some, zbl_some, zbv_some, zbi_none, zbl_none, zbv_none, zbi_ite, zbl_ite, zbv_ite, zbZ, zbO, zc_lt, zc_le, zc_ge, zc_gt, zc_eq, zk0, zk1, zk2, zk3, zk4, zk5, zk6, zk7, zk8, zk9, zk10, zk11, zk12, zk14, zk15, zk16, zk17, zk19, zk20, zk21, zk24, zk25, zk30, zk32, zk36, zk40, zk45, zk50, zk64, zk97, zk99, zk100, zk102, zk122, zk128, zk255, zk800, zk801, zk900, zk999, zk1000, zk1997, zk9999, zk10000, zk100000, zk99999, zk9999999, zk999999999, zk2147483647, zlc0, zlc1, zlc2, zlc3, zlc4, zlc23, zlc99, zlc100, zlc9999999, zlc999999999999, zlc1073741824, zi_neg, zi_add, zi_sub, zi_mul, zl_neg, zl_add, zl_sub, zl_mul, zi_toInt, zi_nat, zi_le, zi_lt, zi_eq, zl_le, zl_lt, zl_eq, zl_toInt, zl_of32, zi_of64, zi_div, zl_div, zmodI, ↓reduceIte, zTle, zFle, zTlt, zFlt, zTeq, zFeq, if_true, if_false, and_self, and_true, true_and, and_false, false_and, or_self, or_true, true_or, or_false, false_or, not_true_eq_false, not_false_eq_true, zcastA, zcastL, znatC, zab, Int.reduceAdd, Int.reduceSub, Int.reduceMul, Int.reduceNeg, Int.reduceToNat, Nat.reduceAdd]
        · simp (disch := omega) only [g3, shn, F_isIn, B_X12_row_19, O, B_X12_row_27, zbi_some, zbl_some, zbv_some, zbi_none, zbl_none, zbv_none, zbi_ite, zbl_ite, zbv_ite, zbZ, zbO, zc_lt, zc_le, zc_ge, zc_gt, zc_eq, zk0, zk1, zk2, zk3, zk4, zk5, zk6, zk7, zk8, zk9, zk10, zk11, zk12, zk14, zk15, zk16, zk17, zk19, zk20, zk21, zk24, zk25, zk30, zk32, zk36, zk40, zk45, zk50, zk64, zk97, zk99, zk100, zk102, zk122, zk128, zk255, zk800, zk801, zk900, zk999, zk1000, zk1997, zk9999, zk10000, zk100000, zk99999, zk9999999, zk999999999, zk2147483647, zlc0, zlc1, zlc2, zlc3, zlc4, zlc23, zlc99, zlc100, zlc9999999, zlc999999999999, zlc1073741824, zi_neg, zi_add, zi_sub, zi_mul, zl_neg, zl_add, zl_sub, zl_mul, zi_toInt, zi_nat, zi_le, zi_lt, zi_eq, zl_le, zl_lt, zl_eq, zl_toInt, zl_of32, zi_of64, zi_div, zl_div, zmodI, ↓reduceIte, zTle, zFle, zTlt, zFlt, zTeq, zFeq, if_true, if_false, and_self, and_true, true_and, and_false, false_and, or_self, or_true, true_or, or_false, false_or, not_true_eq_false, not_false_eq_true, zcastA, zcastL, znatC, zab, Int.reduceAdd, Int.reduceSub, Int.reduceMul, Int.reduceNeg, Int.reduceToNat, Nat.reduceAdd]
  · refine ⟨zi (-1), μ, zup μ 92 0 (zi 0), ?_, ?_, hRR, zfr_92 (zfr_rf _ _ _) (by decide)⟩
    · rw [B_X11_row]
      simp (disch := omega) only [B_X3_answer, F_bits, B_X3_answer_4, hc, shn, F_within, c0, B_X3_answer_18, B_X11_row_9, zbi_some, zbl_some, zbv_some, zbi_none, zbl_none, zbv_none, zbi_ite, zbl_ite, zbv_ite, zbZ, zbO, zc_lt, zc_le, zc_ge, zc_gt, zc_eq, zk0, zk1, zk2, zk3, zk4, zk5, zk6, zk7, zk8, zk9, zk10, zk11, zk12, zk14, zk15, zk16, zk17, zk19, zk20, zk21, zk24, zk25, zk30, zk32, zk36, zk40, zk45, zk50, zk64, zk97, zk99, zk100, zk102, zk122, zk128, zk255, zk800, zk801, zk900, zk999, zk1000, zk1997, zk9999, zk10000, zk100000, zk99999, zk9999999, zk999999999, zk2147483647, zlc0, zlc1, zlc2, zlc3, zlc4, zlc23, zlc99, zlc100, zlc9999999, zlc999999999999, zlc1073741824, zi_neg, zi_add, zi_sub, zi_mul, zl_neg, zl_add, zl_sub, zl_mul, zi_toInt, zi_nat, zi_le, zi_lt, zi_eq, zl_le, zl_lt, zl_eq, zl_toInt, zl_of32, zi_of64, zi_div, zl_div, zmodI, ↓reduceIte, zTle, zFle, zTlt, zFlt, zTeq, zFeq, if_true, if_false, and_self, and_true, true_and, and_false, false_and, or_self, or_true, true_or, or_false, false_or, not_true_eq_false, not_false_eq_true, zcastA, zcastL, znatC, zab, Int.reduceAdd, Int.reduceSub, Int.reduceMul, Int.reduceNeg, Int.reduceToNat, Nat.reduceAdd]
    · obtain ⟨g1, g2, g3⟩ := rn μ (fun r _ _ => rfl)
      have c0' : ¬ (1 ≤ a ∧ a ≤ (N : Int) - 1) := by omega
      rw [B_X12_row]
      simp (disch := omega) only [g3, shn, F_isIn, c0', B_X12_row_19, zbi_some, zbl_some, zbv_some, zbi_none, zbl_none, zbv_none, zbi_ite, zbl_ite, zbv_ite, zbZ, zbO, zc_lt, zc_le, zc_ge, zc_gt, zc_eq, zk0, zk1, zk2, zk3, zk4, zk5, zk6, zk7, zk8, zk9, zk10, zk11, zk12, zk14, zk15, zk16, zk17, zk19, zk20, zk21, zk24, zk25, zk30, zk32, zk36, zk40, zk45, zk50, zk64, zk97, zk99, zk100, zk102, zk122, zk128, zk255, zk800, zk801, zk900, zk999, zk1000, zk1997, zk9999, zk10000, zk100000, zk99999, zk9999999, zk999999999, zk2147483647, zlc0, zlc1, zlc2, zlc3, zlc4, zlc23, zlc99, zlc100, zlc9999999, zlc999999999999, zlc1073741824, zi_neg, zi_add, zi_sub, zi_mul, zl_neg, zl_add, zl_sub, zl_mul, zi_toInt, zi_nat, zi_le, zi_lt, zi_eq, zl_le, zl_lt, zl_eq, zl_toInt, zl_of32, zi_of64, zi_div, zl_div, zmodI, ↓reduceIte, zTle, zFle, zTlt, zFlt, zTeq, zFeq, if_true, if_false, and_self, and_true, true_and, and_false, false_and, or_self, or_true, true_or, or_false, false_or, not_true_eq_false, not_false_eq_true, zcastA, zcastL, znatC, zab, Int.reduceAdd, Int.reduceSub, Int.reduceMul, Int.reduceNeg, Int.reduceToNat, Nat.reduceAdd]
