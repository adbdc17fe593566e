/-! ROWS: the class's answer -/
def glF (gp : Nat → Nat → Int) (last : Int) (f : Nat) : Int := if last = -1 then 0 else gp last.toNat f
def pkP (gp : Nat → Nat → Int) (s : Nat × Int × Int) (f : Nat) : Bool := s.1.testBit f && decide (glF gp s.2.2 f + (rG gp s.1 f).1 = s.2.1)
def pkF (gp : Nat → Nat → Int) (s : Nat × Int × Int) : Nat := lst (pkP gp s) 8 0
/-- the row as it is walked: what is left, what is due, the last one -/
def rst (gp : Nat → Nat → Int) (set : Nat) (best : Int) : Nat → Nat × Int × Int
  | 0 => (set, best, -1)
  | i + 1 => (sdf (rst gp set best i).1 (2 ^ pkF gp (rst gp set best i)), (rG gp (rst gp set best i).1 (pkF gp (rst gp set best i))).1, (pkF gp (rst gp set best i) : Int))
/-- the least GAPS of a set, and in how many orders -/
def rR (gp : Nat → Nat → Int) (set : Nat) : Int × Int := fld (fun f => set.testBit f) (fun f => (rG gp set f).1) (fun f => (rG gp set f).2) (1000000, 0) 8
theorem rR_min {gp : Nat → Nat → Int} (hg : ∀ f g, 0 ≤ gp f g ∧ gp f g ≤ 105) {set : Nat} (h8 : set < 256) (h0 : set ≠ 0) : ∃ k, k < 8 ∧ set.testBit k = true ∧ (rG gp set k).1 = (rR gp set).1 := by
  have b := fun f => rG_b hg set set f (Nat.le_refl _) h8
  rcases fld_min (b := fun f => set.testBit f) (v := fun f => (rG gp set f).1) (w := fun f => (rG gp set f).2) (A := 1000000) (n := 8) (fun k _ _ => by
    have := b k
    show (rG gp set k).1 < 1000000
    omega) with ⟨m1, _⟩ | ⟨⟨k, k1, k2, k3⟩, _⟩
  · obtain ⟨i, hi⟩ := nz_bit h0
    rw [m1 i (bit8 h8 hi)] at hi
    cases hi
  · exact ⟨k, k1, k2, k3⟩
theorem rst_ok {gp : Nat → Nat → Int} (hg : ∀ f g, 0 ≤ gp f g ∧ gp f g ≤ 105) {set : Nat} (h8 : set < 256) (h0 : set ≠ 0) : ∀ i, i ≤ pcn set → sub (rst gp set (rR gp set).1 i).1 set ∧ pcn (rst gp set (rR gp set).1 i).1 + i = pcn set ∧ ((rst gp set (rR gp set).1 i).1 ≠ 0 → ∃ j, j < 8 ∧ pkP gp (rst gp set (rR gp set).1 i) j = true) ∧ (0 ≤ (rst gp set (rR gp set).1 i).2.1 ∧ (rst gp set (rR gp set).1 i).2.1 ≤ 1000000) ∧ (i = 0 ∧ (rst gp set (rR gp set).1 i).2.2 = -1 ∨ 0 ≤ (rst gp set (rR gp set).1 i).2.2 ∧ (rst gp set (rR gp set).1 i).2.2 < 8 ∧ set.testBit (rst gp set (rR gp set).1 i).2.2.toNat = true)
  | 0, _ => by
    obtain ⟨k, k1, k2, k3⟩ := rR_min hg h8 h0
    have b := rG_b hg set set k (Nat.le_refl _) h8
    refine ⟨fun i h => h, rfl, fun _ => ⟨k, k1, ?_⟩, ?_, Or.inl ⟨rfl, rfl⟩⟩
    · show (set.testBit k && decide (glF gp (-1) k + (rG gp set k).1 = (rR gp set).1)) = true
      rw [k2, k3]
      show (true && decide (0 + (rR gp set).1 = (rR gp set).1)) = true
      rw [Int.zero_add]
      simp
    · show 0 ≤ (rR gp set).1 ∧ (rR gp set).1 ≤ 1000000
      rw [← k3]
      omega
  | i + 1, hi => by
    obtain ⟨a1, a2, a3, a4, a5⟩ := rst_ok hg h8 h0 i (by omega)
    obtain ⟨s, hs⟩ : ∃ s, s = rst gp set (rR gp set).1 i := ⟨_, rfl⟩
    have e1 : rst gp set (rR gp set).1 (i + 1) = (sdf s.1 (2 ^ pkF gp s), (rG gp s.1 (pkF gp s)).1, (pkF gp s : Int)) := by rw [hs]; rfl
    rw [← hs] at a1 a2 a3 a4 a5
    rw [e1]
    have s8 : s.1 < 256 := lt_of_sub (k := 8) a1 h8
    have sn : s.1 ≠ 0 := fun z => by
      have := (pcn_0 s.1 s8).mpr z
      omega
    obtain ⟨j, j1, j2⟩ := a3 sn
    obtain ⟨_, l2, l3, l4⟩ := lst_ok (P := pkP gp s) (n := 8) (k := 0) (j := j) (by omega) (by omega) j2
    have hf : lst (pkP gp s) 8 0 = pkF gp s := rfl
    rw [hf] at l2 l3
    have l5 : s.1.testBit (pkF gp s) = true := by
      unfold pkP at l3
      cases q : s.1.testBit (pkF gp s) with
      | true => rfl
      | false => rw [q] at l3; cases l3
    have d1 := pcn_d s.1 s8 (pkF gp s) (by omega) l5
    have b := rG_b hg s.1 s.1 (pkF gp s) (Nat.le_refl _) s8
    refine ⟨sub_sdf a1, by show pcn (sdf s.1 (2 ^ pkF gp s)) + (i + 1) = pcn set; omega, fun z => ?_, by show 0 ≤ (rG gp s.1 (pkF gp s)).1 ∧ (rG gp s.1 (pkF gp s)).1 ≤ 1000000; omega, Or.inr ⟨by show 0 ≤ (pkF gp s : Int); omega, by show (pkF gp s : Int) < 8; omega, a1 _ (by show s.1.testBit ((pkF gp s : Int)).toNat = true; exact l5)⟩⟩
    have z' : sdf s.1 (2 ^ pkF gp s) ≠ 0 := z
    have r8 : sdf s.1 (2 ^ pkF gp s) < 256 := Nat.lt_of_le_of_lt (sdf_le _ _) s8
    have rb := fun g => rG_b hg (sdf s.1 (2 ^ pkF gp s)) (sdf s.1 (2 ^ pkF gp s)) g (Nat.le_refl _) r8
    rcases fld_min (b := fun g => (sdf s.1 (2 ^ pkF gp s)).testBit g) (v := fun g => gp (pkF gp s) g + (rG gp (sdf s.1 (2 ^ pkF gp s)) g).1) (w := fun g => (rG gp (sdf s.1 (2 ^ pkF gp s)) g).2) (A := 1000000) (n := 8) (fun k _ _ => by
      have := rb k
      have := hg (pkF gp s) k
      show gp (pkF gp s) k + (rG gp (sdf s.1 (2 ^ pkF gp s)) k).1 < 1000000
      omega) with ⟨m1, _⟩ | ⟨⟨k, k1, k2, k3⟩, _⟩
    · obtain ⟨i, hi⟩ := nz_bit z'
      rw [m1 i (bit8 r8 hi)] at hi
      cases hi
    · refine ⟨k, k1, ?_⟩
      have ng : ¬ ((pkF gp s : Int) = -1) := by omega
      show ((sdf s.1 (2 ^ pkF gp s)).testBit k && decide (glF gp (pkF gp s : Int) k + (rG gp (sdf s.1 (2 ^ pkF gp s)) k).1 = (rG gp s.1 (pkF gp s)).1)) = true
      rw [rG_S gp l5 z', ← k3]
      unfold glF
      rw [if_neg ng, znatC]
      have k2' : (sdf s.1 (2 ^ pkF gp s)).testBit k = true := k2
      rw [k2']
      simp
section ROWC
variable (d len n : Nat) (ν : zNu) (L R : Nat → Int)
/-- what the class's rows of the fragments hold -/
def Rc (n : Nat) (L R : Nat → Int) (μ : zMu) : Prop := n ≤ 8 ∧ μ 51 0 = zi (n : Int) ∧ (∀ i, μ 53 i = zi (L i) ∧ -9 ≤ L i ∧ L i ≤ 9) ∧ ∀ i, μ 54 i = zi (R i) ∧ -9 ≤ R i ∧ R i ≤ 9
theorem Rc_eq {n : Nat} {L R : Nat → Int} {μ μ' : zMu} (h : Rc n L R μ) (e : ∀ r, r ≠ 55 → r ≠ 56 → μ' r = μ r) : Rc n L R μ' := by
  unfold Rc at h ⊢
  rw [e 51 (by decide) (by decide), e 53 (by decide) (by decide), e 54 (by decide) (by decide)]
  exact h
theorem arr_loop (μ : zMu) (set S : Nat) (hR : Rc n L R μ) (hset : set < 2 ^ n) (hS : sub S set) : ∀ (m f : Nat) (μ1 : zMu) (v3 v4 v5 : Value), f + m = n → (∀ r, r ≠ 55 → r ≠ 56 → μ1 r = μ r) → Rq (gpF (μ 52) L R) set S μ1 → (∀ g, g < f → S.testBit g = true → μ1 55 (8 * S + g) = zi (rG (gpF (μ 52) L R) S g).1 ∧ μ1 56 (8 * S + g) = zi (rG (gpF (μ 52) L R) S g).2) → ∃ μ' : zMu, zE zc_X3_arrange (zF zT0 (d + 1)) 2 [.ref 51, .int (zi (S : Int)), .int (zi (f : Int)), v3, v4, v5] [] (zm len μ1 ν) = some (.null, zm len μ' ν) ∧ (∀ r, r ≠ 55 → r ≠ 56 → μ' r = μ r) ∧ Rq (gpF (μ 52) L R) set (S + 1) μ' := by
  have hp : 2 ^ n ≤ 2 ^ 8 := Nat.pow_le_pow_right (by decide) hR.1
  have S8 : S < 256 := Nat.lt_of_lt_of_le (lt_of_sub hS hset) hp
  intro m
  induction m with
  | zero =>
    intro f μ1 v3 v4 v5 hf e hq hg
    have e0 : f = n := by omega
    subst e0
    have h1 : μ1 51 0 = zi (f : Int) := by rw [e 51 (by decide) (by decide)]; exact hR.2.1
    have := hR.1
    refine ⟨μ1, ?_, e, fun T g hT hs hb => ?_⟩
    · rw [B_X3_arrange_2]
      simp (disch := omega) only [h1, zbi_some, zbl_some, zbv_some, zbi_none, zbl_none, zbv_none, zbi_ite, zbl_ite, zbv_ite, zbZ, zbO, zc_lt, zc_le, zc_ge, zc_gt, zc_eq, zk0, zk1, zk2, zk3, zk4, zk5, zk6, zk7, zk8, zk9, zk10, zk11, zk12, zk14, zk15, zk16, zk17, zk19, zk20, zk21, zk24, zk25, zk30, zk32, zk36, zk40, zk45, zk50, zk64, zk97, zk99, zk100, zk102, zk122, zk128, zk255, zk800, zk801, zk900, zk999, zk1000, zk1997, zk9999, zk10000, zk100000, zk99999, zk9999999, zk999999999, zk2147483647, zlc0, zlc1, zlc2, zlc3, zlc4, zlc23, zlc99, zlc100, zlc9999999, zlc999999999999, zlc1073741824, zi_neg, zi_add, zi_sub, zi_mul, zl_neg, zl_add, zl_sub, zl_mul, zi_toInt, zi_nat, zi_le, zi_lt, zi_eq, zl_le, zl_lt, zl_eq, zl_toInt, zl_of32, zi_of64, zi_div, zl_div, zmodI, ↓reduceIte, zTle, zFle, zTlt, zFlt, zTeq, zFeq, if_true, if_false, and_self, and_true, true_and, and_false, false_and, or_self, or_true, true_or, or_false, false_or, not_true_eq_false, not_false_eq_true, zcastA, zcastL, znatC, zab, Int.reduceAdd, Int.reduceSub, Int.reduceMul, Int.reduceNeg, Int.reduceToNat, Nat.reduceAdd]
    · by_cases q : T = S
      · subst q
        refine hg g ?_ hb
        refine Nat.lt_of_not_le (fun z => ?_)
        rw [bit_hi (lt_of_sub hs hset) z] at hb
        cases hb
      · exact hq T g (by omega) hs hb
  | succ m ih =>
    intro f μ1 v3 v4 v5 hf e hq hg
    have hR1 := Rc_eq hR e
    have e52 : μ1 52 = μ 52 := e 52 (by decide) (by decide)
    cases q : S.testBit f with
    | true =>
      obtain ⟨a, b, c, K⟩ := arr_one d len n μ1 ν set S f L R v3 v4 v5 hR1.1 hR1.2.1 hset hS (by omega) q hR1.2.2.1 hR1.2.2.2 (by rw [e52]; exact hq)
      rw [e52] at K
      rw [K]
      refine ih (f + 1) _ a b c (by omega) (fun r h1 h2 => by rw [MM_n _ _ _ h1 h2]; exact e r h1 h2) (fun T g hT hs hb => ?_) (fun g hgf hb => ?_)
      · have g8 := bit8 (by omega) hb
        rw [MM_55, MM_56, upd_ne _ _ (by omega), upd_ne _ _ (by omega)]
        exact hq T g hT hs hb
      · by_cases z : g = f
        · rw [z, MM_55, MM_56, upd_eq, upd_eq]
          exact ⟨rfl, rfl⟩
        · rw [MM_55, MM_56, upd_ne _ _ (by omega), upd_ne _ _ (by omega)]
          exact hg g (by omega) hb
    | false =>
      have h1 : μ1 51 0 = zi (n : Int) := hR1.2.1
      have hs := sdf_eq q
      have := hR.1
      have K : zE zc_X3_arrange (zF zT0 (d + 1)) 2 [.ref 51, .int (zi (S : Int)), .int (zi (f : Int)), v3, v4, v5] [] (zm len μ1 ν) = zE zc_X3_arrange (zF zT0 (d + 1)) 2 [.ref 51, .int (zi (S : Int)), .int (zi ((f + 1 : Nat) : Int)), .int (zi (S : Int)), v4, v5] [] (zm len μ1 ν) := by
        rw [B_X3_arrange_2]
        simp (disch := omega) only [h1, zb_shl, zb_not, hs, B_X3_arrange_129, zbi_some, zbl_some, zbv_some, zbi_none, zbl_none, zbv_none, zbi_ite, zbl_ite, zbv_ite, zbZ, zbO, zc_lt, zc_le, zc_ge, zc_gt, zc_eq, zk0, zk1, zk2, zk3, zk4, zk5, zk6, zk7, zk8, zk9, zk10, zk11, zk12, zk14, zk15, zk16, zk17, zk19, zk20, zk21, zk24, zk25, zk30, zk32, zk36, zk40, zk45, zk50, zk64, zk97, zk99, zk100, zk102, zk122, zk128, zk255, zk800, zk801, zk900, zk999, zk1000, zk1997, zk9999, zk10000, zk100000, zk99999, zk9999999, zk999999999, zk2147483647, zlc0, zlc1, zlc2, zlc3, zlc4, zlc23, zlc99, zlc100, zlc9999999, zlc999999999999, zlc1073741824, zi_neg, zi_add, zi_sub, zi_mul, zl_neg, zl_add, zl_sub, zl_mul, zi_toInt, zi_nat, zi_le, zi_lt, zi_eq, zl_le, zl_lt, zl_eq, zl_toInt, zl_of32, zi_of64, zi_div, zl_div, zmodI, ↓reduceIte, zTle, zFle, zTlt, zFlt, zTeq, zFeq, if_true, if_false, and_self, and_true, true_and, and_false, false_and, or_self, or_true, true_or, or_false, false_or, not_true_eq_false, not_false_eq_true, zcastA, zcastL, znatC, zab, Int.reduceAdd, Int.reduceSub, Int.reduceMul, Int.reduceNeg, Int.reduceToNat, Nat.reduceAdd]
      rw [K]
      refine ih (f + 1) μ1 _ _ _ (by omega) e hq (fun g hgf hb => ?_)
      by_cases z : g = f
      · rw [z, q] at hb
        cases hb
      · exact hg g (by omega) hb
theorem F_arrange (μ : zMu) (set S : Nat) (hR : Rc n L R μ) (hset : set < 2 ^ n) (hS : sub S set) (hq : Rq (gpF (μ 52) L R) set S μ) : ∃ μ' : zMu, zF zT0 (d + 2) 45 [.ref 51, .int (zi (S : Int))] (zm len μ ν) = some (.null, zm len μ' ν) ∧ (∀ r, r ≠ 55 → r ≠ 56 → μ' r = μ r) ∧ Rq (gpF (μ 52) L R) set (S + 1) μ' := by
  obtain ⟨μ', a, b, c⟩ := arr_loop d len n ν L R μ set S hR hset hS n 0 μ zU zU zU (by omega) (fun r _ _ => rfl) hq (fun g h => by omega)
  refine ⟨μ', ?_, b, c⟩
  rw [B_X3_arrange]
  exact a
theorem ans_loop (μ : zMu) (set : Nat) (x2 x3 x4 : Int32) (hR : Rc n L R μ) (hset : set < 2 ^ n) : ∀ (m p : Nat) (μ1 : zMu), p + m = set + 1 → 1 ≤ p → (∀ r, r ≠ 55 → r ≠ 56 → μ1 r = μ r) → Rq (gpF (μ 52) L R) set p μ1 → ∃ μ' : zMu, zE zc_X3_answer (zF zT0 (d + 2)) 61 [.ref 51, .int (zi (set : Int)), .int x2, .int x3, .int x4, .int (zi (p : Int))] [] (zm len μ1 ν) = zE zc_X3_answer (zF zT0 (d + 2)) 61 [.ref 51, .int (zi (set : Int)), .int x2, .int x3, .int x4, .int (zi ((set + 1 : Nat) : Int))] [] (zm len μ' ν) ∧ (∀ r, r ≠ 55 → r ≠ 56 → μ' r = μ r) ∧ Rq (gpF (μ 52) L R) set (set + 1) μ' := by
  have hp : 2 ^ n ≤ 2 ^ 8 := Nat.pow_le_pow_right (by decide) hR.1
  intro m
  induction m with
  | zero =>
    intro p μ1 hp _ e hq
    have e0 : p = set + 1 := by omega
    subst e0
    exact ⟨μ1, rfl, e, hq⟩
  | succ m ih =>
    intro p μ1 hpm h1 e hq
    have hR1 := Rc_eq hR e
    have e52 : μ1 52 = μ 52 := e 52 (by decide) (by decide)
    have le := sdf_le p set
    rw [B_X3_answer_61]
    by_cases q : sdf p set = 0
    · obtain ⟨μ2, a, b, c⟩ := F_arrange d len n ν L R μ1 set p hR1 hset (sdf_0.mp q) (by rw [e52]; exact hq)
      rw [e52] at c
      obtain ⟨μ', z1, z2, z3⟩ := ih (p + 1) μ2 (by omega) (by omega) (fun r h1 h2 => by rw [b r h1 h2]; exact e r h1 h2) c
      refine ⟨μ', ?_, z2, z3⟩
      rw [← z1]
      simp (disch := omega) only [zb_not, q, a, B_X3_answer_82, zbi_some, zbl_some, zbv_some, zbi_none, zbl_none, zbv_none, zbi_ite, zbl_ite, zbv_ite, zbZ, zbO, zc_lt, zc_le, zc_ge, zc_gt, zc_eq, zk0, zk1, zk2, zk3, zk4, zk5, zk6, zk7, zk8, zk9, zk10, zk11, zk12, zk14, zk15, zk16, zk17, zk19, zk20, zk21, zk24, zk25, zk30, zk32, zk36, zk40, zk45, zk50, zk64, zk97, zk99, zk100, zk102, zk122, zk128, zk255, zk800, zk801, zk900, zk999, zk1000, zk1997, zk9999, zk10000, zk100000, zk99999, zk9999999, zk999999999, zk2147483647, zlc0, zlc1, zlc2, zlc3, zlc4, zlc23, zlc99, zlc100, zlc9999999, zlc999999999999, zlc1073741824, zi_neg, zi_add, zi_sub, zi_mul, zl_neg, zl_add, zl_sub, zl_mul, zi_toInt, zi_nat, zi_le, zi_lt, zi_eq, zl_le, zl_lt, zl_eq, zl_toInt, zl_of32, zi_of64, zi_div, zl_div, zmodI, ↓reduceIte, zTle, zFle, zTlt, zFlt, zTeq, zFeq, if_true, if_false, and_self, and_true, true_and, and_false, false_and, or_self, or_true, true_or, or_false, false_or, not_true_eq_false, not_false_eq_true, zcastA, zcastL, znatC, zab, Int.reduceAdd, Int.reduceSub, Int.reduceMul, Int.reduceNeg, Int.reduceToNat, Nat.reduceAdd]
    · obtain ⟨μ', z1, z2, z3⟩ := ih (p + 1) μ1 (by omega) (by omega) e (fun T f hT hs hb => by
        by_cases z : T = p
        · rw [z] at hs
          exact absurd (sdf_0.mpr hs) q
        · exact hq T f (by omega) hs hb)
      refine ⟨μ', ?_, z2, z3⟩
      rw [← z1]
      have q' : ¬ ((sdf p set : Nat) : Int) = 0 := by omega
      simp (disch := omega) only [zb_not, q', B_X3_answer_82, zbi_some, zbl_some, zbv_some, zbi_none, zbl_none, zbv_none, zbi_ite, zbl_ite, zbv_ite, zbZ, zbO, zc_lt, zc_le, zc_ge, zc_gt, zc_eq, zk0, zk1, zk2, zk3, zk4, zk5, zk6, zk7, zk8, zk9, zk10, zk11, zk12, zk14, zk15, zk16, zk17, zk19, zk20, zk21, zk24, zk25, zk30, zk32, zk36, zk40, zk45, zk50, zk64, zk97, zk99, zk100, zk102, zk122, zk128, zk255, zk800, zk801, zk900, zk999, zk1000, zk1997, zk9999, zk10000, zk100000, zk99999, zk9999999, zk999999999, zk2147483647, zlc0, zlc1, zlc2, zlc3, zlc4, zlc23, zlc99, zlc100, zlc9999999, zlc999999999999, zlc1073741824, zi_neg, zi_add, zi_sub, zi_mul, zl_neg, zl_add, zl_sub, zl_mul, zi_toInt, zi_nat, zi_le, zi_lt, zi_eq, zl_le, zl_lt, zl_eq, zl_toInt, zl_of32, zi_of64, zi_div, zl_div, zmodI, ↓reduceIte, zTle, zFle, zTlt, zFlt, zTeq, zFeq, if_true, if_false, and_self, and_true, true_and, and_false, false_and, or_self, or_true, true_or, or_false, false_or, not_true_eq_false, not_false_eq_true, zcastA, zcastL, znatC, zab, Int.reduceAdd, Int.reduceSub, Int.reduceMul, Int.reduceNeg, Int.reduceToNat, Nat.reduceAdd]
end ROWC
