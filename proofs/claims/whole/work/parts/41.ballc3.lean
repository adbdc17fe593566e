/-! BALLS: survey returns what may be in the BALL -/
/-- the params of a ball as they lie in the class's rows -/
def Bp (μ : zMu) (b o ra we : Int) (ins w mk : Nat → Int) : Prop := (0 ≤ b ∧ b < 8) ∧ (μ 41 b.toNat = zi o ∧ 0 ≤ o ∧ o ≤ 1) ∧ (μ 39 b.toNat = zi ra ∧ -1 ≤ ra ∧ ra ≤ 45) ∧ (μ 40 b.toNat = zi we ∧ -1 ≤ we ∧ we ≤ 900) ∧ (∀ k : Nat, k < 5 → μ 38 (b * 5 + (k : Int)).toNat = zi (ins k) ∧ 0 ≤ ins k ∧ ins k ≤ 9) ∧ (∀ k, k < 5 → μ 36 k = zi (w k) ∧ 1 ≤ w k ∧ w k ≤ 20) ∧ (∀ k : Nat, k < 5 → μ 37 (b * 5 + (k : Int)).toNat = zi (mk k) ∧ 0 ≤ mk k ∧ mk k ≤ 9)
theorem Bp_eq {μ μ' : zMu} {b o ra we : Int} {ins w mk : Nat → Int} (h : Bp μ b o ra we ins w mk) (e : ∀ r, r = 36 ∨ r = 37 ∨ r = 38 ∨ r = 39 ∨ r = 40 ∨ r = 41 → μ' r = μ r) : Bp μ' b o ra we ins w mk := by
  unfold Bp at h ⊢
  rw [e 36 (by decide), e 37 (by decide), e 38 (by decide), e 39 (by decide), e 40 (by decide), e 41 (by decide)]
  exact h
/-- what the survey holds in the class's rows -/
def Si (A : (Nat → Int) → Prop) (far : (Nat → Int) → Int) (I : Nat) (μ0 μ : zMu) : Prop := ∃ (ways lies : Int) (lo hi : Nat → Int), Cv A far I ways lies lo hi ∧ μ 35 6 = zi ways ∧ μ 35 7 = zi lies ∧ (∀ k, k < 5 → μ 42 k = zi (lo k) ∧ μ 43 k = zi (hi k)) ∧ (∀ r, r ≠ 35 → r ≠ 42 → r ≠ 43 → r ≠ 44 → μ r = μ0 r) ∧ ∀ j, j ≠ 6 → j ≠ 7 → μ 35 j = μ0 35 j
theorem ab_sym (x y : Int) : ab (x - y) = ab (y - x) := by unfold ab; split <;> split <;> omega
theorem sm4 (f : Nat → Int) : sm 4 f = f 0 + f 1 + f 2 + f 3 := by
  show 0 + f 0 + f 1 + f 2 + f 3 = _
  omega
theorem Cv_b {A : (Nat → Int) → Prop} {mk : Nat → Int} {I : Nat} {w l : Int} {lo hi : Nat → Int} (h : Cv A (fr mk) I w l lo hi) (hI : I ≤ 10000) (hm : ∀ k, k < 5 → 0 ≤ mk k ∧ mk k ≤ 9) : (0 ≤ w ∧ w ≤ 200000) ∧ (-1 ≤ l ∧ l ≤ 45) ∧ (∀ k, k < 5 → 0 ≤ lo k ∧ lo k ≤ 9) ∧ ∀ k, k < 5 → 0 ≤ hi k ∧ hi k ≤ 9 := by
  obtain ⟨h1, h2, h3, h4, h5⟩ := h
  refine ⟨⟨?_, ?_⟩, ?_, fun k hk => ?_, fun k hk => ?_⟩
  · rw [h1]
    exact sm_nn fun i _ => sm_nn fun e _ => (ind_b _).1
  · have s1 : ∀ i, i < I → sm 10 (fun e => ind (A (vC i e))) ≤ 10 := fun i _ => by
      have := sm_le (n := 10) (f := fun e => ind (A (vC i e))) (B := 1) (fun e _ => (ind_b _).2)
      omega
    have s2 := sm_le (n := I) s1
    rw [← h1] at s2
    omega
  · by_cases q : w = 0
    · rw [h2 q]
      omega
    · obtain ⟨⟨i, e, c1, c2, c3, c4⟩, _⟩ := h5 q
      have z : ∀ k, k < 5 → 0 ≤ ab (vC i e k - mk k) ∧ ab (vC i e k - mk k) ≤ 9 := fun k hk => ab_b (by
        have := vC_b (i := i) (e := e) (k := k) (by omega) c2 hk
        have := hm k hk
        omega)
      have z0 := z 0 (by omega)
      have z1 := z 1 (by omega)
      have z2 := z 2 (by omega)
      have z3 := z 3 (by omega)
      have z4 := z 4 (by omega)
      rw [← c4]
      unfold fr
      omega
  · obtain ⟨a, b, c⟩ := h3 k hk
    rcases c with c | ⟨i, e, c1, c2, c3, c4⟩
    · omega
    · have := vC_b (i := i) (e := e) (k := k) (by omega) c2 hk
      omega
  · obtain ⟨a, b, c⟩ := h4 k hk
    rcases c with c | ⟨i, e, c1, c2, c3, c4⟩
    · omega
    · have := vC_b (i := i) (e := e) (k := k) (by omega) c2 hk
      omega
theorem surv_step (d len : Nat) (μ0 μ : zMu) (ν : zNu) (b ra we : Int) (ins w mk : Nat → Int) (I : Nat) (hI : I < 10000) (hB : Bp μ0 b 0 ra we ins w mk) (hS : Si (aw 0 ra we ins w) (fr mk) I μ0 μ) : ∃ μ' : zMu, zE zc_X0_survey (zF zT0 (d + 2)) 96 [.ref 35, .int (zi b), .int (zi (I : Int))] [] (zm len μ ν) = zE zc_X0_survey (zF zT0 (d + 2)) 96 [.ref 35, .int (zi b), .int (zi ((I + 1 : Nat) : Int))] [] (zm len μ' ν) ∧ Si (aw 0 ra we ins w) (fr mk) (I + 1) μ0 μ' := by
  obtain ⟨hb, ho, ⟨hra, hra1, hra2⟩, ⟨hwe, hwe1, hwe2⟩, hin, hw, hmk⟩ := hB
  obtain ⟨ways, lies, lo, hi, hC, s1, s2, s3, s4, s5⟩ := hS
  obtain ⟨wb, lb, lob, hib⟩ := Cv_b hC (by omega) (fun k hk => (hmk k hk).2)
  obtain ⟨t, ht⟩ : ∃ t : Nat → Int, t = fun k => vC I 0 k := ⟨_, rfl⟩
  obtain ⟨μ1, hμ1⟩ : ∃ m, m = zup (zup (zup (zup μ 44 0 (zi (t 0))) 44 1 (zi (t 1))) 44 2 (zi (t 2))) 44 3 (zi (t 3)) := ⟨_, rfl⟩
  have r1 : ∀ r, r ≠ 44 → μ1 r = μ r := fun r hr => by rw [hμ1, zup_ne _ _ _ hr, zup_ne _ _ _ hr, zup_ne _ _ _ hr, zup_ne _ _ _ hr]
  have t0 : (I : Int) / 1000 = t 0 := by rw [ht]; show (I : Int) / 1000 = ((I / 10 / 10 / 10 : Nat) : Int); omega
  have t1 : (I : Int) / 100 % 10 = t 1 := by rw [ht]; show (I : Int) / 100 % 10 = ((I / 10 / 10 % 10 : Nat) : Int); omega
  have t2 : (I : Int) / 10 % 10 = t 2 := by rw [ht]; show (I : Int) / 10 % 10 = ((I / 10 % 10 : Nat) : Int); omega
  have t3 : (I : Int) % 10 = t 3 := by rw [ht]; show (I : Int) % 10 = ((I % 10 : Nat) : Int); omega
  have tb : ∀ k, k < 4 → 0 ≤ t k ∧ t k ≤ 9 := fun k hk => by rw [ht]; exact vC_b hI (by omega) (by omega)
  have h44 : ∀ k, k < 4 → μ1 44 k = zi (t k) := fun k hk => by
    have h : k = 0 ∨ k = 1 ∨ k = 2 ∨ k = 3 := by omega
    rw [hμ1]
    rcases h with h | h | h | h <;> subst h <;> rfl
  have e39 : μ1 39 b.toNat = zi ra := by rw [r1 39 (by decide), s4 39 (by decide) (by decide) (by decide) (by decide)]; exact hra
  have e40 : μ1 40 b.toNat = zi we := by rw [r1 40 (by decide), s4 40 (by decide) (by decide) (by decide) (by decide)]; exact hwe
  have e36 : ∀ k, k < 5 → μ1 36 k = zi (w k) := fun k hk => by rw [r1 36 (by decide), s4 36 (by decide) (by decide) (by decide) (by decide)]; exact (hw k hk).1
  have e37 : ∀ k : Nat, k < 5 → μ1 37 (b * 5 + (k : Int)).toNat = zi (mk k) := fun k hk => by rw [r1 37 (by decide), s4 37 (by decide) (by decide) (by decide) (by decide)]; exact (hmk k hk).1
  have sb := sm_b (n := 4) (f := t) (B := 9) tb
  obtain ⟨v4, v5, K1⟩ := try_a d len μ1 ν b ra t hb e39 ⟨hra1, hra2⟩ h44 tb
  obtain ⟨f1, hf1⟩ : ∃ x, x = (if ra = -1 then 0 else mx 0 (ra - sm 4 t)) := ⟨_, rfl⟩
  obtain ⟨u1, hu1⟩ : ∃ x, x = (if ra = -1 then 9 else mn (ra - sm 4 t) 9) := ⟨_, rfl⟩
  rw [← hf1, ← hu1] at K1
  have bf : 0 ≤ f1 ∧ f1 ≤ 100 := by rw [hf1]; unfold mx; split <;> (try split) <;> omega
  have bu : -100 ≤ u1 ∧ u1 ≤ 9 := by rw [hu1]; unfold mn; split <;> (try split) <;> omega
  have fu : ∀ e : Int, 0 ≤ e → e ≤ 9 → (f1 ≤ e ∧ e ≤ u1 ↔ (ra = -1 ∨ ra = sm 4 t + e)) := fun e h0 h9 => by
    rw [hf1, hu1]
    by_cases q : ra = -1
    · rw [if_pos q, if_pos q]
      constructor
      · intro _
        exact Or.inl q
      · intro _
        exact ⟨h0, h9⟩
    · rw [if_neg q, if_neg q]
      unfold mx mn
      constructor
      · intro h
        by_cases z1 : 0 < ra - sm 4 t <;> by_cases z2 : ra - sm 4 t < 9 <;> simp only [z1, z2, if_true, if_false] at h <;> omega
      · intro h
        by_cases z1 : 0 < ra - sm 4 t <;> by_cases z2 : ra - sm 4 t < 9 <;> simp only [z1, z2, if_true, if_false] <;> omega
  obtain ⟨f2, u2, c1, c2, c3, K2⟩ := try_b d len μ1 ν b we f1 u1 t w v4 v5 hb e40 ⟨hwe1, hwe2⟩ h44 tb e36 (fun k hk => (hw k hk).2) bf bu
  rw [K2] at K1
  have hA : ∀ e : Nat, e < 10 → (aw 0 ra we ins w (vC I e) ↔ f2 ≤ (e : Int) ∧ (e : Int) ≤ u2) := fun e he => by
    rw [c3 e, fu e (by omega) (by omega), sm4, sm4, ht]
    unfold aw
    rw [vC_4 (i := I) (e := e) (k := 0) (by omega), vC_4 (i := I) (e := e) (k := 1) (by omega), vC_4 (i := I) (e := e) (k := 2) (by omega), vC_4 (i := I) (e := e) (k := 3) (by omega)]
    have ve : vC I e 4 = (e : Int) := rfl
    rw [ve]
    constructor
    · intro h
      rcases h with h | h
      · exact absurd rfl h.1
      · exact ⟨h.2.1, h.2.2⟩
    · intro h
      exact Or.inr ⟨rfl, h.1, h.2⟩
  have G : zE zc_X0_survey (zF zT0 (d + 2)) 96 [.ref 35, .int (zi b), .int (zi (I : Int))] [] (zm len μ ν) = zbv (zF zT0 (d + 2) 8 [.ref 35, .int (zi b)] (zm len μ1 ν)) (fun M' => zE zc_X0_survey (zF zT0 (d + 2)) 155 [.ref 35, .int (zi b), .int (zi (I : Int))] [] M') := by
    rw [B_X0_survey_96]
    simp (disch := omega) only [t0, t1, t2, t3, ← hμ1, zbi_some, zbl_some, zbv_some, zbi_none, zbl_none, zbv_none, zbi_ite, zbl_ite, zbv_ite, zbZ, zbO, zc_lt, zc_le, zc_ge, zc_gt, zc_eq, zk0, zk1, zk2, zk3, zk4, zk5, zk6, zk7, zk8, zk9, zk10, zk11, zk12, zk14, zk15, zk16, zk17, zk19, zk20, zk21, zk24, zk25, zk30, zk32, zk36, zk40, zk45, zk50, zk64, zk97, zk99, zk100, zk102, zk122, zk128, zk255, zk800, zk801, zk900, zk999, zk1000, zk1997, zk9999, zk10000, zk100000, zk99999, zk9999999, zk999999999, zk2147483647, zlc0, zlc1, zlc2, zlc3, zlc4, zlc23, zlc99, zlc100, zlc9999999, zlc999999999999, zlc1073741824, zi_neg, zi_add, zi_sub, zi_mul, zl_neg, zl_add, zl_sub, zl_mul, zi_toInt, zi_nat, zi_le, zi_lt, zi_eq, zl_le, zl_lt, zl_eq, zl_toInt, zl_of32, zi_of64, zi_div, zl_div, zmodI, ↓reduceIte, zTle, zFle, zTlt, zFlt, zTeq, zFeq, if_true, if_false, and_self, and_true, true_and, and_false, false_and, or_self, or_true, true_or, or_false, false_or, not_true_eq_false, not_false_eq_true, zcastA, zcastL, znatC, zab, Int.reduceAdd, Int.reduceSub, Int.reduceMul, Int.reduceNeg, Int.reduceToNat, Nat.reduceAdd]
  rw [G, K1]
  have c36 : ∀ k, k < 5 → μ1 42 k = zi (lo k) := fun k hk => by rw [r1 42 (by decide)]; exact (s3 k hk).1
  have c37 : ∀ k, k < 5 → μ1 43 k = zi (hi k) := fun k hk => by rw [r1 43 (by decide)]; exact (s3 k hk).2
  by_cases q : f2 ≤ u2
  · obtain ⟨μ2, a1, a2, a3, a4, a5, a6, a7, a8⟩ := F_admit d len μ1 ν b f2 u2 ways lies mk t lo hi hb e37 (fun k hk => (hmk k hk).2) h44 tb c36 lob c37 hib ⟨c1, q⟩ c2 (by rw [r1 35 (by decide)]; exact s1) wb (by rw [r1 35 (by decide)]; exact s2) lb
    refine ⟨μ2, ?_, ?_⟩
    · rw [if_pos q, a1]
      simp (disch := omega) only [B_X0_survey_155, zbi_some, zbl_some, zbv_some, zbi_none, zbl_none, zbv_none, zbi_ite, zbl_ite, zbv_ite, zbZ, zbO, zc_lt, zc_le, zc_ge, zc_gt, zc_eq, zk0, zk1, zk2, zk3, zk4, zk5, zk6, zk7, zk8, zk9, zk10, zk11, zk12, zk14, zk15, zk16, zk17, zk19, zk20, zk21, zk24, zk25, zk30, zk32, zk36, zk40, zk45, zk50, zk64, zk97, zk99, zk100, zk102, zk122, zk128, zk255, zk800, zk801, zk900, zk999, zk1000, zk1997, zk9999, zk10000, zk100000, zk99999, zk9999999, zk999999999, zk2147483647, zlc0, zlc1, zlc2, zlc3, zlc4, zlc23, zlc99, zlc100, zlc9999999, zlc999999999999, zlc1073741824, zi_neg, zi_add, zi_sub, zi_mul, zl_neg, zl_add, zl_sub, zl_mul, zi_toInt, zi_nat, zi_le, zi_lt, zi_eq, zl_le, zl_lt, zl_eq, zl_toInt, zl_of32, zi_of64, zi_div, zl_div, zmodI, ↓reduceIte, zTle, zFle, zTlt, zFlt, zTeq, zFeq, if_true, if_false, and_self, and_true, true_and, and_false, false_and, or_self, or_true, true_or, or_false, false_or, not_true_eq_false, not_false_eq_true, zcastA, zcastL, znatC, zab, Int.reduceAdd, Int.reduceSub, Int.reduceMul, Int.reduceNeg, Int.reduceToNat, Nat.reduceAdd]
    · have mk4 := (hmk 4 (by omega)).2
      have fe : ∀ e : Nat, fr mk (vC I e) = sm 4 (fun k => ab (mk k - t k)) + ab ((e : Int) - mk 4) := fun e => by
        have ve : vC I e 4 = (e : Int) := rfl
        unfold fr
        rw [sm4, ht, vC_4 (i := I) (e := e) (k := 0) (by omega), vC_4 (i := I) (e := e) (k := 1) (by omega), vC_4 (i := I) (e := e) (k := 2) (by omega), vC_4 (i := I) (e := e) (k := 3) (by omega), ve, ab_sym _ (mk 0), ab_sym _ (mk 1), ab_sym _ (mk 2), ab_sym _ (mk 3)]
      have T := Cv_take (L := sm 4 (fun k => ab (mk k - t k)) + mx 0 (mx (f2 - mk 4) (mk 4 - u2))) hC hI ⟨c1, q⟩ c2 hA (by
        obtain ⟨e, he1, he2⟩ : ∃ e : Int, (f2 ≤ e ∧ e ≤ u2) ∧ ab (e - mk 4) = mx 0 (mx (f2 - mk 4) (mk 4 - u2)) := by
          by_cases z1 : mk 4 < f2
          · refine ⟨f2, by omega, ?_⟩
            unfold ab mx
            by_cases z2 : f2 - mk 4 < mk 4 - u2 <;> simp only [z2, if_true, if_false] <;> (repeat' split) <;> omega
          · by_cases z2 : u2 < mk 4
            · refine ⟨u2, by omega, ?_⟩
              unfold ab mx
              by_cases z3 : f2 - mk 4 < mk 4 - u2 <;> simp only [z3, if_true, if_false] <;> (repeat' split) <;> omega
            · refine ⟨mk 4, by omega, ?_⟩
              unfold ab mx
              by_cases z3 : f2 - mk 4 < mk 4 - u2 <;> simp only [z3, if_true, if_false] <;> (repeat' split) <;> omega
        have ee : ((e.toNat : Nat) : Int) = e := by omega
        exact ⟨e.toNat, by omega, by omega, by omega, by rw [fe, ee, he2]⟩) (fun e he h1 h2 => by
        rw [fe]
        have : mx 0 (mx (f2 - mk 4) (mk 4 - u2)) ≤ ab ((e : Int) - mk 4) := by
          unfold ab mx
          by_cases z3 : f2 - mk 4 < mk 4 - u2 <;> simp only [z3, if_true, if_false] <;> (repeat' split) <;> omega
        omega)
      refine ⟨_, _, _, _, T, a7, a8, fun k hk => ?_, fun r h1 h2 h3 h4 => ?_, fun j h1 h2 => ?_⟩
      · by_cases k4 : k < 4
        · simp only [if_pos k4]
          have := a4 k k4
          rw [ht] at this
          exact this
        · have k4' : k = 4 := by omega
          subst k4'
          exact ⟨a5, a6⟩
      · rw [a2 r h1 h2 h3, r1 r h4]
        exact s4 r h1 h2 h3 h4
      · rw [a3 j h1 h2, r1 35 (by decide)]
        exact s5 j h1 h2
  · refine ⟨μ1, ?_, ?_⟩
    · rw [if_neg q]
      simp (disch := omega) only [B_X0_survey_155, zbi_some, zbl_some, zbv_some, zbi_none, zbl_none, zbv_none, zbi_ite, zbl_ite, zbv_ite, zbZ, zbO, zc_lt, zc_le, zc_ge, zc_gt, zc_eq, zk0, zk1, zk2, zk3, zk4, zk5, zk6, zk7, zk8, zk9, zk10, zk11, zk12, zk14, zk15, zk16, zk17, zk19, zk20, zk21, zk24, zk25, zk30, zk32, zk36, zk40, zk45, zk50, zk64, zk97, zk99, zk100, zk102, zk122, zk128, zk255, zk800, zk801, zk900, zk999, zk1000, zk1997, zk9999, zk10000, zk100000, zk99999, zk9999999, zk999999999, zk2147483647, zlc0, zlc1, zlc2, zlc3, zlc4, zlc23, zlc99, zlc100, zlc9999999, zlc999999999999, zlc1073741824, zi_neg, zi_add, zi_sub, zi_mul, zl_neg, zl_add, zl_sub, zl_mul, zi_toInt, zi_nat, zi_le, zi_lt, zi_eq, zl_le, zl_lt, zl_eq, zl_toInt, zl_of32, zi_of64, zi_div, zl_div, zmodI, ↓reduceIte, zTle, zFle, zTlt, zFlt, zTeq, zFeq, if_true, if_false, and_self, and_true, true_and, and_false, false_and, or_self, or_true, true_or, or_false, false_or, not_true_eq_false, not_false_eq_true, zcastA, zcastL, znatC, zab, Int.reduceAdd, Int.reduceSub, Int.reduceMul, Int.reduceNeg, Int.reduceToNat, Nat.reduceAdd]
    · refine ⟨ways, lies, lo, hi, Cv_skip hC (fun e he h => by have := (hA e he).mp h; omega), by rw [r1 35 (by decide)]; exact s1, by rw [r1 35 (by decide)]; exact s2, fun k hk => ⟨c36 k hk, c37 k hk⟩, fun r h1 h2 h3 h4 => ?_, fun j h1 h2 => ?_⟩
      · rw [r1 r h4]
        exact s4 r h1 h2 h3 h4
      · rw [r1 35 (by decide)]
        exact s5 j h1 h2
theorem surv_loop (d len : Nat) (μ0 : zMu) (ν : zNu) (b ra we : Int) (ins w mk : Nat → Int) (hB : Bp μ0 b 0 ra we ins w mk) : ∀ (n I : Nat) (μ : zMu), I + n = 10000 → Si (aw 0 ra we ins w) (fr mk) I μ0 μ → ∃ μ' : zMu, zE zc_X0_survey (zF zT0 (d + 2)) 96 [.ref 35, .int (zi b), .int (zi (I : Int))] [] (zm len μ ν) = some (.null, zm len μ' ν) ∧ Si (aw 0 ra we ins w) (fr mk) 10000 μ0 μ' := by
  intro n
  induction n with
  | zero =>
    intro I μ hI hS
    have e : I = 10000 := by omega
    subst e
    refine ⟨μ, ?_, hS⟩
    rw [B_X0_survey_96]
    simp (disch := omega) only [zbi_some, zbl_some, zbv_some, zbi_none, zbl_none, zbv_none, zbi_ite, zbl_ite, zbv_ite, zbZ, zbO, zc_lt, zc_le, zc_ge, zc_gt, zc_eq, zk0, zk1, zk2, zk3, zk4, zk5, zk6, zk7, zk8, zk9, zk10, zk11, zk12, zk14, zk15, zk16, zk17, zk19, zk20, zk21, zk24, zk25, zk30, zk32, zk36, zk40, zk45, zk50, zk64, zk97, zk99, zk100, zk102, zk122, zk128, zk255, zk800, zk801, zk900, zk999, zk1000, zk1997, zk9999, zk10000, zk100000, zk99999, zk9999999, zk999999999, zk2147483647, zlc0, zlc1, zlc2, zlc3, zlc4, zlc23, zlc99, zlc100, zlc9999999, zlc999999999999, zlc1073741824, zi_neg, zi_add, zi_sub, zi_mul, zl_neg, zl_add, zl_sub, zl_mul, zi_toInt, zi_nat, zi_le, zi_lt, zi_eq, zl_le, zl_lt, zl_eq, zl_toInt, zl_of32, zi_of64, zi_div, zl_div, zmodI, ↓reduceIte, zTle, zFle, zTlt, zFlt, zTeq, zFeq, if_true, if_false, and_self, and_true, true_and, and_false, false_and, or_self, or_true, true_or, or_false, false_or, not_true_eq_false, not_false_eq_true, zcastA, zcastL, znatC, zab, Int.reduceAdd, Int.reduceSub, Int.reduceMul, Int.reduceNeg, Int.reduceToNat, Nat.reduceAdd]
  | succ n ih =>
    intro I μ hI hS
    obtain ⟨μ1, h1, h2⟩ := surv_step d len μ0 μ ν b ra we ins w mk I (by omega) hB hS
    rw [h1]
    exact ih (I + 1) μ1 (by omega) h2
