/-! BALLS: survey, from its entry -/
theorem vM_inj {v u : Nat} (hv : v < 100000) (hu : u < 100000) (h : ∀ k, k < 5 → vM v k = vM u k) : v = u := by
  have h0 : ((v % 10 : Nat) : Int) = ((u % 10 : Nat) : Int) := h 0 (by omega)
  have h1 : ((v / 10 % 10 : Nat) : Int) = ((u / 10 % 10 : Nat) : Int) := h 1 (by omega)
  have h2 : ((v / 10 / 10 % 10 : Nat) : Int) = ((u / 10 / 10 % 10 : Nat) : Int) := h 2 (by omega)
  have h3 : ((v / 10 / 10 / 10 % 10 : Nat) : Int) = ((u / 10 / 10 / 10 % 10 : Nat) : Int) := h 3 (by omega)
  have h4 : ((v / 10 / 10 / 10 / 10 : Nat) : Int) = ((u / 10 / 10 / 10 / 10 : Nat) : Int) := h 4 (by omega)
  have e4 : v / 10 / 10 / 10 / 10 = u / 10 / 10 / 10 / 10 := by omega
  have e3 : v / 10 / 10 / 10 = u / 10 / 10 / 10 := by omega
  have e2 : v / 10 / 10 = u / 10 / 10 := by omega
  have e1 : v / 10 = u / 10 := by omega
  omega
theorem Sv_one {A : (Nat → Int) → Prop} {far : (Nat → Int) → Int} {v0 : Nat} (h0 : v0 < 100000) (hA : ∀ v, v < 100000 → (A (vM v) ↔ v = v0)) : Sv A far 100000 1 (far (vM v0)) (vM v0) (vM v0) := by
  have A0 : A (vM v0) := (hA v0 h0).mpr rfl
  refine ⟨(sm_uniq h0 hA).symm, fun _ => ⟨⟨⟨v0, h0, A0, rfl⟩, fun v hv h => ?_⟩, fun k hk => ⟨⟨⟨v0, h0, A0, rfl⟩, fun v hv h => ?_⟩, ⟨⟨v0, h0, A0, rfl⟩, fun v hv h => ?_⟩⟩⟩⟩
  · rw [(hA v hv).mp h]
    exact Int.le_refl _
  · rw [(hA v hv).mp h]
    exact Int.le_refl _
  · rw [(hA v hv).mp h]
    exact Int.le_refl _
theorem Sv_congr {A : (Nat → Int) → Prop} {far : (Nat → Int) → Int} {n : Nat} {w l l' : Int} {lo hi lo' hi' : Nat → Int} (h : Sv A far n w l lo hi) (e1 : l = l') (e2 : ∀ k, k < 5 → lo k = lo' k ∧ hi k = hi' k) : Sv A far n w l' lo' hi' := by
  obtain ⟨h1, h2⟩ := h
  refine ⟨h1, fun q => ⟨by rw [← e1]; exact (h2 q).1, fun k hk => ?_⟩⟩
  rw [← (e2 k hk).1, ← (e2 k hk).2]
  exact (h2 q).2 k hk
theorem F_survey (d len : Nat) (μ : zMu) (ν : zNu) (b o ra we : Int) (ins w mk : Nat → Int) (hB : Bp μ b o ra we ins w mk) : ∃ (μ' : zMu) (ways lies : Int) (lo hi : Nat → Int), zF zT0 (d + 3) 7 [.ref 35, .int (zi b)] (zm len μ ν) = some (.null, zm len μ' ν) ∧ Sv (aw o ra we ins w) (fr mk) 100000 ways lies lo hi ∧ (0 ≤ ways ∧ ways ≤ 200000) ∧ (ways = 0 → lies = -1) ∧ μ' 35 6 = zi ways ∧ μ' 35 7 = zi lies ∧ (∀ k, k < 5 → μ' 42 k = zi (lo k) ∧ μ' 43 k = zi (hi k)) ∧ ∀ r, r ≠ 35 → r ≠ 42 → r ≠ 43 → r ≠ 44 → μ' r = μ r := by
  have hB0 := hB
  obtain ⟨hb, ⟨ho, ho1, ho2⟩, ⟨hra, hra1, hra2⟩, ⟨hwe, hwe1, hwe2⟩, hin, hw, hmk⟩ := hB
  obtain ⟨μ1, hμ1⟩ : ∃ m, m = zup (zup μ 35 6 (zi 0)) 35 7 (zi (-1)) := ⟨_, rfl⟩
  obtain ⟨R2, p1, p2, p3, p4⟩ := zfill_ex (fun _ => zi 9) (μ1 42)
  obtain ⟨R3, q1, q2, q3, q4⟩ := zfill_ex (fun _ => zi 0) (μ1 43)
  have L := zloop (f := fun j => zE zc_X0_survey (zF zT0 (d + 2)) 12 [.ref 35, .int (zi b), .int (zi (j : Int))] [] (zm len (zrw (zrw μ1 42 (R2 j)) 43 (R3 j)) ν)) (n := 5) (fun j hj => by
    show zE _ _ _ _ _ _ = zE _ _ _ _ _ _
    rw [B_X0_survey_12, ← p2 j, ← q2 j]
    simp (disch := omega) only [zup_zrw, zup_zrw_n _ _ _ _ (show (43 : Nat) ≠ 42 by decide), zbi_some, zbl_some, zbv_some, zbi_none, zbl_none, zbv_none, zbi_ite, zbl_ite, zbv_ite, zbZ, zbO, zc_lt, zc_le, zc_ge, zc_gt, zc_eq, zk0, zk1, zk2, zk3, zk4, zk5, zk6, zk7, zk8, zk9, zk10, zk11, zk12, zk14, zk15, zk16, zk17, zk19, zk20, zk21, zk24, zk25, zk30, zk32, zk36, zk40, zk45, zk50, zk64, zk97, zk99, zk100, zk102, zk122, zk128, zk255, zk800, zk801, zk900, zk999, zk1000, zk1997, zk9999, zk10000, zk100000, zk99999, zk9999999, zk999999999, zk2147483647, zlc0, zlc1, zlc2, zlc3, zlc4, zlc23, zlc99, zlc100, zlc9999999, zlc999999999999, zlc1073741824, zi_neg, zi_add, zi_sub, zi_mul, zl_neg, zl_add, zl_sub, zl_mul, zi_toInt, zi_nat, zi_le, zi_lt, zi_eq, zl_le, zl_lt, zl_eq, zl_toInt, zl_of32, zi_of64, zi_div, zl_div, zmodI, ↓reduceIte, zTle, zFle, zTlt, zFlt, zTeq, zFeq, if_true, if_false, and_self, and_true, true_and, and_false, false_and, or_self, or_true, true_or, or_false, false_or, not_true_eq_false, not_false_eq_true, zcastA, zcastL, znatC, zab, Int.reduceAdd, Int.reduceSub, Int.reduceMul, Int.reduceNeg, Int.reduceToNat, Nat.reduceAdd])
  have L0 : zE zc_X0_survey (zF zT0 (d + 2)) 12 [.ref 35, .int (zi b), .int (zi 0)] [] (zm len (zrw (zrw μ1 42 (R2 0)) 43 (R3 0)) ν) = zE zc_X0_survey (zF zT0 (d + 2)) 12 [.ref 35, .int (zi b), .int (zi 5)] [] (zm len (zrw (zrw μ1 42 (R2 5)) 43 (R3 5)) ν) := L
  rw [p1, q1, zrw_id, zrw_id] at L0
  obtain ⟨μ2, hμ2⟩ : ∃ m, m = zrw (zrw μ1 42 (R2 5)) 43 (R3 5) := ⟨_, rfl⟩
  rw [← hμ2] at L0
  have r1 : ∀ r, r ≠ 35 → r ≠ 42 → r ≠ 43 → μ2 r = μ r := fun r a1 a2 a3 => by rw [hμ2, zrw_n _ _ a3, zrw_n _ _ a2, hμ1, zup_ne _ _ _ a1, zup_ne _ _ _ a1]
  have r35 : μ2 35 = μ1 35 := by rw [hμ2, zrw_n _ _ (by decide), zrw_n _ _ (by decide)]
  have r6 : μ2 35 6 = zi 0 := by rw [r35, hμ1]; rfl
  have r7 : μ2 35 7 = zi (-1) := by rw [r35, hμ1]; rfl
  have r42 : ∀ k, k < 5 → μ2 42 k = zi 9 := fun k hk => by rw [hμ2, zrw_n _ _ (by decide), zrw_s, p3 5 k hk]
  have r43 : ∀ k, k < 5 → μ2 43 k = zi 0 := fun k hk => by rw [hμ2, zrw_s, q3 5 k hk]
  have G : zF zT0 (d + 3) 7 [.ref 35, .int (zi b)] (zm len μ ν) = zE zc_X0_survey (zF zT0 (d + 2)) 12 [.ref 35, .int (zi b), .int (zi 5)] [] (zm len μ2 ν) := by
    rw [B_X0_survey, ← L0, hμ1]
    rfl
  have e41 : μ2 41 b.toNat = zi o := by rw [r1 41 (by decide) (by decide) (by decide)]; exact ho
  rw [G, B_X0_survey_12]
  by_cases q : o = 0
  · subst q
    have S0 : Si (aw 0 ra we ins w) (fr mk) 0 μ2 μ2 := ⟨0, -1, fun _ => 9, fun _ => 0, Cv_0 _ _, r6, r7, fun k hk => ⟨r42 k hk, r43 k hk⟩, fun r _ _ _ _ => rfl, fun j _ _ => rfl⟩
    have hB2 : Bp μ2 b 0 ra we ins w mk := Bp_eq hB0 (fun r hr => r1 r (by omega) (by omega) (by omega))
    obtain ⟨μ3, K, ways, lies, lo, hi, hC, s1, s2, s3, s4, s5⟩ := surv_loop d len μ2 ν b ra we ins w mk hB2 10000 0 μ2 (by omega) S0
    have cb := Cv_b hC (by omega) (fun k hk => (hmk k hk).2)
    refine ⟨μ3, ways, lies, lo, hi, ?_, Cv_Sv hC, cb.1, hC.2.1, s1, s2, s3, fun r a1 a2 a3 a4 => by rw [s4 r a1 a2 a3 a4]; exact r1 r a1 a2 a3⟩
    simp (disch := omega) only [e41, zbi_some, zbl_some, zbv_some, zbi_none, zbl_none, zbv_none, zbi_ite, zbl_ite, zbv_ite, zbZ, zbO, zc_lt, zc_le, zc_ge, zc_gt, zc_eq, zk0, zk1, zk2, zk3, zk4, zk5, zk6, zk7, zk8, zk9, zk10, zk11, zk12, zk14, zk15, zk16, zk17, zk19, zk20, zk21, zk24, zk25, zk30, zk32, zk36, zk40, zk45, zk50, zk64, zk97, zk99, zk100, zk102, zk122, zk128, zk255, zk800, zk801, zk900, zk999, zk1000, zk1997, zk9999, zk10000, zk100000, zk99999, zk9999999, zk999999999, zk2147483647, zlc0, zlc1, zlc2, zlc3, zlc4, zlc23, zlc99, zlc100, zlc9999999, zlc999999999999, zlc1073741824, zi_neg, zi_add, zi_sub, zi_mul, zl_neg, zl_add, zl_sub, zl_mul, zi_toInt, zi_nat, zi_le, zi_lt, zi_eq, zl_le, zl_lt, zl_eq, zl_toInt, zl_of32, zi_of64, zi_div, zl_div, zmodI, ↓reduceIte, zTle, zFle, zTlt, zFlt, zTeq, zFeq, if_true, if_false, and_self, and_true, true_and, and_false, false_and, or_self, or_true, true_or, or_false, false_or, not_true_eq_false, not_false_eq_true, zcastA, zcastL, znatC, zab, Int.reduceAdd, Int.reduceSub, Int.reduceMul, Int.reduceNeg, Int.reduceToNat, Nat.reduceAdd]
    exact K
  · have q1 : o = 1 := by omega
    subst q1
    obtain ⟨R4, u1, u2, u3, u4⟩ := zfill_ex (fun k => zi (ins k)) (μ2 44)
    have N := zloop (f := fun j => zE zc_X0_survey (zF zT0 (d + 2)) 49 [.ref 35, .int (zi b), .int (zi (j : Int))] [] (zm len (zrw μ2 44 (R4 j)) ν)) (n := 5) (fun j hj => by
      have h38 : (zrw μ2 44 (R4 j)) 38 (b * 5 + (j : Int)).toNat = zi (ins j) := by rw [zrw_n _ _ (by decide), r1 38 (by decide) (by decide) (by decide)]; exact (hin j hj).1
      show zE _ _ _ _ _ _ = zE _ _ _ _ _ _
      rw [B_X0_survey_49, ← u2 j]
      simp (disch := omega) only [zup_zrw, h38, zbi_some, zbl_some, zbv_some, zbi_none, zbl_none, zbv_none, zbi_ite, zbl_ite, zbv_ite, zbZ, zbO, zc_lt, zc_le, zc_ge, zc_gt, zc_eq, zk0, zk1, zk2, zk3, zk4, zk5, zk6, zk7, zk8, zk9, zk10, zk11, zk12, zk14, zk15, zk16, zk17, zk19, zk20, zk21, zk24, zk25, zk30, zk32, zk36, zk40, zk45, zk50, zk64, zk97, zk99, zk100, zk102, zk122, zk128, zk255, zk800, zk801, zk900, zk999, zk1000, zk1997, zk9999, zk10000, zk100000, zk99999, zk9999999, zk999999999, zk2147483647, zlc0, zlc1, zlc2, zlc3, zlc4, zlc23, zlc99, zlc100, zlc9999999, zlc999999999999, zlc1073741824, zi_neg, zi_add, zi_sub, zi_mul, zl_neg, zl_add, zl_sub, zl_mul, zi_toInt, zi_nat, zi_le, zi_lt, zi_eq, zl_le, zl_lt, zl_eq, zl_toInt, zl_of32, zi_of64, zi_div, zl_div, zmodI, ↓reduceIte, zTle, zFle, zTlt, zFlt, zTeq, zFeq, if_true, if_false, and_self, and_true, true_and, and_false, false_and, or_self, or_true, true_or, or_false, false_or, not_true_eq_false, not_false_eq_true, zcastA, zcastL, znatC, zab, Int.reduceAdd, Int.reduceSub, Int.reduceMul, Int.reduceNeg, Int.reduceToNat, Nat.reduceAdd])
    have N0 : zE zc_X0_survey (zF zT0 (d + 2)) 49 [.ref 35, .int (zi b), .int (zi 0)] [] (zm len (zrw μ2 44 (R4 0)) ν) = zE zc_X0_survey (zF zT0 (d + 2)) 49 [.ref 35, .int (zi b), .int (zi 5)] [] (zm len (zrw μ2 44 (R4 5)) ν) := N
    rw [u1, zrw_id] at N0
    obtain ⟨μ3, hμ3⟩ : ∃ m, m = zrw μ2 44 (R4 5) := ⟨_, rfl⟩
    rw [← hμ3] at N0
    have w1 : ∀ r, r ≠ 44 → μ3 r = μ2 r := fun r a => by rw [hμ3, zrw_n _ _ a]
    have w44 : ∀ k, k < 5 → μ3 44 k = zi (ins k) := fun k hk => by rw [hμ3, zrw_s, u3 5 k hk]
    have i4 := (hin 4 (by omega)).2
    obtain ⟨μ4, a1, a2, a3, a4, a5, a6, a7, a8⟩ := F_admit (d + 1) len μ3 ν b (ins 4) (ins 4) 0 (-1) mk ins (fun _ => 9) (fun _ => 0) hb (fun k hk => by rw [w1 37 (by decide), r1 37 (by decide) (by decide) (by decide)]; exact (hmk k hk).1) (fun k hk => (hmk k hk).2) (fun k hk => w44 k (by omega)) (fun k hk => (hin k (by omega)).2) (fun k hk => by rw [w1 42 (by decide)]; exact r42 k hk) (fun k hk => ⟨by show (0 : Int) ≤ 9; omega, Int.le_refl _⟩) (fun k hk => by rw [w1 43 (by decide)]; exact r43 k hk) (fun k hk => ⟨Int.le_refl _, by show (0 : Int) ≤ 9; omega⟩) ⟨i4.1, Int.le_refl _⟩ i4.2 (by rw [w1 35 (by decide)]; exact r6) (by omega) (by rw [w1 35 (by decide)]; exact r7) (by omega)
    have h0 := (hin 0 (by omega)).2
    have h1 := (hin 1 (by omega)).2
    have h2 := (hin 2 (by omega)).2
    have h3 := (hin 3 (by omega)).2
    have V := vM_vec (a := (ins 0).toNat) (b := (ins 1).toNat) (c := (ins 2).toNat) (d := (ins 3).toNat) (e := (ins 4).toNat) (by omega) (by omega) (by omega) (by omega) (by omega)
    obtain ⟨v0, hv0⟩ : ∃ v, v = (ins 0).toNat + 10 * (ins 1).toNat + 100 * (ins 2).toNat + 1000 * (ins 3).toNat + 10000 * (ins 4).toNat := ⟨_, rfl⟩
    have v0b : v0 < 100000 := by omega
    rw [← hv0] at V
    have Vk : ∀ k, k < 5 → vM v0 k = ins k := fun k hk => by
      have h : k = 0 ∨ k = 1 ∨ k = 2 ∨ k = 3 ∨ k = 4 := by omega
      rw [V]
      rcases h with h | h | h | h | h <;> subst h
      · show (((ins 0).toNat : Nat) : Int) = ins 0
        omega
      · show (((ins 1).toNat : Nat) : Int) = ins 1
        omega
      · show (((ins 2).toNat : Nat) : Int) = ins 2
        omega
      · show (((ins 3).toNat : Nat) : Int) = ins 3
        omega
      · show (((ins 4).toNat : Nat) : Int) = ins 4
        omega
    have hA : ∀ v, v < 100000 → (aw 1 ra we ins w (vM v) ↔ v = v0) := fun v hv => by
      constructor
      · intro h
        rcases h with h | h
        · refine vM_inj hv v0b (fun k hk => ?_)
          rw [Vk k hk]
          have h' : k = 0 ∨ k = 1 ∨ k = 2 ∨ k = 3 ∨ k = 4 := by omega
          rcases h' with e | e | e | e | e <;> subst e
          · exact h.2.1
          · exact h.2.2.1
          · exact h.2.2.2.1
          · exact h.2.2.2.2.1
          · exact h.2.2.2.2.2
        · exact absurd h.1 (by decide)
      · intro h
        rw [h]
        exact Or.inl ⟨by decide, Vk 0 (by omega), Vk 1 (by omega), Vk 2 (by omega), Vk 3 (by omega), Vk 4 (by omega)⟩
    have fe : fr mk (vM v0) = sm 4 (fun k => ab (mk k - ins k)) + mx 0 (mx (ins 4 - mk 4) (mk 4 - ins 4)) := by
      have e4 : mx 0 (mx (ins 4 - mk 4) (mk 4 - ins 4)) = ab (ins 4 - mk 4) := by
        unfold ab mx
        by_cases z3 : ins 4 - mk 4 < mk 4 - ins 4 <;> simp only [z3, if_true, if_false] <;> (repeat' split) <;> omega
      unfold fr
      rw [sm4, Vk 0 (by omega), Vk 1 (by omega), Vk 2 (by omega), Vk 3 (by omega), Vk 4 (by omega), e4, ab_sym _ (mk 0), ab_sym _ (mk 1), ab_sym _ (mk 2), ab_sym _ (mk 3)]
    have S1 := Sv_one (far := fr mk) v0b hA
    have S2 := Sv_congr S1 rfl (fun k hk => ⟨Vk k hk, Vk k hk⟩)
    refine ⟨μ4, 1, fr mk (vM v0), ins, ins, ?_, S2, by omega, fun z => by omega, ?_, ?_, fun k hk => ?_, fun r b1 b2 b3 b4 => ?_⟩
    · simp (disch := omega) only [e41, zbi_some, zbl_some, zbv_some, zbi_none, zbl_none, zbv_none, zbi_ite, zbl_ite, zbv_ite, zbZ, zbO, zc_lt, zc_le, zc_ge, zc_gt, zc_eq, zk0, zk1, zk2, zk3, zk4, zk5, zk6, zk7, zk8, zk9, zk10, zk11, zk12, zk14, zk15, zk16, zk17, zk19, zk20, zk21, zk24, zk25, zk30, zk32, zk36, zk40, zk45, zk50, zk64, zk97, zk99, zk100, zk102, zk122, zk128, zk255, zk800, zk801, zk900, zk999, zk1000, zk1997, zk9999, zk10000, zk100000, zk99999, zk9999999, zk999999999, zk2147483647, zlc0, zlc1, zlc2, zlc3, zlc4, zlc23, zlc99, zlc100, zlc9999999, zlc999999999999, zlc1073741824, zi_neg, zi_add, zi_sub, zi_mul, zl_neg, zl_add, zl_sub, zl_mul, zi_toInt, zi_nat, zi_le, zi_lt, zi_eq, zl_le, zl_lt, zl_eq, zl_toInt, zl_of32, zi_of64, zi_div, zl_div, zmodI, ↓reduceIte, zTle, zFle, zTlt, zFlt, zTeq, zFeq, if_true, if_false, and_self, and_true, true_and, and_false, false_and, or_self, or_true, true_or, or_false, false_or, not_true_eq_false, not_false_eq_true, zcastA, zcastL, znatC, zab, Int.reduceAdd, Int.reduceSub, Int.reduceMul, Int.reduceNeg, Int.reduceToNat, Nat.reduceAdd]
      rw [N0, B_X0_survey_49]
      simp (disch := omega) only [w44 4 (by omega), a1, B_X0_survey_93, zbi_some, zbl_some, zbv_some, zbi_none, zbl_none, zbv_none, zbi_ite, zbl_ite, zbv_ite, zbZ, zbO, zc_lt, zc_le, zc_ge, zc_gt, zc_eq, zk0, zk1, zk2, zk3, zk4, zk5, zk6, zk7, zk8, zk9, zk10, zk11, zk12, zk14, zk15, zk16, zk17, zk19, zk20, zk21, zk24, zk25, zk30, zk32, zk36, zk40, zk45, zk50, zk64, zk97, zk99, zk100, zk102, zk122, zk128, zk255, zk800, zk801, zk900, zk999, zk1000, zk1997, zk9999, zk10000, zk100000, zk99999, zk9999999, zk999999999, zk2147483647, zlc0, zlc1, zlc2, zlc3, zlc4, zlc23, zlc99, zlc100, zlc9999999, zlc999999999999, zlc1073741824, zi_neg, zi_add, zi_sub, zi_mul, zl_neg, zl_add, zl_sub, zl_mul, zi_toInt, zi_nat, zi_le, zi_lt, zi_eq, zl_le, zl_lt, zl_eq, zl_toInt, zl_of32, zi_of64, zi_div, zl_div, zmodI, ↓reduceIte, zTle, zFle, zTlt, zFlt, zTeq, zFeq, if_true, if_false, and_self, and_true, true_and, and_false, false_and, or_self, or_true, true_or, or_false, false_or, not_true_eq_false, not_false_eq_true, zcastA, zcastL, znatC, zab, Int.reduceAdd, Int.reduceSub, Int.reduceMul, Int.reduceNeg, Int.reduceToNat, Nat.reduceAdd]
    · rw [a7]
      congr 1
      omega
    · rw [a8, fe, if_pos rfl]
    · by_cases k4 : k < 4
      · have a := a4 k k4
        have bk := (hin k hk).2
        rw [a.1, a.2]
        constructor
        · congr 1
          unfold mn
          split <;> omega
        · congr 1
          unfold mx
          split <;> omega
      · have k4' : k = 4 := by omega
        subst k4'
        rw [a5, a6]
        constructor
        · congr 1
          unfold mn
          split <;> omega
        · congr 1
          unfold mx
          split <;> omega
    · rw [a2 r b1 b2 b3, w1 r b4]
      exact r1 r b1 b2 b3
