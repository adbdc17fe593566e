/-! step with a STEP that is not nought -/
theorem upd_self_eq (f : Nat → Int32) (k : Nat) : upd f k (f k) = f := by
  funext j
  by_cases h : j = k
  · rw [h, upd_eq]
  · rw [upd_ne _ _ h]
theorem upd_back (f : Nat → Int32) (k : Nat) (x : Int32) : upd (upd f k x) k (f k) = f := by
  funext j
  by_cases h : j = k
  · rw [h, upd_eq]
  · rw [upd_ne _ _ h, upd_ne _ _ h]
theorem Rnum_set {r3 r93 r4 r94 r5 r95 : Nat → Int32} (h : Rnum r3 r93 r4 r94 r5 r95) {A B N : Nat} {m c : Int32} (hA : A < 4) (hB : B ≤ 4) (hm : m.toInt = N + 1) (hN : N ≤ 5) (hBN : B < N) (hc : 2 ≤ c.toInt ∧ c.toInt ≤ 60) (hold : ∀ j : Nat, j < N → j ≠ B → (j : Int) + 1 < (r3 A).toInt) (hP : zP (fun j => (upd r94 (5 * A + B) c (5 * A + j)).toInt) N ≤ 99999) : Rnum (upd r3 A m) (upd r93 A m) (upd r4 (6 * A + B) c) (upd r94 (5 * A + B) c) r5 r95 := by
  obtain ⟨g1, g2, g3, g4, g5, g6⟩ := h
  refine ⟨by rw [g1], g2, g3, fun s hs => ?_, fun s i hs hi => ?_, fun s hs => ?_⟩
  · by_cases q : s = A
    · rw [q, upd_eq]
      omega
    · rw [upd_ne _ _ q]
      exact g4 s hs
  · by_cases q : s = A
    · subst q
      rw [upd_eq] at hi
      by_cases w : i = B
      · rw [w, upd_eq, upd_eq]
        exact ⟨rfl, hc⟩
      · rw [upd_ne _ _ (show 6 * s + i ≠ 6 * s + B by omega), upd_ne _ _ (show 5 * s + i ≠ 5 * s + B by omega)]
        exact g5 s i hs (hold i (by omega) w)
    · rw [upd_ne _ _ q] at hi
      have := g4 s hs
      rw [upd_ne _ _ (show 6 * s + i ≠ 6 * A + B by omega), upd_ne _ _ (show 5 * s + i ≠ 5 * A + B by omega)]
      exact g5 s i hs hi
  · by_cases q : s = A
    · subst q
      rw [upd_eq, show m.toInt.toNat - 1 = N by omega]
      exact hP
    · have := g4 s hs
      rw [upd_ne _ _ q, zP_congr (h := fun j => (r94 (5 * s + j)).toInt) (fun j hj => by show (upd r94 (5 * A + B) c (5 * s + j)).toInt = _; rw [upd_ne _ _ (show 5 * s + j ≠ 5 * A + B by omega)])]
      exact g6 s hs
theorem ag_step1 (d len : Nat) (μ : zMu) (ν : zNu) (a b c : Int32) (hx : ¬ c = 0) (h : RnumM μ) : ∃ (v : Int32) (μ1 μ2 : zMu), zF zT0 (d + 8) 137 [.ref 1, .int a, .int b, .int c] (zm len μ ν) = some (.int v, zm len μ1 ν) ∧ zF zT0 (d + 8) 189 [.ref 92, .int a, .int b, .int c] (zm len μ1 ν) = some (.int v, zm len μ2 ν) ∧ RnumM μ2 ∧ zfr [3, 4, 93, 94] [0] μ μ2 := by
  have hR := h
  obtain ⟨g1, g2, g3, g4, g5, g6⟩ := h
  have s1 : (c = 0) = False := eq_false hx
  have t0 : (0 : Int32).toInt = 0 := rfl
  have t1 : (1 : Int32).toInt = 1 := rfl
  have t2 : (2 : Int32).toInt = 2 := rfl
  have t3 : (3 : Int32).toInt = 3 := rfl
  have t4 : (4 : Int32).toInt = 4 := rfl
  have t6 : (6 : Int32).toInt = 6 := rfl
  have t60 : (60 : Int32).toInt = 60 := rfl
  by_cases c0 : 0 ≤ a ∧ a ≤ 3
  · have z1 := c0.1
    have z2 := c0.2
    rw [i32_le] at z1 z2
    have hS : 0 ≤ a.toInt ∧ a.toInt < ((4 : Nat) : Int) := by omega
    have hSn : a.toNatClampNeg < 4 := by rw [i32_nat]; omega
    have hn := g4 a.toNatClampNeg hSn
    have hd1 : (μ 3 a.toNatClampNeg - 1).toInt = (μ 3 a.toNatClampNeg).toInt - 1 := by rw [i32_sub] <;> omega
    by_cases c1 : 2 ≤ c ∧ c ≤ 60
    · by_cases c2 : 0 ≤ b ∧ b ≤ (if 4 < μ 3 a.toNatClampNeg - 1 then 4 else μ 3 a.toNatClampNeg - 1)
      · have z3 := c2.1
        have z4 := c2.2
        have z5 := c1.1
        have z6 := c1.2
        rw [i32_le] at z3 z4 z5 z6
        have hb : b.toInt ≤ 4 ∧ b.toInt ≤ (μ 3 a.toNatClampNeg).toInt - 1 := by
          by_cases q : 4 < μ 3 a.toNatClampNeg - 1
          · rw [if_pos q] at z4
            rw [i32_lt, hd1] at q
            omega
          · rw [if_neg q] at z4
            rw [i32_lt, hd1] at q
            omega
        have hS4 : 0 ≤ a.toInt ∧ a.toInt < 4 := hS
        obtain ⟨g, hg⟩ : ∃ g : Nat → Int, ∀ j : Nat, g j = (if (j : Int) = b.toInt then c else μ 4 (6 * a.toInt.toNat + j)).toInt := ⟨_, fun _ => rfl⟩
        obtain ⟨N, hN⟩ : ∃ N : Nat, (N : Int) = max ((μ 3 a.toNatClampNeg).toInt - 1) (b.toInt + 1) := ⟨(max ((μ 3 a.toNatClampNeg).toInt - 1) (b.toInt + 1)).toNat, by omega⟩
        have hg1 : ∀ j, j < N → 1 ≤ g j ∧ g j ≤ 60 := by
          intro j hj
          rw [hg]
          by_cases q : (j : Int) = b.toInt
          · rw [if_pos q]
            omega
          · rw [if_neg q]
            have w := (g5 a.toNatClampNeg j hSn (by omega)).2
            rw [i32_nat] at w
            omega
        have FS := F_small (d + 4) len μ ν a b c hS4 ⟨by omega, hb.1⟩ hn g N hN (fun j _ => hg j) hg1
        have hx6 : (a * 6 + b).toInt = 6 * a.toInt + b.toInt := idx6 (by omega) (by omega) (by omega) (by omega)
        have hb6 : 0 ≤ (a * 6 + b).toInt ∧ (a * 6 + b).toInt < ((24 : Nat) : Int) := by omega
        have hx5 : (5 * a + b).toInt = 5 * a.toInt + b.toInt := idx5 (by omega) (by omega) (by omega) (by omega)
        have hb5 : 0 ≤ (5 * a + b).toInt ∧ (5 * a + b).toInt < ((20 : Nat) : Int) := by omega
        have hk5 : (5 * a + b).toNatClampNeg = 5 * a.toNatClampNeg + b.toInt.toNat := by rw [i32_nat, i32_nat, hx5]; omega
        have hk6 : (a * 6 + b).toNatClampNeg = 6 * a.toNatClampNeg + b.toInt.toNat := by rw [i32_nat, i32_nat, hx6]; omega
        have m8 : (0 ≤ b ∧ b ≤ μ 3 a.toNatClampNeg - 1) = True := eq_true (by constructor <;> (rw [i32_le]; omega))
        have hh : ∀ j : Nat, j < N → g j = (upd (μ 94) (5 * a + b).toNatClampNeg c (5 * a.toInt.toNat + j)).toInt := by
          intro j hj
          rw [hg, hk5]
          by_cases q : (j : Int) = b.toInt
          · rw [if_pos q, show 5 * a.toInt.toNat + j = 5 * a.toNatClampNeg + b.toInt.toNat by rw [i32_nat]; omega, upd_eq]
          · rw [if_neg q, upd_ne _ _ (by rw [i32_nat]; omega)]
            have w := (g5 a.toNatClampNeg j hSn (by omega)).1
            rw [i32_nat] at w
            rw [w]
        have MM : ∀ μ1 : zMu, μ1 93 = μ 93 → μ1 94 = μ 94 → zF zT0 (d + 8) 189 [.ref 92, .int a, .int b, .int c] (zm len μ1 ν) = if zP g N ≤ 99999 then some (.int 1, zm len (if b = μ 3 a.toNatClampNeg - 1 then zup (zup (zup μ1 92 0 0) 94 (5 * a + b).toNatClampNeg c) 93 a.toNatClampNeg (μ 3 a.toNatClampNeg + 1) else zup (zup μ1 92 0 0) 94 (5 * a + b).toNatClampNeg c) ν) else some (.int 0, zm len (zup (zup (zup μ1 92 0 0) 94 (5 * a + b).toNatClampNeg c) 94 (5 * a + b).toNatClampNeg (μ 94 (5 * a + b).toNatClampNeg)) ν) := by
          intro μ1 e93 e94
          have er93 : (zup μ1 92 0 0) 93 = μ 3 := by rw [g1, ← e93]; rfl
          have er94 : (zup μ1 92 0 0) 94 = μ 94 := by rw [← e94]; rfl
          have f93 : (zup (zup μ1 92 0 0) 94 (5 * a + b).toNatClampNeg c) 93 = μ 3 := er93
          have f94 : (zup (zup μ1 92 0 0) 94 (5 * a + b).toNatClampNeg c) 94 = upd (μ 94) (5 * a + b).toNatClampNeg c := by rw [zup_self, er94]
          have W : ∀ n' : Int32, n'.toInt = N → ∃ r : Int64, zF zT0 (d + 6 + 1) 188 [.ref 92, .int a, .int n'] (zm len (zup (zup μ1 92 0 0) 94 (5 * a + b).toNatClampNeg c) ν) = some (.long r, zm len (zup (zup μ1 92 0 0) 94 (5 * a + b).toNatClampNeg c) ν) ∧ (r ≤ (99999 : Int64)) = (zP g N ≤ 99999) := by
            intro n' hn'
            obtain ⟨r, r1, r2⟩ := F_worth (d + 6) len (zup (zup μ1 92 0 0) 94 (5 * a + b).toNatClampNeg c) ν a n' hS4 (by omega) (fun j hj => by rw [f94, ← hh j (by omega)]; exact hg1 j (by omega))
            refine ⟨r, r1, ?_⟩
            have t9 : (99999 : Int64).toInt = 99999 := rfl
            rw [i64_le, r2, t9, f94, show n'.toInt.toNat = N by omega]
            rw [show zP (fun j => (upd (μ 94) (5 * a + b).toNatClampNeg c (5 * a.toInt.toNat + j)).toInt) N = zP g N from (zP_congr hh).symm]
          rw [B_X12_step]
          by_cases hbn : b = μ 3 a.toNatClampNeg - 1
          · have hbt : b.toInt = (μ 3 a.toNatClampNeg).toInt - 1 := by rw [hbn, hd1]
            have m7 : (b = μ 3 a.toNatClampNeg - 1) = True := eq_true hbn
            have m6 : (μ 3 a.toNatClampNeg = 6) = False := eq_false (by rw [i32_eq]; omega)
            obtain ⟨r, r1, r2⟩ := W (μ 3 a.toNatClampNeg) (by omega)
            simp only [F_X12_isSystem, B_X12_step_10, F_isIn, B_X12_step_27, B_X12_step_49, B_X12_step_103, B_X12_step_124, B_X12_step_171, B_X12_step_174, er93, er94, f93, s1, c0, c1, m6, m7, m8, hS, hb5, r1, r2, lg_cmp_le, zbl_some, zbi_some, zbi_none, zbi_ite, zb_ite0, zb_or, b01_0, b01_1, b10, or_true, true_or, if_true, if_false, and_self, and_true, true_and, not_true_eq_false, not_false_eq_true]
          · have m7 : (b = μ 3 a.toNatClampNeg - 1) = False := eq_false hbn
            have hbt : b.toInt ≠ (μ 3 a.toNatClampNeg).toInt - 1 := by intro q; apply hbn; rw [i32_eq]; omega
            obtain ⟨r, r1, r2⟩ := W (μ 3 a.toNatClampNeg - 1) (by omega)
            simp only [F_X12_isSystem, B_X12_step_10, F_isIn, B_X12_step_27, B_X12_step_49, B_X12_step_103, B_X12_step_124, B_X12_step_171, B_X12_step_174, er93, er94, f93, s1, c0, c1, m7, m8, hS, hb5, r1, r2, lg_cmp_le, zbl_some, zbi_some, zbi_none, zbi_ite, zb_ite0, zb_or, b01_0, b01_1, b10, or_true, true_or, if_true, if_false, and_self, and_true, true_and, not_true_eq_false, not_false_eq_true]
        have hkA : (5 * a + b).toNatClampNeg = 5 * a.toNatClampNeg + b.toInt.toNat := hk5
        have hPP : zP (fun j => (upd (μ 94) (5 * a.toNatClampNeg + b.toInt.toNat) c (5 * a.toNatClampNeg + j)).toInt) N = zP g N := by
          refine zP_congr (fun j hj => ?_)
          rw [hh j hj, hk5]
          rfl
        have hold : ∀ j : Nat, j < N → j ≠ b.toInt.toNat → (j : Int) + 1 < (μ 3 a.toNatClampNeg).toInt := fun j hj hq => by omega
        by_cases c3 : zP g N ≤ 99999
        · refine ⟨1, zup (zup μ 4 (a * 6 + b).toNatClampNeg c) 3 a.toNatClampNeg (if μ 3 a.toNatClampNeg < b + 2 then b + 2 else μ 3 a.toNatClampNeg), _, ?_, (MM (zup (zup μ 4 (a * 6 + b).toNatClampNeg c) 3 a.toNatClampNeg (if μ 3 a.toNatClampNeg < b + 2 then b + 2 else μ 3 a.toNatClampNeg)) rfl rfl).trans (if_pos c3), ?_, ?_⟩
          · rw [B_X11_step]
            simp only [B_X5_setStep, F_X5_isSystem, B_X5_setStep_4, F_within, B_X5_setStep_37, B_X5_setStep_51, FS, B_X5_setStep_61, B_X5_slot, B_X5_setStep_75, B_X11_step_10, s1, c0, c1, c2, c3, hS, hb6, zbi_some, zbi_none, zbi_ite, zb_ite0, zb_or, b01_0, b01_1, b10, or_true, true_or, if_true, if_false, and_self, and_true, true_and, not_true_eq_false, not_false_eq_true]
          · have hb2 : (b + 2).toInt = b.toInt + 2 := by rw [i32_add] <;> omega
            have hn1 : (μ 3 a.toNatClampNeg + 1).toInt = (μ 3 a.toNatClampNeg).toInt + 1 := by rw [i32_add] <;> omega
            by_cases hbn : b = μ 3 a.toNatClampNeg - 1
            · have hbt : b.toInt = (μ 3 a.toNatClampNeg).toInt - 1 := by rw [hbn, hd1]
              rw [if_pos hbn]
              show Rnum (upd (μ 3) a.toNatClampNeg _) (upd (μ 93) a.toNatClampNeg _) (upd (μ 4) _ c) (upd (μ 94) _ c) (μ 5) (μ 95)
              rw [hk5, hk6, if_pos (show μ 3 a.toNatClampNeg < b + 2 by rw [i32_lt]; omega), show b + 2 = μ 3 a.toNatClampNeg + 1 by rw [i32_eq]; omega]
              exact Rnum_set hR hSn (by omega) (by omega) (N := N) (by omega) (by omega) (by omega) hold (by rw [hPP]; exact c3)
            · have hbt : b.toInt ≠ (μ 3 a.toNatClampNeg).toInt - 1 := by intro q; apply hbn; rw [i32_eq]; omega
              rw [if_neg hbn]
              show Rnum (upd (μ 3) a.toNatClampNeg _) (μ 93) (upd (μ 4) _ c) (upd (μ 94) _ c) (μ 5) (μ 95)
              have e93 : μ 93 = upd (μ 93) a.toNatClampNeg (μ 3 a.toNatClampNeg) := by rw [g1, upd_self_eq]
              rw [hk5, hk6, if_neg (show ¬ μ 3 a.toNatClampNeg < b + 2 by rw [i32_lt]; omega), e93]
              exact Rnum_set hR hSn (by omega) (by omega) (N := N) (by omega) (by omega) (by omega) hold (by rw [hPP]; exact c3)
          · by_cases hbn : b = μ 3 a.toNatClampNeg - 1
            · rw [if_pos hbn]
              exact zfr_up (zfr_up (zfr_92 (zfr_up (zfr_up (zfr_rf _ _ _) (by decide) (by decide)) (by decide) (by decide)) (by decide)) (by decide) (by decide)) (by decide) (by decide)
            · rw [if_neg hbn]
              exact zfr_up (zfr_92 (zfr_up (zfr_up (zfr_rf _ _ _) (by decide) (by decide)) (by decide) (by decide)) (by decide)) (by decide) (by decide)
        · refine ⟨0, μ, _, ?_, (MM μ rfl rfl).trans (if_neg c3), ?_, ?_⟩
          · rw [B_X11_step]
            simp only [B_X5_setStep, F_X5_isSystem, B_X5_setStep_4, F_within, B_X5_setStep_37, B_X5_setStep_51, FS, B_X5_setStep_61, B_X11_step_10, s1, c0, c1, c2, c3, hS, hb6, zbi_some, zbi_none, zbi_ite, zb_ite0, zb_or, b01_0, b01_1, b10, or_true, true_or, if_true, if_false, and_self, and_true, true_and, not_true_eq_false, not_false_eq_true]
          · show Rnum (μ 3) (μ 93) (μ 4) (upd (upd (μ 94) _ c) _ (μ 94 _)) (μ 5) (μ 95)
            rw [upd_back]
            exact hR
          · exact zfr_up (zfr_up (zfr_92 (zfr_rf _ _ _) (by decide)) (by decide) (by decide)) (by decide) (by decide)
      · refine ⟨0, μ, zup μ 92 0 0, ?_, ?_, hR, zfr_92 (zfr_rf _ _ _) (by decide)⟩
        · rw [B_X11_step]
          simp only [B_X5_setStep, F_X5_isSystem, B_X5_setStep_4, F_within, B_X5_setStep_37, B_X5_setStep_51, B_X11_step_10, s1, c0, c1, c2, hS, zbi_some, zbi_none, zbi_ite, zb_ite0, zb_or, b01_0, b01_1, b10, or_true, true_or, if_true, if_false, and_self, and_true, true_and, not_true_eq_false, not_false_eq_true]
        · rw [B_X12_step]
          have er93 : (zup μ 92 0 0) 93 = μ 93 := rfl
          by_cases m1 : 0 ≤ b ∧ b ≤ μ 3 a.toNatClampNeg - 1
          · have m3 : ¬ b ≤ (if 4 < μ 3 a.toNatClampNeg - 1 then 4 else μ 3 a.toNatClampNeg - 1) := fun q => c2 ⟨m1.1, q⟩
            have m4 := m1.2
            rw [i32_le] at m3 m4
            have m5 : (μ 3 a.toNatClampNeg).toInt = 6 ∧ b.toInt = 5 := by
              by_cases q : 4 < μ 3 a.toNatClampNeg - 1
              · rw [if_pos q] at m3
                omega
              · rw [if_neg q] at m3
                omega
            have m6 : (μ 3 a.toNatClampNeg = 6) = True := eq_true (by rw [i32_eq]; omega)
            have m7 : (b = μ 3 a.toNatClampNeg - 1) = True := eq_true (by rw [i32_eq]; omega)
            have m8 : (0 ≤ b ∧ b ≤ μ 3 a.toNatClampNeg - 1) = True := eq_true m1
            simp only [F_X12_isSystem, B_X12_step_10, F_isIn, B_X12_step_27, B_X12_step_49, B_X12_step_103, ← g1, er93, s1, c0, c1, m6, m7, m8, hS, zbi_some, zbi_none, zbi_ite, zb_ite0, zb_or, b01_0, b01_1, b10, or_true, true_or, if_true, if_false, and_self, and_true, true_and, not_true_eq_false, not_false_eq_true]
          · simp only [F_X12_isSystem, B_X12_step_10, F_isIn, B_X12_step_27, ← g1, er93, s1, c0, c1, m1, hS, zbi_some, zbi_none, zbi_ite, zb_ite0, zb_or, b01_0, b01_1, b10, or_true, true_or, if_true, if_false, and_self, and_true, true_and, not_true_eq_false, not_false_eq_true]
    · refine ⟨0, μ, zup μ 92 0 0, ?_, ?_, hR, zfr_92 (zfr_rf _ _ _) (by decide)⟩
      · rw [B_X11_step]
        simp only [B_X5_setStep, F_X5_isSystem, B_X5_setStep_4, F_within, B_X5_setStep_37, B_X11_step_10, s1, c0, c1, hS, zbi_some, zbi_none, zbi_ite, zb_ite0, zb_or, b01_0, b01_1, b10, or_true, true_or, if_true, if_false, and_self, and_true, true_and, not_true_eq_false, not_false_eq_true]
      · rw [B_X12_step]
        have er93 : (zup μ 92 0 0) 93 = μ 93 := rfl
        simp only [F_X12_isSystem, B_X12_step_10, F_isIn, B_X12_step_27, B_X12_step_49, B_X12_step_103, ← g1, er93, s1, c0, c1, hS, zbi_some, zbi_none, zbi_ite, zb_ite0, zb_or, b01_0, b01_1, b10, or_true, true_or, if_true, if_false, and_self, and_true, true_and, not_true_eq_false, not_false_eq_true, ite_self]
  · refine ⟨0, μ, zup μ 92 0 0, ?_, ?_, hR, zfr_92 (zfr_rf _ _ _) (by decide)⟩
    · rw [B_X11_step]
      simp only [B_X5_setStep, F_X5_isSystem, B_X5_setStep_4, B_X11_step_10, c0, zbi_some, zbi_none, zbi_ite, zb_ite0, zb_or, b01_0, b01_1, b10, or_true, true_or, if_true, if_false, and_self, and_true, true_and, not_true_eq_false, not_false_eq_true]
    · rw [B_X12_step]
      simp only [F_X12_isSystem, B_X12_step_10, c0, zbi_some, zbi_none, zbi_ite, zb_ite0, zb_or, b01_0, b01_1, b10, or_true, true_or, if_true, if_false, and_self, and_true, true_and, not_true_eq_false, not_false_eq_true]
theorem ag_step (d len : Nat) (μ : zMu) (ν : zNu) (a b c : Int32) (h : RnumM μ) : ∃ (v : Int32) (μ1 μ2 : zMu), zF zT0 (d + 8) 137 [.ref 1, .int a, .int b, .int c] (zm len μ ν) = some (.int v, zm len μ1 ν) ∧ zF zT0 (d + 8) 189 [.ref 92, .int a, .int b, .int c] (zm len μ1 ν) = some (.int v, zm len μ2 ν) ∧ RnumM μ2 ∧ zfr [3, 4, 93, 94] [0] μ μ2 := by
  by_cases hx : c = 0
  · obtain ⟨v, μ1, μ2, h1, h2, h3, h4⟩ := ag_step0 d len μ ν a b c hx h
    refine ⟨v, μ1, μ2, h1, h2, h3, fun r hr h92 => h4.1 r (fun q => hr ?_) h92, h4.2⟩
    revert q
    simp only [List.mem_cons, List.not_mem_nil, or_false]
    omega
  · exact ag_step1 d len μ ν a b c hx h
