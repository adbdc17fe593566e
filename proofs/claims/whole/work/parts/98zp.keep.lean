/-! ASSEMBLY: what a call leaves alone keeps its relation -/
def dj (a b : List Nat) : Bool := a.all (fun x => !b.contains x)
theorem dj_n {a b : List Nat} (h : dj a b = true) {x : Nat} (hx : x ∈ a) : x ∉ b := by
  have := List.all_eq_true.mp h x hx
  simpa using this
theorem frq_r {C D : List Nat} {μ μ' : zMu} (f : zfr C D μ μ') {a : List Nat} (h : dj a (92 :: C) = true) {x : Nat} (hx : x ∈ a) : μ' x = μ x := by
  have n := dj_n h hx
  rw [List.mem_cons, not_or] at n
  exact f.1 x n.2 n.1
theorem frq_s {C D : List Nat} {μ μ' : zMu} (f : zfr C D μ μ') {a : List Nat} (h : dj a D = true) {x : Nat} (hx : x ∈ a) : μ' 92 x = μ 92 x := f.2 x (dj_n h hx)
theorem k_num {C D : List Nat} {μ μ' : zMu} (f : zfr C D μ μ') (h : dj [3, 93, 4, 94, 5, 95] (92 :: C) = true) (R : RnumM μ) : RnumM μ' := by
  show Rnum (μ' 3) (μ' 93) (μ' 4) (μ' 94) (μ' 5) (μ' 95)
  rw [frq_r f h (x := 3) (by decide), frq_r f h (x := 93) (by decide), frq_r f h (x := 4) (by decide), frq_r f h (x := 94) (by decide), frq_r f h (x := 5) (by decide), frq_r f h (x := 95) (by decide)]
  exact R
theorem k_now {C D : List Nat} {μ μ' : zMu} (f : zfr C D μ μ') (h : dj [1] (92 :: C) = true) (h2 : dj [1] D = true) (R : RnowM μ) : RnowM μ' := by
  show Rnow (μ' 1 11) (μ' 92 1)
  rw [frq_s f h2 (x := 1) (by decide), frq_r f h (x := 1) (by decide)]
  exact R
theorem k_txt {C D : List Nat} {μ μ' : zMu} (f : zfr C D μ μ') (h : dj [6, 7, 96] (92 :: C) = true) (h2 : dj [6] D = true) (R : RtxtM μ) : RtxtM μ' := by
  show Rtxt (μ' 6 1) (μ' 92 6) (μ' 7) (μ' 96)
  rw [frq_s f h2 (x := 6) (by decide), frq_r f h (x := 6) (by decide), frq_r f h (x := 7) (by decide), frq_r f h (x := 96) (by decide)]
  exact R
theorem k_wrd {C D : List Nat} {μ μ' : zMu} (f : zfr C D μ μ') (h : dj [97] (92 :: C) = true) (R : RwrdM μ) : RwrdM μ' := by
  intro i hi
  rw [frq_r f h (x := 97) (by decide)]
  exact R i hi
theorem k_flt {C D : List Nat} {μ μ' : zMu} (f : zfr C D μ μ') (h : dj [6] (92 :: C) = true) (h2 : dj [14, 15] D = true) (R : RfltM μ) : RfltM μ' := by
  show μ' 6 7 = μ' 92 14 ∧ μ' 6 8 = μ' 92 15
  rw [frq_s f h2 (x := 14) (by decide), frq_s f h2 (x := 15) (by decide), frq_r f h (x := 6) (by decide)]
  exact R
theorem k_tab {C D : List Nat} {μ μ' : zMu} {ν ν' : zNu} (f : zfr C D μ μ') (h : dj [28, 99, 29, 98, 30, 100, 31, 101, 34, 109, 32, 33] (92 :: C) = true) (n7 : ν' 107 = ν 107) (n8 : ν' 108 = ν 108) (R : RtabM μ ν) : RtabM μ' ν' := by
  show Rtab (μ' 28) (μ' 99) (μ' 29) (μ' 98) (μ' 30) (μ' 100) (μ' 31) (μ' 101) (μ' 34) (μ' 109) (μ' 32) (μ' 33) (ν' 107) (ν' 108)
  rw [frq_r f h (x := 28) (by decide), frq_r f h (x := 99) (by decide), frq_r f h (x := 29) (by decide), frq_r f h (x := 98) (by decide), frq_r f h (x := 30) (by decide), frq_r f h (x := 100) (by decide), frq_r f h (x := 31) (by decide), frq_r f h (x := 101) (by decide), frq_r f h (x := 34) (by decide), frq_r f h (x := 109) (by decide), frq_r f h (x := 32) (by decide), frq_r f h (x := 33) (by decide), n7, n8]
  exact R
theorem k_bal {C D : List Nat} {μ μ' : zMu} {t : Nat} (f : zfr C D μ μ') (h : dj [36, 37, 38, 39, 40, 41, 117, 122, 121, 118, 119, 120, 123, 124] (92 :: C) = true) (h2 : dj [44, 45, 46, 47, 48] D = true) (R : RballM t μ) : RballM t μ' := by
  show Rball t (μ' 36) (μ' 37) (μ' 38) (μ' 39) (μ' 40) (μ' 41) (μ' 117) (μ' 122) (μ' 121) (μ' 118) (μ' 119) (μ' 120) (μ' 92 44) (μ' 92 45) (μ' 92 46) (μ' 92 47) (μ' 92 48) (μ' 123) (μ' 124)
  rw [frq_s f h2 (x := 44) (by decide), frq_s f h2 (x := 45) (by decide), frq_s f h2 (x := 46) (by decide), frq_s f h2 (x := 47) (by decide), frq_s f h2 (x := 48) (by decide), frq_r f h (x := 36) (by decide), frq_r f h (x := 37) (by decide), frq_r f h (x := 38) (by decide), frq_r f h (x := 39) (by decide), frq_r f h (x := 40) (by decide), frq_r f h (x := 41) (by decide), frq_r f h (x := 117) (by decide), frq_r f h (x := 122) (by decide), frq_r f h (x := 121) (by decide), frq_r f h (x := 118) (by decide), frq_r f h (x := 119) (by decide), frq_r f h (x := 120) (by decide), frq_r f h (x := 123) (by decide), frq_r f h (x := 124) (by decide)]
  exact R
theorem k_sea {C D : List Nat} {μ μ' : zMu} (f : zfr C D μ μ') (h : dj [45, 46, 126] (92 :: C) = true) (h2 : dj [52] D = true) (R : RsealM μ) : RsealM μ' := by
  show Rseal (μ' 45 0) (μ' 92 52) (μ' 46) (μ' 126)
  rw [frq_s f h2 (x := 52) (by decide), frq_r f h (x := 45) (by decide), frq_r f h (x := 46) (by decide), frq_r f h (x := 126) (by decide)]
  exact R
theorem k_fra {C D : List Nat} {μ μ' : zMu} (f : zfr C D μ μ') (h : dj [51, 52, 129, 53, 130, 54, 131] (92 :: C) = true) (h2 : dj [56] D = true) (R : RfragM μ) : RfragM μ' := by
  show Rfrag (μ' 51 0) (μ' 92 56) (μ' 52) (μ' 129) (μ' 53) (μ' 130) (μ' 54) (μ' 131)
  rw [frq_s f h2 (x := 56) (by decide), frq_r f h (x := 51) (by decide), frq_r f h (x := 52) (by decide), frq_r f h (x := 129) (by decide), frq_r f h (x := 53) (by decide), frq_r f h (x := 130) (by decide), frq_r f h (x := 54) (by decide), frq_r f h (x := 131) (by decide)]
  exact R
theorem k_rul {C D : List Nat} {μ μ' : zMu} (f : zfr C D μ μ') (h : dj [57, 58, 59, 60, 61, 138, 139, 140, 141, 142, 143, 144] (92 :: C) = true) (h2 : dj [67] D = true) (R : RrulM μ) : RrulM μ' := by
  show Rrul (μ' 57 1) (μ' 92 67) (μ' 58) (μ' 59) (μ' 60) (μ' 61) (μ' 138) (μ' 139) (μ' 140) (μ' 141) (μ' 142) (μ' 143) (μ' 144)
  rw [frq_s f h2 (x := 67) (by decide), frq_r f h (x := 57) (by decide), frq_r f h (x := 58) (by decide), frq_r f h (x := 59) (by decide), frq_r f h (x := 60) (by decide), frq_r f h (x := 61) (by decide), frq_r f h (x := 138) (by decide), frq_r f h (x := 139) (by decide), frq_r f h (x := 140) (by decide), frq_r f h (x := 141) (by decide), frq_r f h (x := 142) (by decide), frq_r f h (x := 143) (by decide), frq_r f h (x := 144) (by decide)]
  exact R
theorem k_ppl {C D : List Nat} {μ μ' : zMu} (f : zfr C D μ μ') (h : dj [67, 68, 134, 69, 135, 70, 137, 72, 148, 71, 136] (92 :: C) = true) (h2 : dj [62] D = true) (R : RpplM μ) : RpplM μ' := by
  show Rppl (μ' 67 1) (μ' 92 62) (μ' 68) (μ' 134) (μ' 69) (μ' 135) (μ' 70) (μ' 137) (μ' 72) (μ' 148) (μ' 71) (μ' 136)
  rw [frq_s f h2 (x := 62) (by decide), frq_r f h (x := 67) (by decide), frq_r f h (x := 68) (by decide), frq_r f h (x := 134) (by decide), frq_r f h (x := 69) (by decide), frq_r f h (x := 135) (by decide), frq_r f h (x := 70) (by decide), frq_r f h (x := 137) (by decide), frq_r f h (x := 72) (by decide), frq_r f h (x := 148) (by decide), frq_r f h (x := 71) (by decide), frq_r f h (x := 136) (by decide)]
  exact R
theorem k_flk {C D : List Nat} {μ μ' : zMu} (f : zfr C D μ μ') (h : dj [74, 75, 149, 76, 150, 77, 151, 78, 152, 79, 153, 80, 154] (92 :: C) = true) (h2 : dj [83, 84, 85, 88] D = true) (R : RflockM μ) : RflockM μ' := by
  show Rflock (μ' 74 0) (μ' 74 1) (μ' 74 2) (μ' 74 5) (μ' 92 83) (μ' 92 84) (μ' 92 85) (μ' 92 88) (μ' 75) (μ' 149) (μ' 76) (μ' 150) (μ' 77) (μ' 151) (μ' 78) (μ' 152) (μ' 79) (μ' 153) (μ' 80) (μ' 154)
  rw [frq_s f h2 (x := 83) (by decide), frq_s f h2 (x := 84) (by decide), frq_s f h2 (x := 85) (by decide), frq_s f h2 (x := 88) (by decide), frq_r f h (x := 74) (by decide), frq_r f h (x := 75) (by decide), frq_r f h (x := 149) (by decide), frq_r f h (x := 76) (by decide), frq_r f h (x := 150) (by decide), frq_r f h (x := 77) (by decide), frq_r f h (x := 151) (by decide), frq_r f h (x := 78) (by decide), frq_r f h (x := 152) (by decide), frq_r f h (x := 79) (by decide), frq_r f h (x := 153) (by decide), frq_r f h (x := 80) (by decide), frq_r f h (x := 154) (by decide)]
  exact R
theorem k_loa {C D : List Nat} {μ μ' : zMu} (f : zfr C D μ μ') (h : dj [82, 83, 157, 84, 165, 85, 159, 86, 160, 87, 158, 88, 161, 89, 162, 90, 163, 91, 164] (92 :: C) = true) (h2 : dj [96, 100] D = true) (R : RloanM μ) : RloanM μ' := by
  show Rloan (μ' 82 2) (μ' 82 6) (μ' 92 96) (μ' 92 100) (μ' 83) (μ' 157) (μ' 84) (μ' 165) (μ' 85) (μ' 159) (μ' 86) (μ' 160) (μ' 87) (μ' 158) (μ' 88) (μ' 161) (μ' 89) (μ' 162) (μ' 90) (μ' 163) (μ' 91) (μ' 164)
  rw [frq_s f h2 (x := 96) (by decide), frq_s f h2 (x := 100) (by decide), frq_r f h (x := 82) (by decide), frq_r f h (x := 83) (by decide), frq_r f h (x := 157) (by decide), frq_r f h (x := 84) (by decide), frq_r f h (x := 165) (by decide), frq_r f h (x := 85) (by decide), frq_r f h (x := 159) (by decide), frq_r f h (x := 86) (by decide), frq_r f h (x := 160) (by decide), frq_r f h (x := 87) (by decide), frq_r f h (x := 158) (by decide), frq_r f h (x := 88) (by decide), frq_r f h (x := 161) (by decide), frq_r f h (x := 89) (by decide), frq_r f h (x := 162) (by decide), frq_r f h (x := 90) (by decide), frq_r f h (x := 163) (by decide), frq_r f h (x := 91) (by decide), frq_r f h (x := 164) (by decide)]
  exact R
/-- all that binds the class to the reference, after t calls -/
def Rel (t : Nat) (μ : zMu) (ν : zNu) : Prop := RnumM μ ∧ RnowM μ ∧ RtxtM μ ∧ RwrdM μ ∧ RfltM μ ∧ RtabM μ ν ∧ RballM t μ ∧ RsealM μ ∧ RfragM μ ∧ RrulM μ ∧ RpplM μ ∧ RshoM ν ∧ RflockM μ ∧ RloanM μ
theorem Rel_S (t : Nat) (μ : zMu) (ν : zNu) (h : Rel t μ ν) : Rel (t + 1) μ ν := by
  obtain ⟨r_num, r_now, r_txt, r_wrd, r_flt, r_tab, r_bal, r_sea, r_fra, r_rul, r_ppl, r_sho, r_flk, r_loa⟩ := h
  exact ⟨r_num, r_now, r_txt, r_wrd, r_flt, r_tab, Rball_S r_bal, r_sea, r_fra, r_rul, r_ppl, r_sho, r_flk, r_loa⟩
theorem ag_seal8 (d len : Nat) (μ : zMu) (ν : zNu) (h : RsealM μ) : ∃ (v : Int32) (μ1 μ2 : zMu), zF zT0 (d + 8) 152 [.ref 1] (zm len μ ν) = some (.int v, zm len μ1 ν) ∧ zF zT0 (d + 8) 233 [.ref 92] (zm len μ1 ν) = some (.int v, zm len μ2 ν) ∧ RsealM μ2 ∧ zfr [45] [0, 52] μ μ2 := by
  obtain ⟨v, μ1, μ2, A, B, C, F⟩ := ag_seal d len μ ν h
  exact ⟨v, μ1, μ2, ((x_seal (d + 6) len μ ν).trans (x_seal d len μ ν).symm).trans A, ((m_seal (d + 7) len μ1 ν).trans (m_seal d len μ1 ν).symm).trans B, C, F⟩
theorem ag_over8 (d len : Nat) (μ : zMu) (ν : zNu) (a b : Int32) (h : RsealM μ) : ∃ (v : Int32) (μ1 μ2 : zMu), zF zT0 (d + 8) 153 [.ref 1, .int a, .int b] (zm len μ ν) = some (.int v, zm len μ1 ν) ∧ zF zT0 (d + 8) 234 [.ref 92, .int a, .int b] (zm len μ1 ν) = some (.int v, zm len μ2 ν) ∧ RsealM μ2 ∧ zfr [46, 126] [0] μ μ2 := by
  obtain ⟨v, μ1, μ2, A, B, C, F⟩ := ag_over d len μ ν a b h
  exact ⟨v, μ1, μ2, ((x_over (d + 4) len μ ν a b).trans (x_over d len μ ν a b).symm).trans A, ((m_over (d + 6) len μ1 ν a b).trans (m_over d len μ1 ν a b).symm).trans B, C, F⟩
theorem ag_end2 (d len : Nat) (μ : zMu) (ν : zNu) (a : Int32) (h : RtxtM μ) : ∃ (v : Int32) (μ1 μ2 : zMu), zF zT0 (d + 8) 142 [.ref 1, .int a] (zm len μ ν) = some (.int v, zm len μ1 ν) ∧ zF zT0 (d + 8) 195 [.ref 92, .int a] (zm len μ1 ν) = some (.int v, zm len μ2 ν) ∧ RtxtM μ2 ∧ zfr [6] [0, 6] μ μ2 ∧ ∀ j, j ≠ 1 → μ2 6 j = μ 6 j := by
  have hR := h
  obtain ⟨g1, g2, g3, g4, g5⟩ := h
  by_cases hall : 0 ≤ a ∧ a ≤ μ 6 1
  · have c1 := hall
    refine ⟨1, (zup μ 6 1 a), (zup (zup (zup μ 6 1 a) 92 0 0) 92 6 a), ?_, ?_, ?_, ?_, fun j hj => upd_ne _ _ hj⟩
    · rw [B_X11_end]
      simp only [B_X10_cut, F_within, B_X10_cut_9, B_X11_end_8, c1, zbi_some, zbi_none, zbi_ite, zb_ite0, zb_or, b01_0, b01_1, b10, zrdS, zrdN, upd_eq, upd_ne, ne_eq, Nat.reduceEqDiff, or_true, true_or, if_true, if_false, and_self, and_true, true_and, not_true_eq_false, not_false_eq_true]
      all_goals rfl
    · rw [B_X12_end]
      have er92_6 : (zup (zup μ 6 1 a) 92 0 0) 92 6 = μ 92 6 := rfl
      simp only [F_isIn, B_X12_end_15, ← g1, er92_6, c1, zbi_some, zbi_none, zbi_ite, zb_ite0, zb_or, b01_0, b01_1, b10, zrdS, zrdN, upd_eq, upd_ne, ne_eq, Nat.reduceEqDiff, or_true, true_or, if_true, if_false, and_self, and_true, true_and, not_true_eq_false, not_false_eq_true]
      all_goals rfl
    · show Rtxt a a (μ 7) (μ 96)
      have k1 := c1.1
      have k2 := c1.2
      rw [i32_le] at k1 k2
      have t0 : (0 : Int32).toInt = 0 := rfl
      exact ⟨rfl, by omega, by omega, g4, g5⟩
    · exact zfr_92 (zfr_92 (zfr_up (zfr_rf _ _ _) (by decide) (by decide)) (by decide)) (by decide)
  · refine ⟨0, μ, zup μ 92 0 0, ?_, ?_, hR, zfr_92 (zfr_rf _ _ _) (by decide), fun _ _ => rfl⟩
    · rw [B_X11_end]
      by_cases c1 : 0 ≤ a ∧ a ≤ μ 6 1 <;> try simp only [B_X10_cut, F_within, B_X10_cut_9, B_X11_end_8, c1, zbi_some, zbi_none, zbi_ite, zb_ite0, zb_or, b01_0, b01_1, b10, zrdS, zrdN, upd_eq, upd_ne, ne_eq, Nat.reduceEqDiff, or_true, true_or, if_true, if_false, and_self, and_true, true_and, not_true_eq_false, not_false_eq_true]
      exact absurd c1 hall
    · rw [B_X12_end]
      have er92_6 : (zup μ 92 0 0) 92 6 = μ 92 6 := rfl
      by_cases c1 : 0 ≤ a ∧ a ≤ μ 6 1 <;> try simp only [F_isIn, B_X12_end_15, ← g1, er92_6, c1, zbi_some, zbi_none, zbi_ite, zb_ite0, zb_or, b01_0, b01_1, b10, zrdS, zrdN, upd_eq, upd_ne, ne_eq, Nat.reduceEqDiff, or_true, true_or, if_true, if_false, and_self, and_true, true_and, not_true_eq_false, not_false_eq_true]
      exact absurd c1 hall
