/-! TABLET: the class's call and the model's, up to the reading -/
theorem F_rd7 (call : zC) (len : Nat) (ν : zNu) : ∀ c g : Nat, g + c = 8 → ∀ X : zMu, (∀ j, j < g → X 18 j = zi (-1)) → ∃ X', zE zc_X1_read call 7 [.ref 11, .int (zi (g : Int))] [] (zm len X ν) = zE zc_X1_read call 28 [.ref 11, .int (zi 0)] [] (zm len X' ν) ∧ (∀ j, j < 8 → X' 18 j = zi (-1)) ∧ ∀ r, r ≠ 18 → X' r = X r := by
  intro c
  induction c with
  | zero =>
    intro g hg X hX
    have : g = 8 := by omega
    subst this
    refine ⟨X, ?_, hX, fun _ _ => rfl⟩
    rw [B_X1_read_7]
    simp (disch := omega) only [zbi_some, zbl_some, zbv_some, zbi_none, zbl_none, zbv_none, zbi_ite, zbl_ite, zbv_ite, zbZ, zbO, zc_lt, zc_le, zc_ge, zc_gt, zc_eq, zk0, zk1, zk2, zk3, zk4, zk5, zk6, zk7, zk8, zk9, zk10, zk11, zk12, zk14, zk15, zk16, zk17, zk19, zk20, zk21, zk24, zk25, zk30, zk32, zk36, zk40, zk45, zk50, zk64, zk97, zk99, zk100, zk102, zk122, zk128, zk255, zk800, zk801, zk900, zk999, zk1000, zk1997, zk9999, zk10000, zk100000, zk99999, zk9999999, zk999999999, zk2147483647, zlc0, zlc1, zlc2, zlc3, zlc4, zlc23, zlc99, zlc100, zlc9999999, zlc999999999999, zlc1073741824, zi_neg, zi_add, zi_sub, zi_mul, zl_neg, zl_add, zl_sub, zl_mul, zi_toInt, zi_nat, zi_le, zi_lt, zi_eq, zl_le, zl_lt, zl_eq, zl_toInt, zl_of32, zi_of64, zi_div, zl_div, zmodI, ↓reduceIte, zTle, zFle, zTlt, zFlt, zTeq, zFeq, if_true, if_false, and_self, and_true, true_and, and_false, false_and, or_self, or_true, true_or, or_false, false_or, not_true_eq_false, not_false_eq_true, zcastA, zcastL, znatC, zab, Int.reduceAdd, Int.reduceSub, Int.reduceMul, Int.reduceNeg, Int.reduceToNat, Nat.reduceAdd]
  | succ c ih =>
    intro g hg X hX
    have zm1 : (-1 : Int32) = zi (-1) := rfl
    obtain ⟨X1, hX1⟩ : ∃ X1, X1 = zup X 18 g (zi (-1)) := ⟨_, rfl⟩
    obtain ⟨X2, B, B1, B2⟩ := ih (g + 1) (by omega) X1 (fun j hj => by
      rw [hX1]
      by_cases z : j = g
      · subst z
        simp (disch := omega) only [zup_at, upd_eq, upd_ne, ne_eq, Nat.reduceEqDiff, ↓reduceIte, if_true, if_false]
      · simp (disch := omega) only [zup_at, upd_eq, upd_ne, ne_eq, Nat.reduceEqDiff, ↓reduceIte, if_true, if_false]
        exact hX j (by omega))
    refine ⟨X2, ?_, B1, fun r hr => by rw [B2 r hr, hX1, zup_ne _ _ _ hr]⟩
    rw [← B, hX1, B_X1_read_7]
    simp (disch := omega) only [zm1, zbi_some, zbl_some, zbv_some, zbi_none, zbl_none, zbv_none, zbi_ite, zbl_ite, zbv_ite, zbZ, zbO, zc_lt, zc_le, zc_ge, zc_gt, zc_eq, zk0, zk1, zk2, zk3, zk4, zk5, zk6, zk7, zk8, zk9, zk10, zk11, zk12, zk14, zk15, zk16, zk17, zk19, zk20, zk21, zk24, zk25, zk30, zk32, zk36, zk40, zk45, zk50, zk64, zk97, zk99, zk100, zk102, zk122, zk128, zk255, zk800, zk801, zk900, zk999, zk1000, zk1997, zk9999, zk10000, zk100000, zk99999, zk9999999, zk999999999, zk2147483647, zlc0, zlc1, zlc2, zlc3, zlc4, zlc23, zlc99, zlc100, zlc9999999, zlc999999999999, zlc1073741824, zi_neg, zi_add, zi_sub, zi_mul, zl_neg, zl_add, zl_sub, zl_mul, zi_toInt, zi_nat, zi_le, zi_lt, zi_eq, zl_le, zl_lt, zl_eq, zl_toInt, zl_of32, zi_of64, zi_div, zl_div, zmodI, ↓reduceIte, zTle, zFle, zTlt, zFlt, zTeq, zFeq, if_true, if_false, and_self, and_true, true_and, and_false, false_and, or_self, or_true, true_or, or_false, false_or, not_true_eq_false, not_false_eq_true, zcastA, zcastL, znatC, zab, Int.reduceAdd, Int.reduceSub, Int.reduceMul, Int.reduceNeg, Int.reduceToNat, Nat.reduceAdd]
theorem F_rt2 (call : zC) (len : Nat) (ν : zNu) : ∀ c g : Nat, g + c = 8 → ∀ Y : zMu, (∀ j, j < g → Y 110 j = zi 0 ∧ Y 111 j = zi 0) → ∃ Y', zE zc_X12_readTablet call 2 [.ref 92, .int (zi (g : Int))] [] (zm len Y ν) = zbv (call 201 [.ref 92] (zm len (zup Y' 92 7 (zi 0)) ν)) (fun M' => zE zc_X12_readTablet call 39 [.ref 92, .int (zi 0)] [] M') ∧ (∀ j, j < 8 → Y' 110 j = zi 0 ∧ Y' 111 j = zi 0) ∧ ∀ r, r ≠ 110 → r ≠ 111 → Y' r = Y r := by
  intro c
  induction c with
  | zero =>
    intro g hg Y hY
    have : g = 8 := by omega
    subst this
    refine ⟨Y, ?_, hY, fun _ _ _ => rfl⟩
    rw [B_X12_readTablet_2]
    simp (disch := omega) only [zbi_some, zbl_some, zbv_some, zbi_none, zbl_none, zbv_none, zbi_ite, zbl_ite, zbv_ite, zbZ, zbO, zc_lt, zc_le, zc_ge, zc_gt, zc_eq, zk0, zk1, zk2, zk3, zk4, zk5, zk6, zk7, zk8, zk9, zk10, zk11, zk12, zk14, zk15, zk16, zk17, zk19, zk20, zk21, zk24, zk25, zk30, zk32, zk36, zk40, zk45, zk50, zk64, zk97, zk99, zk100, zk102, zk122, zk128, zk255, zk800, zk801, zk900, zk999, zk1000, zk1997, zk9999, zk10000, zk100000, zk99999, zk9999999, zk999999999, zk2147483647, zlc0, zlc1, zlc2, zlc3, zlc4, zlc23, zlc99, zlc100, zlc9999999, zlc999999999999, zlc1073741824, zi_neg, zi_add, zi_sub, zi_mul, zl_neg, zl_add, zl_sub, zl_mul, zi_toInt, zi_nat, zi_le, zi_lt, zi_eq, zl_le, zl_lt, zl_eq, zl_toInt, zl_of32, zi_of64, zi_div, zl_div, zmodI, ↓reduceIte, zTle, zFle, zTlt, zFlt, zTeq, zFeq, if_true, if_false, and_self, and_true, true_and, and_false, false_and, or_self, or_true, true_or, or_false, false_or, not_true_eq_false, not_false_eq_true, zcastA, zcastL, znatC, zab, Int.reduceAdd, Int.reduceSub, Int.reduceMul, Int.reduceNeg, Int.reduceToNat, Nat.reduceAdd]
  | succ c ih =>
    intro g hg Y hY
    obtain ⟨Y1, hY1⟩ : ∃ Y1, Y1 = zup (zup Y 110 g (zi 0)) 111 g (zi 0) := ⟨_, rfl⟩
    obtain ⟨Y2, B, B1, B2⟩ := ih (g + 1) (by omega) Y1 (fun j hj => by
      rw [hY1]
      by_cases z : j = g
      · subst z
        refine ⟨?_, ?_⟩
        · simp (disch := omega) only [zup_at, upd_eq, upd_ne, ne_eq, Nat.reduceEqDiff, ↓reduceIte, if_true, if_false]
        · simp (disch := omega) only [zup_at, upd_eq, upd_ne, ne_eq, Nat.reduceEqDiff, ↓reduceIte, if_true, if_false]
      · obtain ⟨a, b⟩ := hY j (by omega)
        refine ⟨?_, ?_⟩
        · simp (disch := omega) only [zup_at, upd_eq, upd_ne, ne_eq, Nat.reduceEqDiff, ↓reduceIte, if_true, if_false]
          exact a
        · simp (disch := omega) only [zup_at, upd_eq, upd_ne, ne_eq, Nat.reduceEqDiff, ↓reduceIte, if_true, if_false]
          exact b)
    refine ⟨Y2, ?_, B1, fun r h0 h1 => by rw [B2 r h0 h1, hY1, zup_ne _ _ _ h1, zup_ne _ _ _ h0]⟩
    rw [← B, hY1, B_X12_readTablet_2]
    simp (disch := omega) only [zbi_some, zbl_some, zbv_some, zbi_none, zbl_none, zbv_none, zbi_ite, zbl_ite, zbv_ite, zbZ, zbO, zc_lt, zc_le, zc_ge, zc_gt, zc_eq, zk0, zk1, zk2, zk3, zk4, zk5, zk6, zk7, zk8, zk9, zk10, zk11, zk12, zk14, zk15, zk16, zk17, zk19, zk20, zk21, zk24, zk25, zk30, zk32, zk36, zk40, zk45, zk50, zk64, zk97, zk99, zk100, zk102, zk122, zk128, zk255, zk800, zk801, zk900, zk999, zk1000, zk1997, zk9999, zk10000, zk100000, zk99999, zk9999999, zk999999999, zk2147483647, zlc0, zlc1, zlc2, zlc3, zlc4, zlc23, zlc99, zlc100, zlc9999999, zlc999999999999, zlc1073741824, zi_neg, zi_add, zi_sub, zi_mul, zl_neg, zl_add, zl_sub, zl_mul, zi_toInt, zi_nat, zi_le, zi_lt, zi_eq, zl_le, zl_lt, zl_eq, zl_toInt, zl_of32, zi_of64, zi_div, zl_div, zmodI, ↓reduceIte, zTle, zFle, zTlt, zFlt, zTeq, zFeq, if_true, if_false, and_self, and_true, true_and, and_false, false_and, or_self, or_true, true_or, or_false, false_or, not_true_eq_false, not_false_eq_true, zcastA, zcastL, znatC, zab, Int.reduceAdd, Int.reduceSub, Int.reduceMul, Int.reduceNeg, Int.reduceToNat, Nat.reduceAdd]
/-- what the class's reading of a TABLET leaves alone -/
def frCt (μ M : zMu) : Prop := ∀ r, r ≠ 6 → (r < 8 ∨ 26 < r) → M r = μ r
theorem F_has9 (d len : Nat) {k : Nat} (hk : k < 12) (μ : zMu) (ν : zNu) : zF zT0 (d + 2) 111 [.ref 27, .int (zi (k : Int))] (zm len μ ν) = some (.int (zi 1), zm len μ ν) := by
  rw [B_X9_has]
  simp (disch := omega) only [B_X11_within, B_X9_has_7, zbi_some, zbl_some, zbv_some, zbi_none, zbl_none, zbv_none, zbi_ite, zbl_ite, zbv_ite, zbZ, zbO, zc_lt, zc_le, zc_ge, zc_gt, zc_eq, zk0, zk1, zk2, zk3, zk4, zk5, zk6, zk7, zk8, zk9, zk10, zk11, zk12, zk14, zk15, zk16, zk17, zk19, zk20, zk21, zk24, zk25, zk30, zk32, zk36, zk40, zk45, zk50, zk64, zk97, zk99, zk100, zk102, zk122, zk128, zk255, zk800, zk801, zk900, zk999, zk1000, zk1997, zk9999, zk10000, zk100000, zk99999, zk9999999, zk999999999, zk2147483647, zlc0, zlc1, zlc2, zlc3, zlc4, zlc23, zlc99, zlc100, zlc9999999, zlc999999999999, zlc1073741824, zi_neg, zi_add, zi_sub, zi_mul, zl_neg, zl_add, zl_sub, zl_mul, zi_toInt, zi_nat, zi_le, zi_lt, zi_eq, zl_le, zl_lt, zl_eq, zl_toInt, zl_of32, zi_of64, zi_div, zl_div, zmodI, ↓reduceIte, zTle, zFle, zTlt, zFlt, zTeq, zFeq, if_true, if_false, and_self, and_true, true_and, and_false, false_and, or_self, or_true, true_or, or_false, false_or, not_true_eq_false, not_false_eq_true, zcastA, zcastL, znatC, zab, Int.reduceAdd, Int.reduceSub, Int.reduceMul, Int.reduceNeg, Int.reduceToNat, Nat.reduceAdd]
theorem LV_0 (ln : Nat → Ln) : LV ln 0 := ⟨fun i hi => by omega, fun _ => Nat.zero_le 2⟩
def ln00 : Nat → Ln := fun _ => (0, 0, 0, 0, [])
section TC
variable {g : Nat → Int} {L K : Nat} {pl nn : Nat → Nat} {ty va : Nat → Int} {sy sn : Nat → Nat} {st : Nat → Nat → Int}
/-- the class's call, up to the reading -/
theorem tab_c0 (d len : Nat) (μ : zMu) (ν : zNu) (S : Strm g L K pl nn ty va) (hL : L ≤ 800) (hg : ∀ i, 0 ≤ g i ∧ g i ≤ 255) (e7 : ∀ i, μ 7 i = zi (g i)) (e1 : μ 6 1 = zi (L : Int)) (hX : NX sy sn st μ) {k : Nat} (hk : k < 12) : ∃ X : zMu, zF zT0 (d + 40) 143 [.ref 1, .int (zi (k : Int))] (zm len μ ν) = zbi (zE zc_X1_read (zF zT0 (d + 38)) 28 [.ref 11, .int (zi 0)] [] (zm len X ν)) (fun w' M' => zE zc_X11_tablet (zF zT0 (d + 39)) 25 [.ref 1, .int (zi (k : Int))] [.int w'] M') ∧ CPb K pl ty va sy sn st ln00 0 0 X ∧ X 6 1 = zi 0 ∧ frCt μ X := by
  obtain ⟨c, a, b, p, hsp, ⟨c1, c5, c6, c7, c8⟩, hT⟩ := F_split (d + 31) len μ ν g L K pl nn ty va hL hg e7 e1 S
  obtain ⟨X, hX0, x18, xr⟩ := F_rd7 (zF zT0 (d + 38)) len ν 8 0 (by omega) (zup (M4 μ c a b p) 11 2 (zi 0)) (fun j hj => by omega)
  have row : ∀ r, r ≠ 6 → r ≠ 8 → r ≠ 9 → r ≠ 10 → r ≠ 11 → r ≠ 18 → X r = μ r := fun r h6 h8 h9 h10 h11 h18 => by
    rw [xr r h18, zup_ne _ _ _ h11]
    show zrw (zrw (zrw (zrw μ 6 c) 8 a) 9 b) 10 p r = μ r
    rw [zrw_n _ _ h10, zrw_n _ _ h9, zrw_n _ _ h8, zrw_n _ _ h6]
  have x6 : X 6 = c := by rw [xr 6 (by decide)]; rfl
  have x8 : X 8 = a := by rw [xr 8 (by decide)]; rfl
  have x9 : X 9 = b := by rw [xr 9 (by decide)]; rfl
  have x10 : X 10 = p := by rw [xr 10 (by decide)]; rfl
  have x11 : X 11 2 = zi 0 := by
    rw [xr 11 (by decide)]
    simp (disch := omega) only [zup_at, upd_eq, upd_ne, ne_eq, Nat.reduceEqDiff, ↓reduceIte, if_true, if_false]
  have hs : zF zT0 (d + 39) 111 [.ref 27, .int (zi (k : Int))] (zm len (M4 μ c a b p) ν) = some (.int (zi 1), zm len (M4 μ c a b p) ν) := F_has9 (d + 37) len hk _ ν
  have hsp : zF zT0 (d + 39) 120 [.ref 6] (zm len μ ν) = some (.null, zm len (M4 μ c a b p) ν) := hsp
  have hX0 : zE zc_X1_read (zF zT0 (d + 38)) 7 [.ref 11, .int (zi 0)] [] (zm len (zup (M4 μ c a b p) 11 2 (zi 0)) ν) = _ := hX0
  refine ⟨X, ?_, ⟨⟨?_, ?_, ?_, ?_, ?_⟩, ⟨fun g hg => ?_, fun s hs => ?_, fun s i hs hi => ?_⟩, ?_, fun i hi => by omega, fun g hg => ?_, fun b hb => by omega⟩, by rw [x6]; exact c1, fun r h6 hr => row r h6 (by omega) (by omega) (by omega) (by omega) (by omega)⟩
  · rw [B_X11_tablet]
    simp (disch := omega) only [hsp, B_X11_tablet_7, hs, B_X11_tablet_15, B_X1_read, zbi_some, zbl_some, zbv_some, zbi_none, zbl_none, zbv_none, zbi_ite, zbl_ite, zbv_ite, zbZ, zbO, zc_lt, zc_le, zc_ge, zc_gt, zc_eq, zk0, zk1, zk2, zk3, zk4, zk5, zk6, zk7, zk8, zk9, zk10, zk11, zk12, zk14, zk15, zk16, zk17, zk19, zk20, zk21, zk24, zk25, zk30, zk32, zk36, zk40, zk45, zk50, zk64, zk97, zk99, zk100, zk102, zk122, zk128, zk255, zk800, zk801, zk900, zk999, zk1000, zk1997, zk9999, zk10000, zk100000, zk99999, zk9999999, zk999999999, zk2147483647, zlc0, zlc1, zlc2, zlc3, zlc4, zlc23, zlc99, zlc100, zlc9999999, zlc999999999999, zlc1073741824, zi_neg, zi_add, zi_sub, zi_mul, zl_neg, zl_add, zl_sub, zl_mul, zi_toInt, zi_nat, zi_le, zi_lt, zi_eq, zl_le, zl_lt, zl_eq, zl_toInt, zl_of32, zi_of64, zi_div, zl_div, zmodI, ↓reduceIte, zTle, zFle, zTlt, zFlt, zTeq, zFeq, if_true, if_false, and_self, and_true, true_and, and_false, false_and, or_self, or_true, true_or, or_false, false_or, not_true_eq_false, not_false_eq_true, zcastA, zcastL, znatC, zab, Int.reduceAdd, Int.reduceSub, Int.reduceMul, Int.reduceNeg, Int.reduceToNat, Nat.reduceAdd]
    rw [hX0]
  · show TSr (K + 1) pl ty va (X 8) (X 9) (X 10)
    rw [x8, x9, x10]
    exact hT
  · rw [x6]; exact c5
  · rw [x6]; exact c6
  · rw [x6]; exact c7
  · rw [x6]; exact c8
  · rw [row 5 (by decide) (by decide) (by decide) (by decide) (by decide) (by decide)]; exact hX.1 g hg
  · rw [row 3 (by decide) (by decide) (by decide) (by decide) (by decide) (by decide)]; exact hX.2.1 s hs
  · rw [row 4 (by decide) (by decide) (by decide) (by decide) (by decide) (by decide)]; exact hX.2.2 s i hs hi
  · exact x11
  · exact x18 g hg
/-- the class's call where the reading comes through -/
theorem tab_c1 (d len : Nat) (μ : zMu) (ν : zNu) {ln : Nat → Ln} {n : Nat} (hn : n ≤ 24) (hV : LV ln n) {M : zMu} (hP : CPb K pl ty va sy sn st ln n K M) {k : Nat} (hk : k < 12) (x : Int32) : ∃ M' : zMu, zbi (zE zc_X1_read (zF zT0 (d + 38)) 59 [.ref 11, .int x] [] (zm len M ν)) (fun w' M' => zE zc_X11_tablet (zF zT0 (d + 39)) 25 [.ref 1, .int (zi (k : Int))] [.int w'] M') = some (.int (zi (n : Int)), zm len (keepM M' ln n k n (M' 1 11)) ν) ∧ ∀ r, (r < 11 ∨ 26 < r) → M' r = M r := by
  obtain ⟨hT, hX, hD⟩ := hP
  obtain ⟨M1, A, A1, A2, A3⟩ := F_all (d + 34) len ν hV hn n 0 (by omega) M hD (fun c hc => by omega)
  have A : zE zc_X1_read (zF zT0 (d + 38)) 61 [.ref 11, .int (zi 0)] [] (zm len M ν) = some (.int (zi 1), zm len M1 ν) := A
  have B := F_keep (d + 35) len ν hn A1 A2 hk (M1 1 11) (fun μ => F_has9 (d + 36) len hk μ ν)
  have B : zF zT0 (d + 39) 112 [.ref 27, .int (zi (k : Int)), .ref 11, .int (M1 1 11)] (zm len M1 ν) = some (.null, zm len (keepM M1 ln n k n (M1 1 11)) ν) := B
  refine ⟨M1, ?_, fun r hr => A3 r (by omega) (by omega) (by omega)⟩
  have k11 : keepM M1 ln n k n (M1 1 11) 11 = M1 11 := by
    unfold keepM
    rw [zrw_n _ _ (by decide), zrw_n _ _ (by decide), zrw_n _ _ (by decide), zrw_n _ _ (by decide), zrw_n _ _ (by decide), zup_ne _ _ _ (by decide), zup_ne _ _ _ (by decide)]
  have e11 : keepM M1 ln n k n (M1 1 11) 11 2 = zi (n : Int) := by rw [k11]; exact A1.1
  have zz : (0 : Int32) = zi 0 := rfl
  rw [B_X1_read_59, zz, A, zbi_some, B_X11_tablet_25, if_neg zz_10, B, zbv_some, B_X11_tablet_46, e11]
/-- the model's call, up to the reading -/
theorem tab_m0 (d len : Nat) (Y : zMu) (ν : zNu) (S : Strm g L K pl nn ty va) (hL : L ≤ 800) (hg : ∀ i, 0 ≤ g i ∧ g i ≤ 255) (hY : CcY g Y) (hN : NY sy sn st Y) (e6 : Y 92 6 = zi (L : Int)) {k : Nat} (hk : k < 12) : ∃ (Y' : zMu) (r : Nat → Int32), zF zT0 (d + 40) 220 [.ref 92, .int (zi (k : Int))] (zm len Y ν) = zbi (zE zc_X12_readTablet (zF zT0 (d + 38)) 39 [.ref 92, .int (zi 0)] [] (zm len (zrw Y' 92 r) ν)) (fun w' M' => zE zc_X12_tablet (zF zT0 (d + 39)) 32 [.ref 92, .int (zi (k : Int)), .int (zi 1), zU, zU, zU, zU, zU] [.int w'] M') ∧ NPb g L pl nn ty va sy sn st ln00 0 0 Y' ν r ∧ r 14 = zi 0 ∧ r 15 = zi (-1) ∧ (∀ i, i ≠ 0 → i ≠ 7 → i ≠ 8 → i ≠ 9 → i ≠ 10 → i ≠ 14 → i ≠ 15 → r i = Y 92 i) ∧ ∀ r, r ≠ 92 → r ≠ 110 → r ≠ 111 → Y' r = Y r := by
  obtain ⟨Y0, hY0⟩ : ∃ Y0, Y0 = zup (zup (zup Y 92 0 (zi 0)) 92 14 (zi 0)) 92 15 (zi (-1)) := ⟨_, rfl⟩
  obtain ⟨Y1, A, A1, A2⟩ := F_rt2 (zF zT0 (d + 38)) len ν 8 0 (by omega) Y0 (fun j hj => by omega)
  have A : zE zc_X12_readTablet (zF zT0 (d + 38)) 2 [.ref 92, .int (zi 0)] [] (zm len Y0 ν) = _ := A
  have row : ∀ r, r ≠ 92 → r ≠ 110 → r ≠ 111 → Y1 r = Y r := fun r h h0 h1 => by
    rw [A2 r h0 h1, hY0, zup_ne _ _ _ h, zup_ne _ _ _ h, zup_ne _ _ _ h]
  obtain ⟨r0, hr0⟩ : ∃ r0, r0 = upd (upd (upd (upd (Y 92) 0 (zi 0)) 14 (zi 0)) 15 (zi (-1))) 7 (zi 0) := ⟨_, rfl⟩
  have e0 : zup Y1 92 7 (zi 0) = zrw Y1 92 r0 := by
    rw [zup_rw, A2 92 (by decide) (by decide), hY0, hr0]
    rfl
  have hYc : CcY g Y1 := ⟨fun i => by rw [row 96 (by decide) (by decide) (by decide)]; exact hY.1 i, fun i hi => by rw [row 97 (by decide) (by decide) (by decide)]; exact hY.2 i hi⟩
  obtain ⟨r, N, R1, R2⟩ := F_tkn (d + 35) len Y1 ν g L K pl nn ty va hL hg hYc.1 hYc.2 S 0 (Nat.zero_le _) r0 (by rw [hr0]; exact e6) (by rw [hr0]; rfl)
  have N : zF zT0 (d + 38) 201 [.ref 92] (zm len (zrw Y1 92 r0) ν) = some (.null, zm len (zrw Y1 92 r) ν) := N
  refine ⟨Y1, r, ?_, ⟨hYc, ⟨fun x hx => ?_, fun x hx => ?_, fun x i hx hi => ?_⟩, ?_, R1, fun i hi => by omega, fun g hg => ?_⟩, ?_, ?_, fun i i0 i7 i8 i9 i10 i14 i15 => ?_, row⟩
  · have zm1 : (-1 : Int32) = zi (-1) := rfl
    have zz : (0 : Int32) = zi 0 := rfl
    have e184 : zF zT0 (d + 39) 184 [.ref 92, .int (zi (k : Int)), .int (zi 0), .int (zi 11)] (zm len Y0 ν) = some (.int (zi 1), zm len Y0 ν) := by
      rw [B_X12_isIn]
      simp (disch := omega) only [zbi_some, zbl_some, zbv_some, zbi_none, zbl_none, zbv_none, zbi_ite, zbl_ite, zbv_ite, zbZ, zbO, zc_lt, zc_le, zc_ge, zc_gt, zc_eq, zk0, zk1, zk2, zk3, zk4, zk5, zk6, zk7, zk8, zk9, zk10, zk11, zk12, zk14, zk15, zk16, zk17, zk19, zk20, zk21, zk24, zk25, zk30, zk32, zk36, zk40, zk45, zk50, zk64, zk97, zk99, zk100, zk102, zk122, zk128, zk255, zk800, zk801, zk900, zk999, zk1000, zk1997, zk9999, zk10000, zk100000, zk99999, zk9999999, zk999999999, zk2147483647, zlc0, zlc1, zlc2, zlc3, zlc4, zlc23, zlc99, zlc100, zlc9999999, zlc999999999999, zlc1073741824, zi_neg, zi_add, zi_sub, zi_mul, zl_neg, zl_add, zl_sub, zl_mul, zi_toInt, zi_nat, zi_le, zi_lt, zi_eq, zl_le, zl_lt, zl_eq, zl_toInt, zl_of32, zi_of64, zi_div, zl_div, zmodI, ↓reduceIte, zTle, zFle, zTlt, zFlt, zTeq, zFeq, if_true, if_false, and_self, and_true, true_and, and_false, false_and, or_self, or_true, true_or, or_false, false_or, not_true_eq_false, not_false_eq_true, zcastA, zcastL, znatC, zab, Int.reduceAdd, Int.reduceSub, Int.reduceMul, Int.reduceNeg, Int.reduceToNat, Nat.reduceAdd]
    rw [hY0] at e184
    rw [B_X12_tablet]
    simp (disch := omega) only [zm1, e184, B_X12_tablet_23, B_X12_readTablet, zbi_some, zbl_some, zbv_some, zbi_none, zbl_none, zbv_none, zbi_ite, zbl_ite, zbv_ite, zbZ, zbO, zc_lt, zc_le, zc_ge, zc_gt, zc_eq, zk0, zk1, zk2, zk3, zk4, zk5, zk6, zk7, zk8, zk9, zk10, zk11, zk12, zk14, zk15, zk16, zk17, zk19, zk20, zk21, zk24, zk25, zk30, zk32, zk36, zk40, zk45, zk50, zk64, zk97, zk99, zk100, zk102, zk122, zk128, zk255, zk800, zk801, zk900, zk999, zk1000, zk1997, zk9999, zk10000, zk100000, zk99999, zk9999999, zk999999999, zk2147483647, zlc0, zlc1, zlc2, zlc3, zlc4, zlc23, zlc99, zlc100, zlc9999999, zlc999999999999, zlc1073741824, zi_neg, zi_add, zi_sub, zi_mul, zl_neg, zl_add, zl_sub, zl_mul, zi_toInt, zi_nat, zi_le, zi_lt, zi_eq, zl_le, zl_lt, zl_eq, zl_toInt, zl_of32, zi_of64, zi_div, zl_div, zmodI, ↓reduceIte, zTle, zFle, zTlt, zFlt, zTeq, zFeq, if_true, if_false, and_self, and_true, true_and, and_false, false_and, or_self, or_true, true_or, or_false, false_or, not_true_eq_false, not_false_eq_true, zcastA, zcastL, znatC, zab, Int.reduceAdd, Int.reduceSub, Int.reduceMul, Int.reduceNeg, Int.reduceToNat, Nat.reduceAdd]
    rw [← hY0, A, e0, N, zbv_some]
  · rw [row 95 (by decide) (by decide) (by decide)]; exact hN.1 x hx
  · rw [row 93 (by decide) (by decide) (by decide)]; exact hN.2.1 x hx
  · rw [row 94 (by decide) (by decide) (by decide)]; exact hN.2.2 x i hx hi
  · rw [R2 6 (by decide) (by decide) (by decide) (by decide), hr0]; exact e6
  · exact A1 g hg
  · rw [R2 14 (by decide) (by decide) (by decide) (by decide), hr0]; rfl
  · rw [R2 15 (by decide) (by decide) (by decide) (by decide), hr0]; rfl
  · rw [R2 i i7 i8 i9 i10, hr0, upd_ne _ _ i7, upd_ne _ _ i15, upd_ne _ _ i14, upd_ne _ _ i0]
end TC
/-! the spans of a BLOCK stay ints -/
section SB
variable {ln : Nat → Ln} {n b : Nat}
theorem PI_stp (hV : LV ln n) (hc : clF ln b n = 1) {x y : Int} (hx : 0 ≤ x ∧ x ≤ 99) (hy : 0 ≤ y ∧ y ≤ 99) {S : Stt} (hP : PI ln n b S) : PI ln n b (stp ln n b x y S) := by
  by_cases f : 0 ≤ dueF ln n b x y ∧ dueF ln n b x y ≤ h0B ln n b
  · exact (PI_s hV hc hx hy f hP).1
  · rw [stp_nf hc f S]
    exact hP
theorem PI_fY (hV : LV ln n) (hc : clF ln b n = 1) {x : Int} (hx : 0 ≤ x ∧ x ≤ 99) {S : Stt} (hP : PI ln n b S) : ∀ y : Nat, y ≤ 100 → PI ln n b (fY ln n b x y S)
  | 0, _ => hP
  | y + 1, hy => PI_stp hV hc hx ⟨by omega, by omega⟩ (PI_fY hV hc hx hP y (by omega))
theorem PI_fX (hV : LV ln n) (hc : clF ln b n = 1) {S : Stt} (hP : PI ln n b S) : ∀ x : Nat, x ≤ 100 → PI ln n b (fX ln n b x S)
  | 0, _ => hP
  | x + 1, hx => PI_fY hV hc ⟨by omega, by omega⟩ (PI_fX hV hc hP x (by omega)) _ (by have := mW_b hV b 1; omega)
theorem SF_bd (hV : LV ln n) {j : Nat} (hj : j < n) : (-1 ≤ (SF ln n (bkF ln j)).2.1 j ∧ (SF ln n (bkF ln j)).2.1 j ≤ 2147483647) ∧ -1 ≤ (SF ln n (bkF ln j)).2.2 j ∧ (SF ln n (bkF ln j)).2.2 j ≤ 2147483647 := by
  rcases clF_01 ln (bkF ln j) n with c | c
  · obtain ⟨_, s2, s3⟩ := SF_open (b := bkF ln j) hV c hj
    have w0 := mW_b hV (bkF ln j) 0
    have w1 := mW_b hV (bkF ln j) 1
    have v := vlM_b hV (bkF ln j) hj (x := mW (mkF ln (bkF ln j) n) 0) (y := mW (mkF ln (bkF ln j) n) 1) w0 w1
    have u := (hV.1 j hj).2.2.2.1
    rw [s2, s3]
    unfold hvF
    by_cases z : (j : Int) = loF ln (bkF ln j) n
    · rw [if_pos z]
      omega
    · rw [if_neg z]
      omega
  · have w0 := mW_b hV (bkF ln j) 0
    have P : PI ln n (bkF ln j) (SF ln n (bkF ln j)) := PI_fX hV c (PI_0 hV) _ (by omega)
    exact (P.2 j hj rfl).2.2
end SB
