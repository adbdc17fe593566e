/-! TABLET: all BLOCKS, the model's -/
theorem LV_le {ln : Nat → Ln} {n : Nat} (h : LV ln n) {m : Nat} (hm : m ≤ n) : LV ln m := by
  refine ⟨fun i hi => h.1 i (by omega), fun b => ?_⟩
  have mono : ∀ d, (mkF ln b m).length ≤ (mkF ln b (m + d)).length := fun d => by
    induction d with
    | zero => exact Nat.le_refl _
    | succ d ih =>
      have e : mkF ln b (m + (d + 1)) = mkF ln b (m + d) ++ (if bkF ln (m + d) = b then (ln (m + d)).2.2.2.2.map (fun p => (m + d, p)) else []) := mkF_S ln b (m + d)
      rw [e, List.length_append]
      omega
  have a := mono (n - m)
  rw [show m + (n - m) = n by omega] at a
  have := h.2 b
  omega
theorem SF_n {ln : Nat → Ln} {n m b : Nat} (h1 : mkF ln b n = mkF ln b m) (h2 : loF ln b n = loF ln b m) (h3 : toF ln b n = toF ln b m) (h4 : clF ln b n = clF ln b m) : SF ln n b = SF ln m b := by
  have e1 : ∀ j x, sgM ln n b j x = sgM ln m b j x := fun j x => by unfold sgM; rw [h1]
  have e2 : ∀ x y, dueT ln n b x y = dueT ln m b x y := fun x y => by unfold dueT; rw [h3, e1, e1]
  have e3 : ∀ x y, dueF ln n b x y = dueF ln m b x y := fun x y => by unfold dueF; rw [h2, e2]
  have e4 : ∀ p x y, vlM ln n b p x y = vlM ln m b p x y := fun p x y => by unfold vlM; rw [h1]
  have e5 : h0B ln n b = h0B ln m b := by unfold h0B; rw [h2]
  have e6 : ∀ x y, loB ln n b x y = loB ln m b x y := fun x y => by unfold loB; rw [h4, e3]
  have e7 : ∀ x y, hiB ln n b x y = hiB ln m b x y := fun x y => by unfold hiB; rw [h4, e3, e5]
  have e8 : ∀ x y S, stp ln n b x y S = stp ln m b x y S := fun x y S => by unfold stp; rw [h1, h2, e6, e7, e4, e4]
  have e9 : ∀ x y S, fY ln n b x y S = fY ln m b x y S := fun x y S => by
    induction y with
    | zero => rfl
    | succ y ih =>
      show stp ln n b x (y : Int) (fY ln n b x y S) = stp ln m b x (y : Int) (fY ln m b x y S)
      rw [ih, e8]
  have e10 : ∀ x S, fX ln n b x S = fX ln m b x S := fun x S => by
    induction x with
    | zero => rfl
    | succ x ih =>
      show fY ln n b (x : Int) ((mW (mkF ln b n) 1).toNat + 1) (fX ln n b x S) = fY ln m b (x : Int) ((mW (mkF ln b m) 1).toNat + 1) (fX ln m b x S)
      rw [ih, e9, h1]
  have e11 : lo0 ln n b = lo0 ln m b := by
    funext j
    show (if ((j : Int) = loF ln b n ∨ (j : Int) = mL (mkF ln b n) 0 ∨ (j : Int) = mL (mkF ln b n) 1) then (2147483647 : Int) else (ln j).2.2.2.1) = (if ((j : Int) = loF ln b m ∨ (j : Int) = mL (mkF ln b m) 0 ∨ (j : Int) = mL (mkF ln b m) 1) then (2147483647 : Int) else (ln j).2.2.2.1)
    rw [h1, h2]
  have e12 : hi0 ln n b = hi0 ln m b := by
    funext j
    show (if ((j : Int) = loF ln b n ∨ (j : Int) = mL (mkF ln b n) 0 ∨ (j : Int) = mL (mkF ln b n) 1) then (-1 : Int) else (ln j).2.2.2.1) = (if ((j : Int) = loF ln b m ∨ (j : Int) = mL (mkF ln b m) 0 ∨ (j : Int) = mL (mkF ln b m) 1) then (-1 : Int) else (ln j).2.2.2.1)
    rw [h1, h2]
  show fX ln n b ((mW (mkF ln b n) 0).toNat + 1) (0, lo0 ln n b, hi0 ln n b) = fX ln m b ((mW (mkF ln b m) 0).toNat + 1) (0, lo0 ln m b, hi0 ln m b)
  rw [e11, e12, e10, h1]
/-- an open BLOCK isn't closed -/
theorem cl_o (ln : Nat → Ln) (b : Nat) : ∀ (n : Nat) (g : Int), obF ln n g = (b : Int) → clF ln b n = 0
  | 0, _, _ => rfl
  | n + 1, g, h => by
    rw [obF_S] at h
    rw [clF_S]
    by_cases c : g = (ln n).2.1
    · rw [if_pos c] at h
      by_cases s : (ln n).1 = 2
      · rw [if_pos s] at h
        omega
      · rw [if_neg s] at h
        have hb : bkF ln n = b := by omega
        rw [if_neg (fun q => s q.2)]
        have bi := bkF_i ln n
        by_cases z : obF ln n (ln n).2.1 = -1
        · rw [if_pos z] at bi
          exact clF_0 ln b n (by omega)
        · rw [if_neg z] at bi
          exact cl_o ln b n (ln n).2.1 (by omega)
    · rw [if_neg c] at h
      have ih := cl_o ln b n g h
      have r := obF_r ln n g
      rw [if_neg (fun q => ?_)]
      · exact ih
      · have bi := bkF_i ln n
        have ob := (obF_b ln n g (by omega)).2
        have hb : (obF ln n g).toNat = b := by omega
        rw [hb] at ob
        have h2 := (bkF_b ln n).2
        rw [q.1, ob] at h2
        exact c h2
def frK (ln : Nat → Ln) (n o : Nat) (g : Int) (Y Y' : zMu) (ν ν' : zNu) : Prop := (∀ r, r ≠ 92 → r ≠ 109 → r ≠ 112 → r ≠ 113 → r ≠ 115 → Y' r = Y r) ∧ (∀ i, i ≠ 31 → i ≠ 35 → i ≠ 36 → Y' 92 i = Y 92 i) ∧ (∀ i, (i < o ∨ o + 24 ≤ i) → Y' 109 i = Y 109 i) ∧ (∀ r, r ≠ 107 → r ≠ 108 → r ≠ 114 → r ≠ 116 → ν' r = ν r) ∧ (∀ i, (i < o ∨ o + 24 ≤ i) → ν' 107 i = ν 107 i ∧ ν' 108 i = ν 108 i) ∧ ∀ j, j < n → (ln j).2.1 ≠ g → Y' 109 (o + j) = Y 109 (o + j) ∧ ν' 107 (o + j) = ν 107 (o + j) ∧ ν' 108 (o + j) = ν 108 (o + j)
theorem frK_rf (ln : Nat → Ln) (n o : Nat) (g : Int) (Y : zMu) (ν : zNu) : frK ln n o g Y Y ν ν := ⟨fun _ _ _ _ _ _ => rfl, fun _ _ _ _ => rfl, fun _ _ => rfl, fun _ _ _ _ _ => rfl, fun _ _ => ⟨rfl, rfl⟩, fun _ _ _ => ⟨rfl, rfl, rfl⟩⟩
theorem frK_tr {ln : Nat → Ln} {n o : Nat} {g : Int} {Y Y' Y'' : zMu} {ν ν' ν'' : zNu} (h : frK ln n o g Y Y' ν ν') (h2 : frK ln n o g Y' Y'' ν' ν'') : frK ln n o g Y Y'' ν ν'' := by
  obtain ⟨a1, a2, a3, a4, a5, a6⟩ := h
  obtain ⟨b1, b2, b3, b4, b5, b6⟩ := h2
  refine ⟨fun r p q s t u => (b1 r p q s t u).trans (a1 r p q s t u), fun i p q s => (b2 i p q s).trans (a2 i p q s), fun i p => (b3 i p).trans (a3 i p), fun r p q s t => (b4 r p q s t).trans (a4 r p q s t), fun i p => ⟨((b5 i p).1).trans (a5 i p).1, ((b5 i p).2).trans (a5 i p).2⟩, fun j p q => ?_⟩
  obtain ⟨c1, c2, c3⟩ := b6 j p q
  obtain ⟨d1, d2, d3⟩ := a6 j p q
  exact ⟨c1.trans d1, c2.trans d2, c3.trans d3⟩
theorem frK_W {ln : Nat → Ln} {n o N : Nat} {g : Int} {Q : Nat → Nat} {Y Y' : zMu} {ν ν' : zNu} (h : frW o Q N Y Y' ν ν') (hq : ∀ p, p < N → Q p < 24 ∧ (ln (Q p)).2.1 = g) : frK ln n o g Y Y' ν ν' := by
  obtain ⟨a1, a2, a3, a4, a5⟩ := h
  have ne : ∀ i, (i < o ∨ o + 24 ≤ i) → ∀ p, p < N → i ≠ o + Q p := fun i hi p hp => by
    have := (hq p hp).1
    omega
  have ne2 : ∀ j, (ln j).2.1 ≠ g → ∀ p, p < N → o + j ≠ o + Q p := fun j hj p hp q => by
    have e : j = Q p := by omega
    rw [e] at hj
    exact hj (hq p hp).2
  exact ⟨fun r p q _ t u => a1 r p q t u, fun i _ q s => a2 i q s, fun i p => a3 i (ne i p), fun r p q s t => a4 r p q s t, fun i p => a5 i (ne i p), fun j _ q => ⟨a3 _ (ne2 j q), (a5 _ (ne2 j q)).1, (a5 _ (ne2 j q)).2⟩⟩
theorem frK_m {ln : Nat → Ln} {n o : Nat} {g : Int} {Y Y' : zMu} (ν : zNu) (h1 : ∀ r, r ≠ 92 → r ≠ 112 → Y' r = Y r) (h2 : ∀ i, i ≠ 31 → Y' 92 i = Y 92 i) : frK ln n o g Y Y' ν ν := ⟨fun r p _ q _ _ => h1 r p q, fun i p _ _ => h2 i p, fun _ _ => by rw [h1 109 (by decide) (by decide)], fun _ _ _ _ _ => rfl, fun _ _ => ⟨rfl, rfl⟩, fun _ _ _ => ⟨by rw [h1 109 (by decide) (by decide)], rfl, rfl⟩⟩
theorem MlinO_K {ln : Nat → Ln} {n o : Nat} {g : Int} {Y Y' : zMu} {ν ν' : zNu} {i : Nat} (f : frK ln n o g Y Y' ν ν') (h : MlinO o Y ν ln i) : MlinO o Y' ν' ln i := by
  unfold MlinO
  rw [f.1 100 (by decide) (by decide) (by decide) (by decide) (by decide), f.1 101 (by decide) (by decide) (by decide) (by decide) (by decide), f.1 103 (by decide) (by decide) (by decide) (by decide) (by decide), f.1 104 (by decide) (by decide) (by decide) (by decide) (by decide), f.1 106 (by decide) (by decide) (by decide) (by decide) (by decide), f.2.2.2.1 102 (by decide) (by decide) (by decide) (by decide), f.2.2.2.1 105 (by decide) (by decide) (by decide) (by decide)]
  exact h
/-- a LINE of the TABLET, solved, the model's -/
def SolI (o : Nat) (ln : Nat → Ln) (n : Nat) (Y : zMu) (ν : zNu) (j : Nat) : Prop := Y 109 (o + j) = zi (fiF ln n (bkF ln j)) ∧ ((SF ln n (bkF ln j)).1 ≠ 0 → ν 107 (o + j) = zl ((SF ln n (bkF ln j)).2.1 j) ∧ ν 108 (o + j) = zl ((SF ln n (bkF ln j)).2.2 j))
theorem SolI_e {o : Nat} {ln : Nat → Ln} {n j : Nat} {Y Y' : zMu} {ν ν' : zNu} (h : SolI o ln n Y ν j) (e1 : Y' 109 (o + j) = Y 109 (o + j)) (e2 : ν' 107 (o + j) = ν 107 (o + j)) (e3 : ν' 108 (o + j) = ν 108 (o + j)) : SolI o ln n Y' ν' j := by
  unfold SolI
  rw [e1, e2, e3]
  exact h
section BL
variable {ln : Nat → Ln} {n k : Nat}
theorem bl_l (d len : Nat) (hk : k < 12) (hn : n ≤ 24) (hV : LV ln n) {g : Nat} (hg : g < 8) : ∀ c i : Nat, i + c = n → ∀ (Y : zMu) (ν : zNu) (N : Nat) (Q : Nat → Nat), Y 98 k = zi (n : Int) → (∀ j, j < n → MlinO (24 * k) Y ν ln j) → BI ln i (g : Int) N Q → Y 92 31 = zi (N : Int) → (∀ p, p < N → Y 112 p = zi ((24 * k + Q p : Nat) : Int)) → (∀ j, j < i → (ln j).2.1 = (g : Int) → (bkF ln j : Int) ≠ obF ln i (g : Int) → SolI (24 * k) ln n Y ν j) → ∃ (Y' : zMu) (ν' : zNu), zE zc_X12_blocks (zF zT0 (d + 5)) 18 [.ref 92, .int (zi (k : Int)), .int (zi (g : Int)), .int (zi (24 * (k : Int) + (i : Int)))] [] (zm len Y ν) = zE zc_X12_blocks (zF zT0 (d + 5)) 107 [.ref 92, .int (zi (k : Int)), .int (zi (g : Int)), .int (zi (24 * (k : Int) + (n : Int)))] [] (zm len Y' ν') ∧ (∀ j, j < n → (ln j).2.1 = (g : Int) → SolI (24 * k) ln n Y' ν' j) ∧ frK ln n (24 * k) (g : Int) Y Y' ν ν' := by
  intro c
  induction c with
  | zero =>
    intro i hi Y ν N Q e98 hM hB e31 h112 hS
    have : i = n := by omega
    subst this
    rcases hB with ⟨o1, rfl⟩ | ⟨b, o1, hN1, hB⟩
    · refine ⟨Y, ν, ?_, fun j hj hg => hS j hj hg (by omega), frK_rf ln i (24 * k) (g : Int) Y ν⟩
      have e31 : Y 92 31 = zi 0 := e31
      rw [B_X12_blocks_18]
      simp (disch := omega) only [e98, e31, zbi_some, zbl_some, zbv_some, zbi_none, zbl_none, zbv_none, zbi_ite, zbl_ite, zbv_ite, zbZ, zbO, zc_lt, zc_le, zc_ge, zc_gt, zc_eq, zk0, zk1, zk2, zk3, zk4, zk5, zk6, zk7, zk8, zk9, zk10, zk11, zk12, zk14, zk15, zk16, zk17, zk19, zk20, zk21, zk24, zk25, zk30, zk32, zk36, zk40, zk45, zk50, zk64, zk97, zk99, zk100, zk102, zk122, zk128, zk255, zk800, zk801, zk900, zk999, zk1000, zk1997, zk9999, zk10000, zk100000, zk99999, zk9999999, zk999999999, zk2147483647, zlc0, zlc1, zlc2, zlc3, zlc4, zlc23, zlc99, zlc100, zlc9999999, zlc999999999999, zlc1073741824, zi_neg, zi_add, zi_sub, zi_mul, zl_neg, zl_add, zl_sub, zl_mul, zi_toInt, zi_nat, zi_le, zi_lt, zi_eq, zl_le, zl_lt, zl_eq, zl_toInt, zl_of32, zi_of64, zi_div, zl_div, zmodI, ↓reduceIte, zTle, zFle, zTlt, zFlt, zTeq, zFeq, if_true, if_false, and_self, and_true, true_and, and_false, false_and, or_self, or_true, true_or, or_false, false_or, not_true_eq_false, not_false_eq_true, zcastA, zcastL, znatC, zab, Int.reduceAdd, Int.reduceSub, Int.reduceMul, Int.reduceNeg, Int.reduceToNat, Nat.reduceAdd]
    · have hN := hB.2.2.2.2.2.2.2
      have hW : WP (24 * k) Y ν ln Q N := ⟨e31, fun p hp => ⟨h112 p hp, by have := (hB.1 p hp).1; omega, hV.1 _ (hB.1 p hp).1, hM _ (hB.1 p hp).1⟩⟩
      obtain ⟨Y1, ν1, A, A1, A2⟩ := F_wo0 (d + 1) len (show 24 * k ≤ 264 by omega) (by omega) hV hn hB hN1 (cl_o ln b i _ o1) hW
      have A : zF zT0 (d + 5) 218 [.ref 92, .int (zi 0)] (zm len Y ν) = some (.null, zm len Y1 ν1) := A
      have ob := (obF_b ln i (g : Int) (by omega)).2
      have hb : (obF ln i (g : Int)).toNat = b := by omega
      rw [hb] at ob
      refine ⟨Y1, ν1, ?_, fun j hj hgj => ?_, frK_W A2 (fun p hp => ⟨by have := (hB.1 p hp).1; omega, ?_⟩)⟩
      · rw [B_X12_blocks_18]
        simp (disch := omega) only [e98, e31, A, zbi_some, zbl_some, zbv_some, zbi_none, zbl_none, zbv_none, zbi_ite, zbl_ite, zbv_ite, zbZ, zbO, zc_lt, zc_le, zc_ge, zc_gt, zc_eq, zk0, zk1, zk2, zk3, zk4, zk5, zk6, zk7, zk8, zk9, zk10, zk11, zk12, zk14, zk15, zk16, zk17, zk19, zk20, zk21, zk24, zk25, zk30, zk32, zk36, zk40, zk45, zk50, zk64, zk97, zk99, zk100, zk102, zk122, zk128, zk255, zk800, zk801, zk900, zk999, zk1000, zk1997, zk9999, zk10000, zk100000, zk99999, zk9999999, zk999999999, zk2147483647, zlc0, zlc1, zlc2, zlc3, zlc4, zlc23, zlc99, zlc100, zlc9999999, zlc999999999999, zlc1073741824, zi_neg, zi_add, zi_sub, zi_mul, zl_neg, zl_add, zl_sub, zl_mul, zi_toInt, zi_nat, zi_le, zi_lt, zi_eq, zl_le, zl_lt, zl_eq, zl_toInt, zl_of32, zi_of64, zi_div, zl_div, zmodI, ↓reduceIte, zTle, zFle, zTlt, zFlt, zTeq, zFeq, if_true, if_false, and_self, and_true, true_and, and_false, false_and, or_self, or_true, true_or, or_false, false_or, not_true_eq_false, not_false_eq_true, zcastA, zcastL, znatC, zab, Int.reduceAdd, Int.reduceSub, Int.reduceMul, Int.reduceNeg, Int.reduceToNat, Nat.reduceAdd]
      · by_cases z : bkF ln j = b
        · obtain ⟨p, p1, p2⟩ := hB.2.2.1 j hj z
          have S1 := A1 p p1
          rw [p2] at S1
          unfold SolI
          rw [z]
          exact S1
        · have ne : ∀ p, p < N → 24 * k + j ≠ 24 * k + Q p := fun p hp q => by
            have e : j = Q p := by omega
            rw [e] at z
            exact z (hB.1 p hp).2
          exact SolI_e (hS j hj hgj (by omega)) (A2.2.2.1 _ ne) (A2.2.2.2.2 _ ne).1 (A2.2.2.2.2 _ ne).2
      · have b2 := (bkF_b ln (Q p)).2
        rw [(hB.1 p hp).2, ob] at b2
        exact b2.symm
  | succ c ih =>
    intro i hi Y ν N Q e98 hM hB e31 h112 hS
    have hin : i < n := by omega
    have Mi := hM i hin
    have e100 := Mi.1
    have e101 := Mi.2.1
    have Vi := hV.1 i hin
    have ix : (24 * (k : Int) + (i : Int)).toNat = 24 * k + i := by omega
    have ci : 24 * (k : Int) + (i : Int) + 1 = 24 * (k : Int) + ((i + 1 : Nat) : Int) := by omega
    have hN24 : N ≤ i := by
      rcases hB with ⟨_, r⟩ | ⟨b, _, _, r⟩
      · omega
      · exact r.2.2.2.2.2.2.2
    by_cases z : (ln i).2.1 = (g : Int)
    · have hB' : BI ln i (ln i).2.1 N Q := by rw [z]; exact hB
      have on := bi_on hB'
      have nx := bi_next hB'
      rw [z] at nx e101
      obtain ⟨Y1, hY1⟩ : ∃ Y1, Y1 = zup (zup Y 112 N (zi (24 * (k : Int) + (i : Int)))) 92 31 (zi ((N : Int) + 1)) := ⟨_, rfl⟩
      have r1 : ∀ r, r ≠ 92 → r ≠ 112 → Y1 r = Y r := fun r a b => by rw [hY1, zup_ne _ _ _ a, zup_ne _ _ _ b]
      have s1 : ∀ i, i ≠ 31 → Y1 92 i = Y 92 i := fun i hi => by
        rw [hY1]
        simp (disch := omega) only [zup_at, upd_eq, upd_ne, ne_eq, Nat.reduceEqDiff, ↓reduceIte, if_true, if_false]
      have f1 : frK ln n (24 * k) (g : Int) Y Y1 ν ν := frK_m ν r1 s1
      have e31' : Y1 92 31 = zi ((N + 1 : Nat) : Int) := by
        rw [hY1]
        rfl
      have h112' : ∀ p, p < N + 1 → Y1 112 p = zi ((24 * k + upQ Q N i p : Nat) : Int) := fun p hp => by
        rw [hY1]
        unfold upQ
        by_cases w : p = N
        · rw [if_pos w, w]
          simp (disch := omega) only [zup_at, upd_eq, upd_ne, ne_eq, Nat.reduceEqDiff, ↓reduceIte, if_true, if_false]
          congr 1
        · rw [if_neg w]
          simp (disch := omega) only [zup_at, upd_eq, upd_ne, ne_eq, Nat.reduceEqDiff, ↓reduceIte, if_true, if_false]
          exact h112 p (by omega)
      have hM1 : ∀ j, j < n → MlinO (24 * k) Y1 ν ln j := fun j hj => MlinO_K f1 (hM j hj)
      have e98' : Y1 98 k = zi (n : Int) := by rw [r1 98 (by decide) (by decide)]; exact e98
      have oS := obF_S ln i (g : Int)
      rw [if_pos z.symm] at oS
      have bi := bkF_i ln i
      rw [z] at bi
      by_cases s2 : (ln i).1 = 2
      · rw [if_pos s2] at nx oS
        rw [s2] at e100
        obtain ⟨Qn, hQn⟩ : ∃ Qn, Qn = upQ Q N i := ⟨_, rfl⟩
        rw [← hQn] at on nx h112'
        have hW : WP (24 * k) Y1 ν ln Qn (N + 1) := ⟨e31', fun p hp => ⟨h112' p hp, by have := (on.1 p hp).1; omega, hV.1 _ (by have := (on.1 p hp).1; omega), hM1 _ (by have := (on.1 p hp).1; omega)⟩⟩
        have c1 : clF ln (bkF ln i) (i + 1) = 1 := by rw [clF_S, if_pos ⟨rfl, s2⟩]
        obtain ⟨Y2, ν2, A, A1, A2⟩ := F_wo1 d len (show 24 * k ≤ 264 by omega) (show N + 1 ≤ 24 by omega) (LV_le hV (show i + 1 ≤ n by omega)) (by omega) on c1 hW
        have bb := bkF_b ln i
        have ble := bkF_le ln i
        have gb : ∀ p, p < N + 1 → Qn p < 24 ∧ (ln (Qn p)).2.1 = (g : Int) := fun p hp => by
          have b2 := (bkF_b ln (Qn p)).2
          rw [(on.1 p hp).2, bb.2, z] at b2
          exact ⟨by have := (on.1 p hp).1; omega, b2.symm⟩
        have f2 : frK ln n (24 * k) (g : Int) Y1 Y2 ν ν2 := frK_W A2 gb
        obtain ⟨Y3, hY3⟩ : ∃ Y3, Y3 = zup Y2 92 31 (zi 0) := ⟨_, rfl⟩
        have r3 : ∀ r, r ≠ 92 → Y3 r = Y2 r := fun r a => by rw [hY3, zup_ne _ _ _ a]
        have f3 : frK ln n (24 * k) (g : Int) Y2 Y3 ν2 ν2 := frK_m ν2 (fun r a _ => r3 r a) (fun i hi => by
          rw [hY3]
          simp (disch := omega) only [zup_at, upd_eq, upd_ne, ne_eq, Nat.reduceEqDiff, ↓reduceIte, if_true, if_false])
        have f13 := frK_tr f1 (frK_tr f2 f3)
        have st := st_all (m := i + 1) (b := bkF ln i) (by omega) (by
          rw [bb.2, z, oS]
          omega) (n - (i + 1))
        rw [show i + 1 + (n - (i + 1)) = n by omega] at st
        have SE : SF ln n (bkF ln i) = SF ln (i + 1) (bkF ln i) := SF_n st.1 st.2.1 st.2.2.1 st.2.2.2
        have hS3 : ∀ j, j < i + 1 → (ln j).2.1 = (g : Int) → (bkF ln j : Int) ≠ obF ln (i + 1) (g : Int) → SolI (24 * k) ln n Y3 ν2 j := fun j hj hgj _ => by
          by_cases w : bkF ln j = bkF ln i
          · obtain ⟨p, p1, p2⟩ := on.2.2.1 j hj w
            have S1 := A1 p p1
            rw [p2] at S1
            unfold SolI fiF
            rw [w, SE, r3 109 (by decide)]
            exact S1
          · have ji : j < i := by
              rcases Nat.lt_or_ge j i with q | q
              · exact q
              · exact absurd (by rw [show j = i by omega]) w
            have ne : ∀ p, p < N + 1 → 24 * k + j ≠ 24 * k + Qn p := fun p hp q => by
              have e : j = Qn p := by omega
              rw [e] at w
              exact w (on.1 p hp).2
            have h0 := hS j ji hgj (fun q => by
              by_cases o1 : obF ln i (g : Int) = -1
              · omega
              · rw [if_neg o1] at bi
                exact w (by omega))
            refine SolI_e h0 ?_ (A2.2.2.2.2 _ ne).1 (A2.2.2.2.2 _ ne).2
            rw [r3 109 (by decide), A2.2.2.1 _ ne, r1 109 (by decide) (by decide)]
        obtain ⟨Y4, ν4, B, B1, B2⟩ := ih (i + 1) (by omega) Y3 ν2 0 Qn (by rw [r3 98 (by decide), A2.1 98 (by decide) (by decide) (by decide) (by decide)]; exact e98') (fun j hj => MlinO_K f13 (hM j hj)) nx (by rw [hY3]; rfl) (fun p hp => by omega) hS3
        refine ⟨Y4, ν4, ?_, B1, frK_tr f13 B2⟩
        rw [← B, hY3, B_X12_blocks_18]
        rw [hY1] at A
        simp (disch := omega) only [e98, e31, e100, e101, ix, A, B_X12_blocks_84, B_X12_blocks_89, ci, zbi_some, zbl_some, zbv_some, zbi_none, zbl_none, zbv_none, zbi_ite, zbl_ite, zbv_ite, zbZ, zbO, zc_lt, zc_le, zc_ge, zc_gt, zc_eq, zk0, zk1, zk2, zk3, zk4, zk5, zk6, zk7, zk8, zk9, zk10, zk11, zk12, zk14, zk15, zk16, zk17, zk19, zk20, zk21, zk24, zk25, zk30, zk32, zk36, zk40, zk45, zk50, zk64, zk97, zk99, zk100, zk102, zk122, zk128, zk255, zk800, zk801, zk900, zk999, zk1000, zk1997, zk9999, zk10000, zk100000, zk99999, zk9999999, zk999999999, zk2147483647, zlc0, zlc1, zlc2, zlc3, zlc4, zlc23, zlc99, zlc100, zlc9999999, zlc999999999999, zlc1073741824, zi_neg, zi_add, zi_sub, zi_mul, zl_neg, zl_add, zl_sub, zl_mul, zi_toInt, zi_nat, zi_le, zi_lt, zi_eq, zl_le, zl_lt, zl_eq, zl_toInt, zl_of32, zi_of64, zi_div, zl_div, zmodI, ↓reduceIte, zTle, zFle, zTlt, zFlt, zTeq, zFeq, if_true, if_false, and_self, and_true, true_and, and_false, false_and, or_self, or_true, true_or, or_false, false_or, not_true_eq_false, not_false_eq_true, zcastA, zcastL, znatC, zab, Int.reduceAdd, Int.reduceSub, Int.reduceMul, Int.reduceNeg, Int.reduceToNat, Nat.reduceAdd]
      · rw [if_neg s2] at nx oS
        have hS1 : ∀ j, j < i + 1 → (ln j).2.1 = (g : Int) → (bkF ln j : Int) ≠ obF ln (i + 1) (g : Int) → SolI (24 * k) ln n Y1 ν j := fun j hj hgj hne => by
          have ji : j < i := by
            rcases Nat.lt_or_ge j i with q | q
            · exact q
            · exact absurd (by rw [show j = i by omega, oS]) hne
          refine SolI_e (hS j ji hgj (fun q => ?_)) (by rw [r1 109 (by decide) (by decide)]) rfl rfl
          by_cases o1 : obF ln i (g : Int) = -1
          · omega
          · rw [if_neg o1] at bi
            exact hne (by omega)
        obtain ⟨Y4, ν4, B, B1, B2⟩ := ih (i + 1) (by omega) Y1 ν (N + 1) (upQ Q N i) e98' hM1 nx e31' h112' hS1
        refine ⟨Y4, ν4, ?_, B1, frK_tr f1 B2⟩
        have Vs : 0 ≤ (ln i).1 ∧ (ln i).1 ≤ 2 := Vi.1
        rw [← B, hY1, B_X12_blocks_18]
        simp (disch := omega) only [e98, e31, e100, e101, ix, s2, B_X12_blocks_89, ci, zbi_some, zbl_some, zbv_some, zbi_none, zbl_none, zbv_none, zbi_ite, zbl_ite, zbv_ite, zbZ, zbO, zc_lt, zc_le, zc_ge, zc_gt, zc_eq, zk0, zk1, zk2, zk3, zk4, zk5, zk6, zk7, zk8, zk9, zk10, zk11, zk12, zk14, zk15, zk16, zk17, zk19, zk20, zk21, zk24, zk25, zk30, zk32, zk36, zk40, zk45, zk50, zk64, zk97, zk99, zk100, zk102, zk122, zk128, zk255, zk800, zk801, zk900, zk999, zk1000, zk1997, zk9999, zk10000, zk100000, zk99999, zk9999999, zk999999999, zk2147483647, zlc0, zlc1, zlc2, zlc3, zlc4, zlc23, zlc99, zlc100, zlc9999999, zlc999999999999, zlc1073741824, zi_neg, zi_add, zi_sub, zi_mul, zl_neg, zl_add, zl_sub, zl_mul, zi_toInt, zi_nat, zi_le, zi_lt, zi_eq, zl_le, zl_lt, zl_eq, zl_toInt, zl_of32, zi_of64, zi_div, zl_div, zmodI, ↓reduceIte, zTle, zFle, zTlt, zFlt, zTeq, zFeq, if_true, if_false, and_self, and_true, true_and, and_false, false_and, or_self, or_true, true_or, or_false, false_or, not_true_eq_false, not_false_eq_true, zcastA, zcastL, znatC, zab, Int.reduceAdd, Int.reduceSub, Int.reduceMul, Int.reduceNeg, Int.reduceToNat, Nat.reduceAdd]
    · have nx := bi_off (fun q => z q.symm) hB
      have oS := obF_S ln i (g : Int)
      rw [if_neg (fun q => z q.symm)] at oS
      obtain ⟨Y4, ν4, B, B1, B2⟩ := ih (i + 1) (by omega) Y ν N Q e98 hM nx e31 h112 (fun j hj hgj hne => by
        have ji : j < i := by
          rcases Nat.lt_or_ge j i with q | q
          · exact q
          · exact absurd (by rw [show i = j by omega]; exact hgj) z
        rw [oS] at hne
        exact hS j ji hgj hne)
      refine ⟨Y4, ν4, ?_, B1, B2⟩
      rw [← B, B_X12_blocks_18]
      obtain ⟨gl, hgl⟩ : ∃ gl, gl = (ln i).2.1 := ⟨_, rfl⟩
      have Vg := Vi.2.1
      rw [← hgl] at Vg e101 z
      simp (disch := omega) only [e98, e31, e101, ix, z, B_X12_blocks_89, ci, zbi_some, zbl_some, zbv_some, zbi_none, zbl_none, zbv_none, zbi_ite, zbl_ite, zbv_ite, zbZ, zbO, zc_lt, zc_le, zc_ge, zc_gt, zc_eq, zk0, zk1, zk2, zk3, zk4, zk5, zk6, zk7, zk8, zk9, zk10, zk11, zk12, zk14, zk15, zk16, zk17, zk19, zk20, zk21, zk24, zk25, zk30, zk32, zk36, zk40, zk45, zk50, zk64, zk97, zk99, zk100, zk102, zk122, zk128, zk255, zk800, zk801, zk900, zk999, zk1000, zk1997, zk9999, zk10000, zk100000, zk99999, zk9999999, zk999999999, zk2147483647, zlc0, zlc1, zlc2, zlc3, zlc4, zlc23, zlc99, zlc100, zlc9999999, zlc999999999999, zlc1073741824, zi_neg, zi_add, zi_sub, zi_mul, zl_neg, zl_add, zl_sub, zl_mul, zi_toInt, zi_nat, zi_le, zi_lt, zi_eq, zl_le, zl_lt, zl_eq, zl_toInt, zl_of32, zi_of64, zi_div, zl_div, zmodI, ↓reduceIte, zTle, zFle, zTlt, zFlt, zTeq, zFeq, if_true, if_false, and_self, and_true, true_and, and_false, false_and, or_self, or_true, true_or, or_false, false_or, not_true_eq_false, not_false_eq_true, zcastA, zcastL, znatC, zab, Int.reduceAdd, Int.reduceSub, Int.reduceMul, Int.reduceNeg, Int.reduceToNat, Nat.reduceAdd]
/-- what the BLOCKS leave -/
def frG (o : Nat) (Y Y' : zMu) (ν ν' : zNu) : Prop := (∀ r, r ≠ 92 → r ≠ 109 → r ≠ 112 → r ≠ 113 → r ≠ 115 → Y' r = Y r) ∧ (∀ i, i ≠ 31 → i ≠ 35 → i ≠ 36 → Y' 92 i = Y 92 i) ∧ (∀ i, (i < o ∨ o + 24 ≤ i) → Y' 109 i = Y 109 i) ∧ (∀ r, r ≠ 107 → r ≠ 108 → r ≠ 114 → r ≠ 116 → ν' r = ν r) ∧ ∀ i, (i < o ∨ o + 24 ≤ i) → ν' 107 i = ν 107 i ∧ ν' 108 i = ν 108 i
theorem frG_rf (o : Nat) (Y : zMu) (ν : zNu) : frG o Y Y ν ν := ⟨fun _ _ _ _ _ _ => rfl, fun _ _ _ _ => rfl, fun _ _ => rfl, fun _ _ _ _ _ => rfl, fun _ _ => ⟨rfl, rfl⟩⟩
theorem frG_tr {o : Nat} {Y Y' Y'' : zMu} {ν ν' ν'' : zNu} (h : frG o Y Y' ν ν') (h2 : frG o Y' Y'' ν' ν'') : frG o Y Y'' ν ν'' := by
  obtain ⟨a1, a2, a3, a4, a5⟩ := h
  obtain ⟨b1, b2, b3, b4, b5⟩ := h2
  exact ⟨fun r p q s t u => (b1 r p q s t u).trans (a1 r p q s t u), fun i p q s => (b2 i p q s).trans (a2 i p q s), fun i p => (b3 i p).trans (a3 i p), fun r p q s t => (b4 r p q s t).trans (a4 r p q s t), fun i p => ⟨((b5 i p).1).trans (a5 i p).1, ((b5 i p).2).trans (a5 i p).2⟩⟩
theorem bl_g (d len : Nat) (hk : k < 12) (hn : n ≤ 24) (hV : LV ln n) : ∀ c g : Nat, g + c = 8 → ∀ (Y : zMu) (ν : zNu) (v3 : Value), Y 98 k = zi (n : Int) → (∀ j, j < n → MlinO (24 * k) Y ν ln j) → (∀ j, j < n → (ln j).2.1 < (g : Int) → SolI (24 * k) ln n Y ν j) → ∃ (Y' : zMu) (ν' : zNu), zE zc_X12_blocks (zF zT0 (d + 5)) 2 [.ref 92, .int (zi (k : Int)), .int (zi (g : Int)), v3] [] (zm len Y ν) = some (.null, zm len Y' ν') ∧ (∀ j, j < n → SolI (24 * k) ln n Y' ν' j) ∧ frG (24 * k) Y Y' ν ν' := by
  intro c
  induction c with
  | zero =>
    intro g hg Y ν v3 e98 hM hS
    have : g = 8 := by omega
    subst this
    refine ⟨Y, ν, ?_, fun j hj => hS j hj (by have := (hV.1 j hj).2.1; omega), frG_rf _ Y ν⟩
    rw [B_X12_blocks_2]
    simp (disch := omega) only [zbi_some, zbl_some, zbv_some, zbi_none, zbl_none, zbv_none, zbi_ite, zbl_ite, zbv_ite, zbZ, zbO, zc_lt, zc_le, zc_ge, zc_gt, zc_eq, zk0, zk1, zk2, zk3, zk4, zk5, zk6, zk7, zk8, zk9, zk10, zk11, zk12, zk14, zk15, zk16, zk17, zk19, zk20, zk21, zk24, zk25, zk30, zk32, zk36, zk40, zk45, zk50, zk64, zk97, zk99, zk100, zk102, zk122, zk128, zk255, zk800, zk801, zk900, zk999, zk1000, zk1997, zk9999, zk10000, zk100000, zk99999, zk9999999, zk999999999, zk2147483647, zlc0, zlc1, zlc2, zlc3, zlc4, zlc23, zlc99, zlc100, zlc9999999, zlc999999999999, zlc1073741824, zi_neg, zi_add, zi_sub, zi_mul, zl_neg, zl_add, zl_sub, zl_mul, zi_toInt, zi_nat, zi_le, zi_lt, zi_eq, zl_le, zl_lt, zl_eq, zl_toInt, zl_of32, zi_of64, zi_div, zl_div, zmodI, ↓reduceIte, zTle, zFle, zTlt, zFlt, zTeq, zFeq, if_true, if_false, and_self, and_true, true_and, and_false, false_and, or_self, or_true, true_or, or_false, false_or, not_true_eq_false, not_false_eq_true, zcastA, zcastL, znatC, zab, Int.reduceAdd, Int.reduceSub, Int.reduceMul, Int.reduceNeg, Int.reduceToNat, Nat.reduceAdd]
  | succ c ih =>
    intro g hg Y ν v3 e98 hM hS
    obtain ⟨Y1, hY1⟩ : ∃ Y1, Y1 = zup Y 92 31 (zi 0) := ⟨_, rfl⟩
    have f1 : frK ln n (24 * k) (g : Int) Y Y1 ν ν := frK_m ν (fun r a _ => by rw [hY1, zup_ne _ _ _ a]) (fun i hi => by
      rw [hY1]
      simp (disch := omega) only [zup_at, upd_eq, upd_ne, ne_eq, Nat.reduceEqDiff, ↓reduceIte, if_true, if_false])
    have r1 : ∀ r, r ≠ 92 → Y1 r = Y r := fun r a => by rw [hY1, zup_ne _ _ _ a]
    obtain ⟨Y2, ν2, A, A1, A2⟩ := bl_l d len hk hn hV (show g < 8 by omega) n 0 (by omega) Y1 ν 0 (fun _ => 0) (by rw [r1 98 (by decide)]; exact e98) (fun j hj => MlinO_K f1 (hM j hj)) (Or.inl ⟨rfl, rfl⟩) (by rw [hY1]; rfl) (fun p hp => by omega) (fun j hj => by omega)
    rw [show 24 * (k : Int) + ((0 : Nat) : Int) = 24 * (k : Int) by omega] at A
    have f12 := frK_tr f1 A2
    obtain ⟨Y3, ν3, B, B1, B2⟩ := ih (g + 1) (by omega) Y2 ν2 (.int (zi (24 * (k : Int) + (n : Int)))) (by rw [f12.1 98 (by decide) (by decide) (by decide) (by decide) (by decide)]; exact e98) (fun j hj => MlinO_K f12 (hM j hj)) (fun j hj hgj => by
      by_cases z : (ln j).2.1 = (g : Int)
      · exact A1 j hj z
      · obtain ⟨c1, c2, c3⟩ := f12.2.2.2.2.2 j hj z
        exact SolI_e (hS j hj (by omega)) c1 c2 c3)
    refine ⟨Y3, ν3, ?_, B1, frG_tr ⟨f12.1, f12.2.1, f12.2.2.1, f12.2.2.2.1, f12.2.2.2.2.1⟩ B2⟩
    rw [← B, B_X12_blocks_2]
    rw [hY1] at A
    simp (disch := omega) only [A, B_X12_blocks_107, zbi_some, zbl_some, zbv_some, zbi_none, zbl_none, zbv_none, zbi_ite, zbl_ite, zbv_ite, zbZ, zbO, zc_lt, zc_le, zc_ge, zc_gt, zc_eq, zk0, zk1, zk2, zk3, zk4, zk5, zk6, zk7, zk8, zk9, zk10, zk11, zk12, zk14, zk15, zk16, zk17, zk19, zk20, zk21, zk24, zk25, zk30, zk32, zk36, zk40, zk45, zk50, zk64, zk97, zk99, zk100, zk102, zk122, zk128, zk255, zk800, zk801, zk900, zk999, zk1000, zk1997, zk9999, zk10000, zk100000, zk99999, zk9999999, zk999999999, zk2147483647, zlc0, zlc1, zlc2, zlc3, zlc4, zlc23, zlc99, zlc100, zlc9999999, zlc999999999999, zlc1073741824, zi_neg, zi_add, zi_sub, zi_mul, zl_neg, zl_add, zl_sub, zl_mul, zi_toInt, zi_nat, zi_le, zi_lt, zi_eq, zl_le, zl_lt, zl_eq, zl_toInt, zl_of32, zi_of64, zi_div, zl_div, zmodI, ↓reduceIte, zTle, zFle, zTlt, zFlt, zTeq, zFeq, if_true, if_false, and_self, and_true, true_and, and_false, false_and, or_self, or_true, true_or, or_false, false_or, not_true_eq_false, not_false_eq_true, zcastA, zcastL, znatC, zab, Int.reduceAdd, Int.reduceSub, Int.reduceMul, Int.reduceNeg, Int.reduceToNat, Nat.reduceAdd]
theorem F_blk (d len : Nat) (hk : k < 12) (hn : n ≤ 24) (hV : LV ln n) {Y : zMu} {ν : zNu} (e98 : Y 98 k = zi (n : Int)) (hM : ∀ j, j < n → MlinO (24 * k) Y ν ln j) : ∃ (Y' : zMu) (ν' : zNu), zF zT0 (d + 6) 219 [.ref 92, .int (zi (k : Int))] (zm len Y ν) = some (.null, zm len Y' ν') ∧ (∀ j, j < n → SolI (24 * k) ln n Y' ν' j) ∧ frG (24 * k) Y Y' ν ν' := by
  obtain ⟨Y1, ν1, A, A1, A2⟩ := bl_g d len hk hn hV 8 0 (by omega) Y ν zU e98 hM (fun j hj h0 => by
    have := (hV.1 j hj).2.1
    omega)
  refine ⟨Y1, ν1, ?_, A1, A2⟩
  rw [B_X12_blocks]
  exact A
end BL
