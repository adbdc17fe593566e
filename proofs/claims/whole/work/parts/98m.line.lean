/-! TABLET read: a LINE from its numeral to its end, both sides at once -/
theorem zz_m0 : ¬ zi 0 = (-1 : Int32) := by decide
theorem zb_y {c : Prop} {i : Decidable c} (h : c) : @zb c i = zi 1 := by
  cases i with
  | isTrue _ => rfl
  | isFalse n => exact absurd h n
theorem zb_z {c : Prop} {i : Decidable c} (h : ¬ c) : @zb c i = zi 0 := by
  cases i with
  | isTrue n => exact absurd n h
  | isFalse _ => rfl
/-- a LINE begins, the model's -/
theorem mm_start {Y : zMu} {ν : zNu} {ln : Nat → Ln} {n : Nat} (h : MBd Y ν ln n) (e100 : Y 100 (288 + n) = zi (ln n).1) (e101 : Y 101 (288 + n) = zi (ln n).2.1) (e : (ln n).2.2 = (0, 0, [])) : MMd (zup (zup Y 104 (288 + n) (zi 0)) 103 (288 + n) (zi 0)) (zupl ν 102 (288 + n) (zl 0)) ln n := by
  obtain ⟨h1, h2⟩ := h
  have a105 : (zupl ν 102 (288 + n) (zl 0)) 105 = ν 105 := zupl_nx (by decide)
  have em : (ln n).2.2.2.2 = [] := by rw [e]
  have el : (ln n).2.2.1 = 0 := by rw [e]
  refine ⟨fun i hi => ?_, fun g hg => ?_⟩
  · by_cases z : i = n
    · subst z
      unfold Mlin
      rw [e, a105]
      refine ⟨?_, ?_, ?_, ?_, ?_, fun j p hj => by cases hj⟩
      · simp (disch := omega) only [zup_at, upd_eq, upd_ne, ne_eq, Nat.reduceEqDiff, ↓reduceIte, if_true, if_false]; exact e100
      · simp (disch := omega) only [zup_at, upd_eq, upd_ne, ne_eq, Nat.reduceEqDiff, ↓reduceIte, if_true, if_false]; exact e101
      · rw [zupl_at, if_pos ⟨rfl, rfl⟩]
      · simp (disch := omega) only [zup_at, upd_eq, upd_ne, ne_eq, Nat.reduceEqDiff, ↓reduceIte, if_true, if_false]
      · simp (disch := omega) only [zup_at, upd_eq, upd_ne, ne_eq, Nat.reduceEqDiff, ↓reduceIte, if_true, if_false]; rfl
    · obtain ⟨a1, a2, a3, a4, a5, a6⟩ := h1 i (by omega)
      unfold Mlin
      rw [a105, zupl_j (show 288 + i ≠ 288 + n by omega)]
      refine ⟨?_, ?_, a3, ?_, ?_, a6⟩
      · simp (disch := omega) only [zup_at, upd_eq, upd_ne, ne_eq, Nat.reduceEqDiff, ↓reduceIte, if_true, if_false]; exact a1
      · simp (disch := omega) only [zup_at, upd_eq, upd_ne, ne_eq, Nat.reduceEqDiff, ↓reduceIte, if_true, if_false]; exact a2
      · simp (disch := omega) only [zup_at, upd_eq, upd_ne, ne_eq, Nat.reduceEqDiff, ↓reduceIte, if_true, if_false]; exact a4
      · simp (disch := omega) only [zup_at, upd_eq, upd_ne, ne_eq, Nat.reduceEqDiff, ↓reduceIte, if_true, if_false]; exact a5
  · obtain ⟨y1, y2⟩ := h2 g hg
    by_cases z : (g : Int) = (ln n).2.1
    · rw [if_pos z, if_pos z, mk_len, lo01_S, em, el]
      unfold cnF at y1
      unfold nuF at y2
      rw [z] at y1 y2
      refine ⟨?_, ?_⟩
      · simp (disch := omega) only [zup_at, upd_eq, upd_ne, ne_eq, Nat.reduceEqDiff, ↓reduceIte, if_true, if_false]
        rw [y1]
        congr 1
        by_cases w : obF ln n (ln n).2.1 = -1
        · have b : bkF ln n = n := by unfold bkF; rw [if_pos w]
          rw [if_pos w, b, mkF_0 ln n n (Nat.le_refl _)]
          rfl
        · have b : bkF ln n = (obF ln n (ln n).2.1).toNat := by unfold bkF; rw [if_neg w]
          rw [if_neg w, ← b]
          rfl
      · simp (disch := omega) only [zup_at, upd_eq, upd_ne, ne_eq, Nat.reduceEqDiff, ↓reduceIte, if_true, if_false]
        rw [y2]
        congr 1
        by_cases w : obF ln n (ln n).2.1 = -1
        · have b : bkF ln n = n := by unfold bkF; rw [if_pos w]
          rw [if_pos w, b, loF_0 ln n n (Nat.le_refl _)]
          decide
        · have b : bkF ln n = (obF ln n (ln n).2.1).toNat := by unfold bkF; rw [if_neg w]
          rw [if_neg w, ← b]
          by_cases q : loF ln (bkF ln n) n = -1
          · rw [if_pos q, if_neg (fun x => by rcases x with x | x; exact absurd x (by decide); exact x q)]
          · rw [if_neg q, if_pos (Or.inr q)]
    · rw [if_neg z, if_neg z]
      refine ⟨?_, ?_⟩
      · simp (disch := omega) only [zup_at, upd_eq, upd_ne, ne_eq, Nat.reduceEqDiff, ↓reduceIte, if_true, if_false]; exact y1
      · simp (disch := omega) only [zup_at, upd_eq, upd_ne, ne_eq, Nat.reduceEqDiff, ↓reduceIte, if_true, if_false]; exact y2
/-- a LINE ends, the model's -/
def endY (ln : Nat → Ln) (n gg : Nat) (Y : zMu) : zMu := if (ln n).1 = 2 then zup (zup Y 110 gg (zi 0)) 111 gg (zi 0) else Y
theorem endY_f (ln : Nat → Ln) (n gg : Nat) (Y : zMu) (ν : zNu) : frN Y (endY ln n gg Y) ν ν := by
  unfold endY
  split
  · exact frN_up (frN_up (frN_rf Y ν) (by omega)) (by omega)
  · exact frN_rf Y ν
theorem ob_ne (ln : Nat → Ln) (n : Nat) {x : Int} (h : x ≠ (ln n).2.1) (w : obF ln n x ≠ -1) : bkF ln n ≠ (obF ln n x).toNat := fun q => by
  have a := (bkF_b ln n).2
  have b := (obF_b ln n x w).2
  rw [q, b] at a
  exact h a
theorem me_end {Y : zMu} {ν : zNu} {ln : Nat → Ln} {n gg : Nat} (h : MMd Y ν ln n) (eg : (ln n).2.1 = (gg : Int)) : MBd (endY ln n gg Y) ν ln (n + 1) := by
  obtain ⟨h1, h2⟩ := h
  refine ⟨fun i hi => ?_, fun g hg => ?_⟩
  · have a := h1 i (by omega)
    unfold endY
    split
    · obtain ⟨a1, a2, a3, a4, a5, a6⟩ := a
      refine ⟨?_, ?_, a3, ?_, ?_, fun j p hj => ⟨(a6 j p hj).1, ?_⟩⟩
      · simp (disch := omega) only [zup_at, upd_eq, upd_ne, ne_eq, Nat.reduceEqDiff, ↓reduceIte, if_true, if_false]; exact a1
      · simp (disch := omega) only [zup_at, upd_eq, upd_ne, ne_eq, Nat.reduceEqDiff, ↓reduceIte, if_true, if_false]; exact a2
      · simp (disch := omega) only [zup_at, upd_eq, upd_ne, ne_eq, Nat.reduceEqDiff, ↓reduceIte, if_true, if_false]; exact a4
      · simp (disch := omega) only [zup_at, upd_eq, upd_ne, ne_eq, Nat.reduceEqDiff, ↓reduceIte, if_true, if_false]; exact a5
      · simp (disch := omega) only [zup_at, upd_eq, upd_ne, ne_eq, Nat.reduceEqDiff, ↓reduceIte, if_true, if_false]; exact (a6 j p hj).2
    · exact a
  · obtain ⟨y1, y2⟩ := h2 g hg
    by_cases z : (g : Int) = (ln n).2.1
    · have zg : g = gg := by omega
      unfold cnF nuF
      rw [obF_S, if_pos z]
      rw [if_pos z] at y1 y2
      unfold endY
      by_cases s2 : (ln n).1 = 2
      · rw [if_pos s2, if_pos s2]
        subst zg
        refine ⟨?_, ?_⟩
        · simp (disch := omega) only [zup_at, upd_eq, upd_ne, ne_eq, Nat.reduceEqDiff, ↓reduceIte, if_true, if_false]; rfl
        · simp (disch := omega) only [zup_at, upd_eq, upd_ne, ne_eq, Nat.reduceEqDiff, ↓reduceIte, if_true, if_false]
      · rw [if_neg s2, if_neg s2, if_neg (show ¬ (bkF ln n : Int) = -1 by omega), if_neg (show ¬ (bkF ln n : Int) = -1 by omega)]
        exact ⟨y1, y2⟩
    · have zg : g ≠ gg := by omega
      have o : obF ln (n + 1) (g : Int) = obF ln n (g : Int) := by rw [obF_S, if_neg z]
      rw [if_neg z] at y1 y2
      have e1 : cnF ln (n + 1) (g : Int) = cnF ln n (g : Int) := by
        unfold cnF
        rw [o]
        by_cases w : obF ln n (g : Int) = -1
        · rw [if_pos w, if_pos w]
        · rw [if_neg w, if_neg w, mkF_S, if_neg (ob_ne ln n z w), List.append_nil]
      have e2 : nuF ln (n + 1) (g : Int) = nuF ln n (g : Int) := by
        unfold nuF
        rw [o]
        by_cases w : obF ln n (g : Int) = -1
        · rw [if_pos w, if_pos w]
        · rw [if_neg w, if_neg w, loF_S, if_neg (show ¬ (bkF ln n = (obF ln n (g : Int)).toNat ∧ (ln n).2.2.1 = 1) from fun q => ob_ne ln n z w q.1)]
      rw [e1, e2]
      unfold endY
      split
      · refine ⟨?_, ?_⟩
        · simp (disch := omega) only [zup_at, upd_eq, upd_ne, ne_eq, Nat.reduceEqDiff, ↓reduceIte, if_true, if_false]; exact y1
        · simp (disch := omega) only [zup_at, upd_eq, upd_ne, ne_eq, Nat.reduceEqDiff, ↓reduceIte, if_true, if_false]; exact y2
      · exact ⟨y1, y2⟩
def CPb (K : Nat) (pl : Nat → Nat) (ty va : Nat → Int) (sy sn : Nat → Nat) (st : Nat → Nat → Int) (ln : Nat → Ln) (n k : Nat) (M : zMu) : Prop := TkX K pl ty va M k ∧ NX sy sn st M ∧ DBd M ln n
def NPb (g : Nat → Int) (L : Nat) (pl nn : Nat → Nat) (ty va : Nat → Int) (sy sn : Nat → Nat) (st : Nat → Nat → Int) (ln : Nat → Ln) (n k : Nat) (Y : zMu) (ν : zNu) (r : Nat → Int32) : Prop := CcY g Y ∧ NY sy sn st Y ∧ r 6 = zi (L : Int) ∧ MS pl nn ty va r k ∧ MBd Y ν ln n
def NPs (g : Nat → Int) (L : Nat) (pl nn : Nat → Nat) (ty va : Nat → Int) (sy sn : Nat → Nat) (st : Nat → Nat → Int) (ln : Nat → Ln) (n k : Nat) (Y : zMu) (ν : zNu) (r : Nat → Int32) : Prop := CcY g Y ∧ NY sy sn st Y ∧ r 6 = zi (L : Int) ∧ MS pl nn ty va r k ∧ MBd Y ν ln n ∧ Y 100 (288 + n) = zi (ln n).1 ∧ Y 101 (288 + n) = zi (ln n).2.1
section LT
variable {g : Nat → Int} {L K : Nat} {pl nn : Nat → Nat} {ty va : Nat → Int} {sy sn : Nat → Nat} {st : Nat → Nat → Int}
theorem kd_lt (S : Strm g L K pl nn ty va) {k : Nat} (hk : k ≤ K) {x : Int} (h : kd ty va k = x) (hx : x ≠ 0) : k < K := by
  rcases Nat.lt_or_ge k K with w | w
  · exact w
  · have := (kd_c S hk).2.mpr (by omega)
    omega
theorem tail_c (S : Strm g L K pl nn ty va) (hL : L ≤ 800) {k : Nat} (hk : k ≤ K) {n gg : Nat} (hn : n < 24) (hgg : gg < 8) {ln : Nat → Ln} (eg : (ln n).2.1 = (gg : Int)) (hs : 0 ≤ (ln n).1 ∧ (ln n).1 ≤ 2) (x1 x2 : Int32) : (kd ty va k = 59 → Cok (CPd K pl ty va sy sn st ln n k) (fun d => zE zc_X1_readLine (zF zT0 (d + 5)) 155 [.ref 11, .int x1, .int x2] [.int (zi 1)]) (CPb K pl ty va sy sn st ln (n + 1) (k + 1))) ∧ (kd ty va k ≠ 59 → Cfl (CPd K pl ty va sy sn st ln n k) (fun d => zE zc_X1_readLine (zF zT0 (d + 5)) 155 [.ref 11, .int x1, .int x2] [.int (zi 1)]) 1 (pl k)) := by
  have hKL := S.2.1.2.2.2
  have x0 : 0 ≤ kd ty va k ∧ kd ty va k ≤ 200 := by have := (kd_c S hk).1; unfold Kc at this; omega
  refine ⟨fun z d len M ν hP => ?_, fun z d len M ν hP => ?_⟩
  · obtain ⟨hT, hX, hD⟩ := hP
    have hk' := kd_lt S hk z (by decide)
    have T : zF zT0 (d + 5) 133 [.ref 6, .int 59] (zm len M ν) = _ := g_take hk' (by omega) z (by omega) (d + 3) len hT ν
    have hT1 := (g_move hk' (by omega) (d + 3) len hT ν).2
    have hD1 : DMd (zup M 6 6 (zi ((k : Int) + 1))) ln n := hD
    obtain ⟨X', E, E1, E2⟩ := end_ok (d + 3) len ν hn hgg eg hs hD1
    have f : frF M X' := frF_d (frF_6 (frF_rf M) (by omega)) E2
    refine ⟨X', ?_, ⟨Tk_d hT1 E2, NX_d hX f, E1⟩, f⟩
    show zE zc_X1_readLine (zF zT0 (d + 5)) 155 _ _ (zm len M ν) = _
    rw [B_X1_readLine_155, if_neg zz_10, T, zbi_some, B_X1_readLine_167, if_neg zz_10, show zF zT0 (d + 5) 15 _ _ = _ from E, zbv_some, B_X1_readLine_176]
    rfl
  · obtain ⟨hT, hX, hD⟩ := hP
    obtain ⟨M', T, T1⟩ := g_taken hk (by omega) z x0 (by omega) (d + 3) len hT ν
    refine ⟨M', ?_, T1⟩
    show zE zc_X1_readLine (zF zT0 (d + 5)) 155 _ _ (zm len M ν) = _
    rw [B_X1_readLine_155, if_neg zz_10, show zF zT0 (d + 5) 133 [.ref 6, .int 59] (zm len M ν) = _ from T, zbi_some, B_X1_readLine_167, if_pos zz_0]
    rfl
theorem tail_n (S : Strm g L K pl nn ty va) (hL : L ≤ 800) (hg : ∀ i, 0 ≤ g i ∧ g i ≤ 255) {k : Nat} (hk : k ≤ K) {n gg : Nat} (hn : n < 24) (hgg : gg < 8) {ln : Nat → Ln} (eg : (ln n).2.1 = (gg : Int)) (hs : 0 ≤ (ln n).1 ∧ (ln n).1 ≤ 2) : (kd ty va k = 59 → Nok (NPd g L pl nn ty va sy sn st ln n k) (fun d => zE zc_X12_readLine (zF zT0 (d + 5)) 82 [.ref 92, .int (zi ((288 + n : Nat) : Int))] [.int (zi 0)]) 0 (NPb g L pl nn ty va sy sn st ln (n + 1) (k + 1))) ∧ (kd ty va k ≠ 59 → Nfl (NPd g L pl nn ty va sy sn st ln n k) (fun d => zE zc_X12_readLine (zF zT0 (d + 5)) 82 [.ref 92, .int (zi ((288 + n : Nat) : Int))] [.int (zi 0)]) 1 (pl k)) := by
  have ix : (288 + (n : Int)).toNat = 288 + n := by omega
  refine ⟨fun z d len Y ν r hP => ?_, fun z d len Y ν r hP => ?_⟩
  · obtain ⟨hY, hN, e6, hM, hD⟩ := hP
    have hk' := kd_lt S hk z (by decide)
    have s1 : zF zT0 (d + 5) 205 [.ref 92, .int 59] (zm len (zrw Y 92 r) ν) = _ := n_sg S hk hM (d + 4) len Y ν (c := 59) (by decide)
    obtain ⟨r', N, R1, R2⟩ := n_next S hL hg (d + 2) len ν hY e6 hk' hM
    have ef := endY_f ln n gg Y ν
    have e100 := (hD.1 n (Nat.le_refl _)).1
    have e101 := (hD.1 n (Nat.le_refl _)).2.1
    rw [eg] at e101
    refine ⟨r', endY ln n gg Y, ν, ?_, ⟨CcY_n hY ef, NY_n hN ef, by rw [fr4_6 R2]; exact e6, R1, me_end hD eg⟩, R2, ef⟩
    show zE zc_X12_readLine (zF zT0 (d + 5)) 82 _ _ (zm len (zrw Y 92 r) ν) = _
    rw [B_X12_readLine_82, if_neg zz_m0, s1, zbi_some, B_X12_readLine_94, zb_y z, if_neg zz_10, show zF zT0 (d + 5) 201 _ _ = _ from N, zbv_some, B_X12_readLine_107]
    unfold endY
    by_cases s2 : (ln n).1 = 2
    · rw [if_pos s2]
      simp (disch := omega) only [ix, zrw_n, e100, e101, s2, zup_zrw_n, zup_ne, zbi_some, zbl_some, zbv_some, zbi_none, zbl_none, zbv_none, zbi_ite, zbl_ite, zbv_ite, zbZ, zbO, zc_lt, zc_le, zc_ge, zc_gt, zc_eq, zk0, zk1, zk2, zk3, zk4, zk5, zk6, zk7, zk8, zk9, zk10, zk11, zk12, zk14, zk15, zk16, zk17, zk19, zk20, zk21, zk24, zk25, zk30, zk32, zk36, zk40, zk45, zk50, zk64, zk97, zk99, zk100, zk102, zk122, zk128, zk255, zk800, zk801, zk900, zk999, zk1000, zk1997, zk9999, zk10000, zk100000, zk99999, zk9999999, zk999999999, zk2147483647, zlc0, zlc1, zlc2, zlc3, zlc4, zlc23, zlc99, zlc100, zlc9999999, zlc999999999999, zlc1073741824, zi_neg, zi_add, zi_sub, zi_mul, zl_neg, zl_add, zl_sub, zl_mul, zi_toInt, zi_nat, zi_le, zi_lt, zi_eq, zl_le, zl_lt, zl_eq, zl_toInt, zl_of32, zi_of64, zi_div, zl_div, zmodI, ↓reduceIte, zTle, zFle, zTlt, zFlt, zTeq, zFeq, if_true, if_false, and_self, and_true, true_and, and_false, false_and, or_self, or_true, true_or, or_false, false_or, not_true_eq_false, not_false_eq_true, zcastA, zcastL, znatC, zab, Int.reduceAdd, Int.reduceSub, Int.reduceMul, Int.reduceNeg, Int.reduceToNat, Nat.reduceAdd]
    · rw [if_neg s2]
      simp (disch := omega) only [ix, zrw_n, e100, e101, s2, zup_zrw_n, zup_ne, zbi_some, zbl_some, zbv_some, zbi_none, zbl_none, zbv_none, zbi_ite, zbl_ite, zbv_ite, zbZ, zbO, zc_lt, zc_le, zc_ge, zc_gt, zc_eq, zk0, zk1, zk2, zk3, zk4, zk5, zk6, zk7, zk8, zk9, zk10, zk11, zk12, zk14, zk15, zk16, zk17, zk19, zk20, zk21, zk24, zk25, zk30, zk32, zk36, zk40, zk45, zk50, zk64, zk97, zk99, zk100, zk102, zk122, zk128, zk255, zk800, zk801, zk900, zk999, zk1000, zk1997, zk9999, zk10000, zk100000, zk99999, zk9999999, zk999999999, zk2147483647, zlc0, zlc1, zlc2, zlc3, zlc4, zlc23, zlc99, zlc100, zlc9999999, zlc999999999999, zlc1073741824, zi_neg, zi_add, zi_sub, zi_mul, zl_neg, zl_add, zl_sub, zl_mul, zi_toInt, zi_nat, zi_le, zi_lt, zi_eq, zl_le, zl_lt, zl_eq, zl_toInt, zl_of32, zi_of64, zi_div, zl_div, zmodI, ↓reduceIte, zTle, zFle, zTlt, zFlt, zTeq, zFeq, if_true, if_false, and_self, and_true, true_and, and_false, false_and, or_self, or_true, true_or, or_false, false_or, not_true_eq_false, not_false_eq_true, zcastA, zcastL, znatC, zab, Int.reduceAdd, Int.reduceSub, Int.reduceMul, Int.reduceNeg, Int.reduceToNat, Nat.reduceAdd]
  · obtain ⟨hY, hN, e6, hM, hD⟩ := hP
    have s1 : zF zT0 (d + 5) 205 [.ref 92, .int 59] (zm len (zrw Y 92 r) ν) = _ := n_sg S hk hM (d + 4) len Y ν (c := 59) (by decide)
    obtain ⟨r', N, P1, P2, P3⟩ := n_fails hM (d + 3) len Y ν 1
    refine ⟨r', Y, ν, ?_, P1, P2, fun i _ _ _ _ i12 i13 => P3 i i12 i13, frN_rf _ _⟩
    show zE zc_X12_readLine (zF zT0 (d + 5)) 82 _ _ (zm len (zrw Y 92 r) ν) = _
    rw [B_X12_readLine_82, if_neg zz_m0, s1, zbi_some, B_X12_readLine_94, zb_z z, if_pos zz_0, show zF zT0 (d + 5) 203 [.ref 92, .int 1] _ = _ from N, zbi_some, B_X12_readLine_102]
end LT
