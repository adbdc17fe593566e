/-! TABLET read: the model's lines -/
def Mlin (Y : zMu) (ν : zNu) (ln : Nat → Ln) (i : Nat) : Prop := Y 100 (288 + i) = zi (ln i).1 ∧ Y 101 (288 + i) = zi (ln i).2.1 ∧ ν 102 (288 + i) = zl (ln i).2.2.2.1 ∧ Y 103 (288 + i) = zi (ln i).2.2.1 ∧ Y 104 (288 + i) = zi ((ln i).2.2.2.2.length : Int) ∧ ∀ j p, (ln i).2.2.2.2[j]? = some p → ν 105 (3 * (288 + i) + j) = zl p.1 ∧ Y 106 (3 * (288 + i) + j) = zi p.2
def cnF (ln : Nat → Ln) (n : Nat) (g : Int) : Nat := if obF ln n g = -1 then 0 else (mkF ln (obF ln n g).toNat n).length
def nuF (ln : Nat → Ln) (n : Nat) (g : Int) : Int := if obF ln n g = -1 then 0 else if loF ln (obF ln n g).toNat n = -1 then 0 else 1
def lo01 (ln : Nat → Ln) (n : Nat) : Int := if loF ln (bkF ln n) (n + 1) = -1 then 0 else 1
def MBd (Y : zMu) (ν : zNu) (ln : Nat → Ln) (n : Nat) : Prop := (∀ i, i < n → Mlin Y ν ln i) ∧ ∀ g : Nat, g < 8 → Y 110 g = zi (cnF ln n (g : Int) : Int) ∧ Y 111 g = zi (nuF ln n (g : Int))
def MMd (Y : zMu) (ν : zNu) (ln : Nat → Ln) (n : Nat) : Prop := (∀ i, i ≤ n → Mlin Y ν ln i) ∧ ∀ g : Nat, g < 8 → Y 110 g = zi (if (g : Int) = (ln n).2.1 then ((mkF ln (bkF ln n) (n + 1)).length : Int) else (cnF ln n (g : Int) : Int)) ∧ Y 111 g = zi (if (g : Int) = (ln n).2.1 then lo01 ln n else nuF ln n (g : Int))
def frN (Y Y' : zMu) (ν ν' : zNu) : Prop := (∀ r, r ≠ 100 → r ≠ 101 → r ≠ 103 → r ≠ 104 → r ≠ 106 → r ≠ 110 → r ≠ 111 → Y' r = Y r) ∧ (∀ i, i < 288 → Y' 100 i = Y 100 i ∧ Y' 101 i = Y 101 i) ∧ ∀ r, r ≠ 102 → r ≠ 105 → ν' r = ν r
theorem frN_rf (Y : zMu) (ν : zNu) : frN Y Y ν ν := ⟨fun _ _ _ _ _ _ _ _ => rfl, fun _ _ => ⟨rfl, rfl⟩, fun _ _ _ => rfl⟩
theorem frN_tr {Y Y' Y'' : zMu} {ν ν' ν'' : zNu} (h : frN Y Y' ν ν') (h2 : frN Y' Y'' ν' ν'') : frN Y Y'' ν ν'' := ⟨fun r a b c d e f g => by rw [h2.1 r a b c d e f g, h.1 r a b c d e f g], fun i hi => by rw [(h2.2.1 i hi).1, (h2.2.1 i hi).2]; exact h.2.1 i hi, fun r a b => by rw [h2.2.2 r a b, h.2.2 r a b]⟩
theorem frN_up {Y Y' : zMu} {ν ν' : zNu} {r i : Nat} {v : Int32} (h : frN Y Y' ν ν') (hr : ((r = 100 ∨ r = 101) ∧ 288 ≤ i) ∨ r = 103 ∨ r = 104 ∨ r = 106 ∨ r = 110 ∨ r = 111) : frN Y (zup Y' r i v) ν ν' := ⟨fun q a b c d e f g => by rw [zup_ne _ _ _ (show q ≠ r by omega), h.1 q a b c d e f g], fun j hj => by
  obtain ⟨x, y⟩ := h.2.1 j hj
  refine ⟨?_, ?_⟩
  · by_cases z : r = 100
    · subst z
      rw [zup_self, upd_ne _ _ (show j ≠ i by omega)]
      exact x
    · rw [zup_ne _ _ _ (show (100 : Nat) ≠ r by omega)]
      exact x
  · by_cases z : r = 101
    · subst z
      rw [zup_self, upd_ne _ _ (show j ≠ i by omega)]
      exact y
    · rw [zup_ne _ _ _ (show (101 : Nat) ≠ r by omega)]
      exact y, h.2.2⟩
theorem zupl_at (ν : zNu) (r i : Nat) (v : Int64) (a j : Nat) : zupl ν r i v a j = if a = r ∧ j = i then v else ν a j := by
  show (if a = r then vp_updL (ν r) i v else ν a) j = _
  by_cases z : a = r
  · subst z
    rw [if_pos rfl]
    show (if j = i then v else ν a j) = _
    by_cases y : j = i
    · rw [if_pos y, if_pos ⟨rfl, y⟩]
    · rw [if_neg y, if_neg (fun q => y q.2)]
  · rw [if_neg z, if_neg (fun q => z q.1)]
theorem zupl_nx {ν : zNu} {r i a : Nat} {v : Int64} (h : a ≠ r) : zupl ν r i v a = ν a := if_neg h
theorem zupl_j {ν : zNu} {r i a j : Nat} {v : Int64} (h : j ≠ i) : zupl ν r i v a j = ν a j := by rw [zupl_at, if_neg (fun q => h q.2)]
theorem frN_upl {Y Y' : zMu} {ν ν' : zNu} {r i : Nat} {v : Int64} (h : frN Y Y' ν ν') (hr : r = 102 ∨ r = 105) : frN Y Y' ν (zupl ν' r i v) := ⟨h.1, h.2.1, fun q a b => by rw [zupl_nx (show q ≠ r by omega), h.2.2 q a b]⟩
section NTOK
variable {g : Nat → Int} {L K : Nat} {pl nn : Nat → Nat} {ty va : Nat → Int}
theorem n_sg (S : Strm g L K pl nn ty va) {k : Nat} (hk : k ≤ K) {r : Nat → Int32} (hM : MS pl nn ty va r k) (d len : Nat) (Y : zMu) (ν : zNu) {c : Int} (hc : 40 ≤ c ∧ c ≤ 63) : zF zT0 (d + 1) 205 [.ref 92, .int (zi c)] (zm len (zrw Y 92 r) ν) = some (.int (zb (kd ty va k = c)), zm len (zrw Y 92 r) ν) := by
  obtain ⟨x9, x10, n1, n2, n3⟩ := MS_n S hk hM
  exact F_isSg d len (zrw Y 92 r) ν n1 (by rw [zrw_s]; exact n2) (fun h => by rw [zrw_s]; exact n3 h) hc
theorem n_wd (S : Strm g L K pl nn ty va) {k : Nat} (hk : k ≤ K) {r : Nat → Int32} (hM : MS pl nn ty va r k) (d len : Nat) (Y : zMu) (ν : zNu) {w : Int} (y : Int) (hc : (0 ≤ w ∧ w ≤ 4 ∧ y = 128 + w) ∨ (11 ≤ w ∧ w ≤ 20 ∧ y = 122 + w)) : zF zT0 (d + 1) 204 [.ref 92, .int (zi w)] (zm len (zrw Y 92 r) ν) = some (.int (zb (kd ty va k = y)), zm len (zrw Y 92 r) ν) := by
  obtain ⟨x9, x10, n1, n2, n3⟩ := MS_n S hk hM
  exact F_isWd d len (zrw Y 92 r) ν n1 (by rw [zrw_s]; exact n2) (fun h => by rw [zrw_s]; exact n3 h) hc
theorem n_fails {k : Nat} {r : Nat → Int32} (hM : MS pl nn ty va r k) (d len : Nat) (Y : zMu) (ν : zNu) (x : Int) : ∃ r', zF zT0 (d + 2) 203 [.ref 92, .int (zi x)] (zm len (zrw Y 92 r) ν) = some (.int (zi (-1)), zm len (zrw Y 92 r') ν) ∧ r' 12 = zi x ∧ r' 13 = zi (pl k : Int) ∧ ∀ i, i ≠ 12 → i ≠ 13 → r' i = r i := by
  refine ⟨upd (upd r 12 (zi x)) 13 (r 8), ?_, rfl, hM.2.1, fun i i12 i13 => by rw [upd_ne _ _ i13, upd_ne _ _ i12]⟩
  rw [B_X12_fails]
  simp (disch := omega) only [B_X12_failsAt, zrw_s, zrw_n, zup_zrw, upd_ne, B_X12_fails_9, zbi_some, zbl_some, zbv_some, zbi_none, zbl_none, zbv_none, zbi_ite, zbl_ite, zbv_ite, zbZ, zbO, zc_lt, zc_le, zc_ge, zc_gt, zc_eq, zk0, zk1, zk2, zk3, zk4, zk5, zk6, zk7, zk8, zk9, zk10, zk11, zk12, zk14, zk15, zk16, zk17, zk19, zk20, zk21, zk24, zk25, zk30, zk32, zk36, zk40, zk45, zk50, zk64, zk97, zk99, zk100, zk102, zk122, zk128, zk255, zk800, zk801, zk900, zk999, zk1000, zk1997, zk9999, zk10000, zk100000, zk99999, zk9999999, zk999999999, zk2147483647, zlc0, zlc1, zlc2, zlc3, zlc4, zlc23, zlc99, zlc100, zlc9999999, zlc999999999999, zlc1073741824, zi_neg, zi_add, zi_sub, zi_mul, zl_neg, zl_add, zl_sub, zl_mul, zi_toInt, zi_nat, zi_le, zi_lt, zi_eq, zl_le, zl_lt, zl_eq, zl_toInt, zl_of32, zi_of64, zi_div, zl_div, zmodI, ↓reduceIte, zTle, zFle, zTlt, zFlt, zTeq, zFeq, if_true, if_false, and_self, and_true, true_and, and_false, false_and, or_self, or_true, true_or, or_false, false_or, not_true_eq_false, not_false_eq_true, zcastA, zcastL, znatC, zab, Int.reduceAdd, Int.reduceSub, Int.reduceMul, Int.reduceNeg, Int.reduceToNat, Nat.reduceAdd]
theorem n_next (S : Strm g L K pl nn ty va) (hL : L ≤ 800) (hg : ∀ i, 0 ≤ g i ∧ g i ≤ 255) (d len : Nat) {Y : zMu} (ν : zNu) {r : Nat → Int32} (hY : CcY g Y) (e6 : r 6 = zi (L : Int)) {k : Nat} (hk : k < K) (hM : MS pl nn ty va r k) : ∃ r', zF zT0 (d + 3) 201 [.ref 92] (zm len (zrw Y 92 r) ν) = some (.null, zm len (zrw Y 92 r') ν) ∧ MS pl nn ty va r' (k + 1) ∧ ∀ i, i ≠ 7 → i ≠ 8 → i ≠ 9 → i ≠ 10 → r' i = r i :=
  F_tkn d len Y ν g L K pl nn ty va hL hg hY.1 hY.2 S (k + 1) hk r e6 hM.1
theorem CcY_n {Y Y' : zMu} {ν ν' : zNu} (h : CcY g Y) (f : frN Y Y' ν ν') : CcY g Y' := ⟨fun i => by rw [f.1 96 (by decide) (by decide) (by decide) (by decide) (by decide) (by decide) (by decide)]; exact h.1 i, fun i hi => by rw [f.1 97 (by decide) (by decide) (by decide) (by decide) (by decide) (by decide) (by decide)]; exact h.2 i hi⟩
theorem NY_n {sy sn : Nat → Nat} {st : Nat → Nat → Int} {Y Y' : zMu} {ν ν' : zNu} (h : NY sy sn st Y) (f : frN Y Y' ν ν') : NY sy sn st Y' := by
  obtain ⟨h1, h2, h3⟩ := h
  refine ⟨fun x hx => ?_, fun x hx => ?_, fun x i hx hi => ?_⟩
  · rw [f.1 95 (by decide) (by decide) (by decide) (by decide) (by decide) (by decide) (by decide)]; exact h1 x hx
  · rw [f.1 93 (by decide) (by decide) (by decide) (by decide) (by decide) (by decide) (by decide)]; exact h2 x hx
  · rw [f.1 94 (by decide) (by decide) (by decide) (by decide) (by decide) (by decide) (by decide)]; exact h3 x i hx hi
end NTOK
/-- the numbers of the line in hand change, the model's -/
theorem mm_set {Y Y' : zMu} {ν ν' : zNu} {ln : Nat → Ln} {n : Nat} {x : Ln} (h : MMd Y ν ln n) (e1 : x.1 = (ln n).1) (e2 : x.2.1 = (ln n).2.1) (o : ∀ i, i < n → Y' 100 (288 + i) = Y 100 (288 + i) ∧ Y' 101 (288 + i) = Y 101 (288 + i) ∧ ν' 102 (288 + i) = ν 102 (288 + i) ∧ Y' 103 (288 + i) = Y 103 (288 + i) ∧ Y' 104 (288 + i) = Y 104 (288 + i) ∧ ∀ j, j < 3 → ν' 105 (3 * (288 + i) + j) = ν 105 (3 * (288 + i) + j) ∧ Y' 106 (3 * (288 + i) + j) = Y 106 (3 * (288 + i) + j)) (hm3 : ∀ i, i < n → (ln i).2.2.2.2.length ≤ 3) (l : Mlin Y' ν' (setL ln n x) n) (c : ∀ g : Nat, g < 8 → (g : Int) ≠ (ln n).2.1 → Y' 110 g = Y 110 g ∧ Y' 111 g = Y 111 g) (c2 : ∀ g : Nat, g < 8 → (g : Int) = (ln n).2.1 → Y' 110 g = zi ((mkF ln (bkF ln n) n).length + x.2.2.2.2.length : Int) ∧ Y' 111 g = zi (if x.2.2.1 = 1 ∨ loF ln (bkF ln n) n ≠ -1 then 1 else 0)) : MMd Y' ν' (setL ln n x) n := by
  obtain ⟨h1, h2⟩ := h
  obtain ⟨ln', hln⟩ : ∃ ln', ln' = setL ln n x := ⟨_, rfl⟩
  have lo : ∀ i, i < n → ln' i = ln i := fun i hi => by rw [hln]; exact setL_o ln _ (by omega)
  have lnn : ln' n = x := by rw [hln]; exact setL_n ln n _
  have bkn : bkF ln' n = bkF ln n := bkF_c lo (by rw [lnn, e2])
  rw [← hln] at l ⊢
  refine ⟨fun i hi => ?_, fun g hg => ?_⟩
  · by_cases z : i = n
    · rw [z]
      exact l
    · have hi' : i < n := by omega
      obtain ⟨a1, a2, a3, a4, a5, a6⟩ := h1 i hi
      obtain ⟨b1, b2, b3, b4, b5, b6⟩ := o i hi'
      unfold Mlin
      rw [lo i hi', b1, b2, b3, b4, b5]
      refine ⟨a1, a2, a3, a4, a5, fun j p hj => ?_⟩
      have := hm3 i hi'
      have hj3 : j < 3 := by
        rcases Nat.lt_or_ge j (ln i).2.2.2.2.length with w | w
        · omega
        · rw [List.getElem?_eq_none w] at hj
          cases hj
      rw [(b6 j hj3).1, (b6 j hj3).2]
      exact a6 j p hj
  · rw [lnn, e2, bkn]
    by_cases z : (g : Int) = (ln n).2.1
    · obtain ⟨d1, d2⟩ := c2 g hg z
      rw [if_pos z, if_pos z]
      refine ⟨?_, ?_⟩
      · rw [d1, mkF_S, mkF_c _ n lo, bkn, if_pos rfl, lnn, List.length_append, List.length_map]
        rfl
      · unfold lo01
        rw [d2, bkn, loF_S, loF_c _ n lo, bkn, lnn]
        by_cases y : x.2.2.1 = 1
        · rw [if_pos (Or.inl y), show (if bkF ln n = bkF ln n ∧ x.2.2.1 = 1 then (n : Int) else loF ln (bkF ln n) n) = (n : Int) from if_pos ⟨rfl, y⟩, if_neg (show ¬ (n : Int) = -1 by omega)]
        · rw [if_neg (show ¬ (bkF ln n = bkF ln n ∧ x.2.2.1 = 1) from fun q => y q.2)]
          by_cases w : loF ln (bkF ln n) n = -1
          · rw [if_pos w, if_neg (fun q => by rcases q with q | q; exact y q; exact q w)]
          · rw [if_neg w, if_pos (Or.inr w)]
    · obtain ⟨d1, d2⟩ := c g hg z
      obtain ⟨f1, f2⟩ := h2 g hg
      rw [if_neg z] at f1 f2
      rw [if_neg z, if_neg z, d1, d2]
      refine ⟨?_, ?_⟩
      · rw [f1]
        unfold cnF
        rw [obF_c n lo, mkF_c _ n lo]
      · rw [f2]
        unfold nuF
        rw [obF_c n lo, loF_c _ n lo]
