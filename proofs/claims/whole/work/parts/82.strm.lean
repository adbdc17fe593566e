/-! TOKENS: the row of them, for both sides -/
def prv (pl nn : Nat → Nat) : Nat → Nat
  | 0 => 0
  | k + 1 => pl k + nn k
def Strm (g : Nat → Int) (L K : Nat) (pl nn : Nat → Nat) (ty va : Nat → Int) : Prop :=
  (∀ k, k < K → pl k < L ∧ 1 ≤ nn k ∧ pl k + nn k ≤ L ∧ (g (pl k) ≠ 32 ∧ g (pl k) ≠ 10) ∧ Tok (ty k) (va k) ∧ KC g L (pl k) (nn k) (ty k) (va k) ∧ KM g L (pl k) (nn k) (ty k) (va k)) ∧ (pl K = L ∧ nn K = 0 ∧ ty K = 0 ∧ K ≤ L) ∧ ∀ k, k ≤ K → prv pl nn k ≤ pl k ∧ pl k ≤ L ∧ ∀ j, prv pl nn k ≤ j → j < pl k → g j = 32 ∨ g j = 10
def posF (G N : Nat → Nat) : Nat → Nat
  | 0 => G 0
  | k + 1 => G (posF G N k + N (posF G N k))
theorem strm_ex (g : Nat → Int) (hg : ∀ i, 0 ≤ g i ∧ g i ≤ 255) (L : Nat) (hL : L ≤ 800) : ∃ (K : Nat) (pl nn : Nat → Nat) (ty va : Nat → Int), Strm g L K pl nn ty va := by
  have A : ∀ p : Nat, ∃ q : Nat, p ≤ L → (p ≤ q ∧ q ≤ L ∧ (∀ j, p ≤ j → j < q → g j = 32 ∨ g j = 10) ∧ (q = L ∨ (g q ≠ 32 ∧ g q ≠ 10))) := fun p => by
    by_cases h : p ≤ L
    · obtain ⟨q, hq⟩ := nxt_ex g L (L - p) p (by omega)
      exact ⟨q, fun _ => hq⟩
    · exact ⟨p, fun w => absurd w h⟩
  have B : ∀ p : Nat, ∃ x : Nat × Int × Int, (p < L ∧ g p ≠ 32 ∧ g p ≠ 10) → (Tlen g L p x.1 ∧ Tok x.2.1 x.2.2 ∧ KC g L p x.1 x.2.1 x.2.2 ∧ KM g L p x.1 x.2.1 x.2.2) := fun p => by
    by_cases h : p < L ∧ g p ≠ 32 ∧ g p ≠ 10
    · obtain ⟨n, hn⟩ := Tlen_ex g L p h.1
      obtain ⟨ty, va, h1, h2, h3⟩ := tok_ok g hg L p n hL h.2 hn
      exact ⟨(n, ty, va), fun _ => ⟨hn, h1, h2, h3⟩⟩
    · exact ⟨(0, 0, 0), fun w => absurd w h⟩
  obtain ⟨G, hG⟩ := Classical.axiomOfChoice A
  obtain ⟨F, hF⟩ := Classical.axiomOfChoice B
  obtain ⟨pos, hpos⟩ : ∃ pos, pos = posF G (fun p => (F p).1) := ⟨_, rfl⟩
  have p0 : pos 0 = G 0 := by rw [hpos]; rfl
  have pS : ∀ k, pos (k + 1) = G (pos k + (F (pos k)).1) := fun k => by rw [hpos]; rfl
  have W : ∀ m : Nat, (∃ K, K ≤ m ∧ pos K = L ∧ ∀ k, k < K → pos k < L) ∨ ∀ k, k ≤ m → pos k < L ∧ k ≤ pos k ∧ g (pos k) ≠ 32 ∧ g (pos k) ≠ 10 := by
    intro m
    induction m with
    | zero =>
      obtain ⟨q1, q2, q3, q4⟩ := hG 0 (by omega)
      rw [← p0] at q2 q4
      by_cases z : pos 0 = L
      · exact Or.inl ⟨0, Nat.le_refl _, z, fun k hk => by omega⟩
      · refine Or.inr fun k hk => ?_
        have : k = 0 := by omega
        subst this
        rcases q4 with w | w
        · exact absurd w z
        · exact ⟨by omega, by omega, w⟩
    | succ m ih =>
      rcases ih with ⟨K, k1, k2, k3⟩ | ih
      · exact Or.inl ⟨K, by omega, k2, k3⟩
      · obtain ⟨a1, a2, a3⟩ := ih m (Nat.le_refl _)
        obtain ⟨⟨t1, t2, _⟩, _⟩ := hF (pos m) ⟨a1, a3⟩
        obtain ⟨q1, q2, q3, q4⟩ := hG (pos m + (F (pos m)).1) t2
        rw [← pS m] at q1 q2 q4
        by_cases z : pos (m + 1) = L
        · exact Or.inl ⟨m + 1, Nat.le_refl _, z, fun k hk => (ih k (by omega)).1⟩
        · refine Or.inr fun k hk => ?_
          by_cases y : k = m + 1
          · subst y
            rcases q4 with w | w
            · exact absurd w z
            · exact ⟨by omega, by omega, w⟩
          · exact ih k (by omega)
  obtain ⟨K, k1, k2, k3⟩ : ∃ K, K ≤ L ∧ pos K = L ∧ ∀ k, k < K → pos k < L := by
    rcases W L with w | w
    · exact w
    · have := w L (Nat.le_refl _)
      omega
  have nb : ∀ k, k < K → (g (pos k) ≠ 32 ∧ g (pos k) ≠ 10) ∧ (∀ j, k = j + 1 → pos j + (F (pos j)).1 ≤ L) := by
    intro k
    induction k with
    | zero =>
      intro hk
      obtain ⟨q1, q2, q3, q4⟩ := hG 0 (by omega)
      rw [← p0] at q4
      have := k3 0 hk
      refine ⟨?_, fun j hj => by omega⟩
      rcases q4 with w | w
      · omega
      · exact w
    | succ k ih =>
      intro hk
      have a := ih (by omega)
      have b := k3 k (by omega)
      obtain ⟨⟨t1, t2, _⟩, _⟩ := hF (pos k) ⟨b, a.1⟩
      obtain ⟨q1, q2, q3, q4⟩ := hG (pos k + (F (pos k)).1) t2
      rw [← pS k] at q4
      have c := k3 (k + 1) hk
      refine ⟨?_, fun j hj => by
        have : j = k := by omega
        rw [this]
        exact t2⟩
      rcases q4 with w | w
      · omega
      · exact w
  refine ⟨K, pos, fun k => if k < K then (F (pos k)).1 else 0, fun k => if k < K then (F (pos k)).2.1 else 0, fun k => if k < K then (F (pos k)).2.2 else 0, fun k hk => ?_, ⟨k2, if_neg (Nat.lt_irrefl _), if_neg (Nat.lt_irrefl _), k1⟩, fun k hk => ?_⟩
  · simp only [if_pos hk]
    obtain ⟨t, x, y, z⟩ := hF (pos k) ⟨k3 k hk, (nb k hk).1⟩
    exact ⟨k3 k hk, t.1, t.2.1, (nb k hk).1, x, y, z⟩
  · cases k with
    | zero =>
      obtain ⟨q1, q2, q3, q4⟩ := hG 0 (by omega)
      rw [← p0] at q1 q2 q3
      exact ⟨q1, q2, q3⟩
    | succ k =>
      have hk' : k < K := by omega
      obtain ⟨⟨t1, t2, _⟩, _⟩ := hF (pos k) ⟨k3 k hk', (nb k hk').1⟩
      obtain ⟨q1, q2, q3, q4⟩ := hG (pos k + (F (pos k)).1) t2
      rw [← pS k] at q1 q2 q3
      have e : prv pos (fun k => if k < K then (F (pos k)).1 else 0) (k + 1) = pos k + (F (pos k)).1 := by
        show pos k + (if k < K then (F (pos k)).1 else 0) = _
        rw [if_pos hk']
      rw [e]
      exact ⟨q1, q2, q3⟩
/-- the class's memory while it reads -/
abbrev M4 (μ : zMu) (c a b p : Nat → Int32) : zMu := zrw (zrw (zrw (zrw μ 6 c) 8 a) 9 b) 10 p
def TSr (K : Nat) (pl : Nat → Nat) (ty va : Nat → Int) (a b p : Nat → Int32) : Prop := ∀ i, i < K → a i = zi (ck (ty i) (va i)) ∧ (2 ≤ ty i ∧ ty i ≤ 3 → b i = zi (va i)) ∧ p i = zi (pl i : Int)
theorem TSr_S {K : Nat} {pl : Nat → Nat} {ty va : Nat → Int} {a b p : Nat → Int32} {cv : Int} (h : TSr K pl ty va a b p) (hv : 2 ≤ ty K ∧ ty K ≤ 3 → cv = va K) : TSr (K + 1) pl ty va (upd a K (zi (ck (ty K) (va K)))) (upd b K (zi cv)) (upd p K (zi (pl K : Int))) := fun i hi => by
  by_cases z : i = K
  · subst z
    rw [upd_eq, upd_eq, upd_eq]
    exact ⟨rfl, fun w => by rw [hv w], rfl⟩
  · rw [upd_ne _ _ z, upd_ne _ _ z, upd_ne _ _ z]
    exact h i (by omega)
theorem F_addTok (d len : Nat) (μ : zMu) (ν : zNu) (c a b p : Nat → Int32) (k : Nat) (hk : k ≤ 800) (e5 : c 5 = zi (k : Int)) (x y z : Int32) : zF zT0 (d + 1) 121 [.ref 6, .int x, .int y, .int z] (zm len (M4 μ c a b p) ν) = some (.null, zm len (M4 μ (upd c 5 (zi ((k : Int) + 1))) (upd a k x) (upd b k y) (upd p k z)) ν) := by
  have e801 : Int32.ofNat 801 = zi 801 := rfl
  unfold M4
  rw [B_X10_addToken]
  simp (disch := omega) only [e801, zrw_s, zrw_n, e5, zup_zrw, zup_zrw_n, zbi_some, zbl_some, zbv_some, zbi_none, zbl_none, zbv_none, zbi_ite, zbl_ite, zbv_ite, zbZ, zbO, zc_lt, zc_le, zc_ge, zc_gt, zc_eq, zk0, zk1, zk2, zk3, zk4, zk5, zk6, zk7, zk8, zk9, zk10, zk11, zk12, zk14, zk15, zk16, zk17, zk19, zk20, zk21, zk24, zk25, zk30, zk32, zk36, zk40, zk45, zk50, zk64, zk97, zk99, zk100, zk102, zk122, zk128, zk255, zk800, zk801, zk900, zk999, zk1000, zk1997, zk9999, zk10000, zk100000, zk99999, zk9999999, zk999999999, zk2147483647, zlc0, zlc1, zlc2, zlc3, zlc4, zlc23, zlc99, zlc100, zlc9999999, zlc999999999999, zlc1073741824, zi_neg, zi_add, zi_sub, zi_mul, zl_neg, zl_add, zl_sub, zl_mul, zi_toInt, zi_nat, zi_le, zi_lt, zi_eq, zl_le, zl_lt, zl_eq, zl_toInt, zl_of32, zi_of64, zi_div, zl_div, zmodI, ↓reduceIte, zTle, zFle, zTlt, zFlt, zTeq, zFeq, if_true, if_false, and_self, and_true, true_and, and_false, false_and, or_self, or_true, true_or, or_false, false_or, not_true_eq_false, not_false_eq_true, zcastA, zcastL, znatC, zab, Int.reduceAdd, Int.reduceSub, Int.reduceMul, Int.reduceNeg, Int.reduceToNat, Nat.reduceAdd]
theorem split_loop (d len : Nat) (μ : zMu) (ν : zNu) (g : Nat → Int) (L K : Nat) (pl nn : Nat → Nat) (ty va : Nat → Int) (hL : L ≤ 800) (hg : ∀ i, 0 ≤ g i ∧ g i ≤ 255) (e7 : ∀ i, μ 7 i = zi (g i)) (S : Strm g L K pl nn ty va) : ∀ m k : Nat, k + m = K → ∀ (c a b p : Nat → Int32) (v : Value), c 1 = zi (L : Int) → c 5 = zi (k : Int) → TSr k pl ty va a b p → ∃ (c' a' b' p' : Nat → Int32) (v1 v2 : Value), zE zc_X10_split (zF zT0 (d + 7)) 7 [.ref 6, .int (zi (prv pl nn k : Int)), v] [] (zm len (M4 μ c a b p) ν) = zE zc_X10_split (zF zT0 (d + 7)) 82 [.ref 6, v1, v2] [] (zm len (M4 μ c' a' b' p') ν) ∧ c' 5 = zi ((K : Int) + 1) ∧ TSr (K + 1) pl ty va a' b' p' ∧ ∃ w : Int32, v1 = .int w := by
  obtain ⟨S1, ⟨S2, S3, S4, S5⟩, S6⟩ := S
  have bl : ∀ k, k ≤ K → ∀ (c a b p : Nat → Int32) (v : Value), c 1 = zi (L : Int) → zE zc_X10_split (zF zT0 (d + 7)) 7 [.ref 6, .int (zi (prv pl nn k : Int)), v] [] (zm len (M4 μ c a b p) ν) = zE zc_X10_split (zF zT0 (d + 7)) 7 [.ref 6, .int (zi (pl k : Int)), v] [] (zm len (M4 μ c a b p) ν) := fun k hk c a b p v e1 => by
    obtain ⟨q1, q2, q3⟩ := S6 k hk
    have ee : (prv pl nn k : Int) + ((pl k - prv pl nn k : Nat) : Int) = (pl k : Int) := by omega
    have L1 := zloop (f := fun j => zE zc_X10_split (zF zT0 (d + 7)) 7 [.ref 6, .int (zi ((prv pl nn k : Int) + (j : Int))), v] [] (zm len (M4 μ c a b p) ν)) (n := pl k - prv pl nn k) (fun j hj => by
      show zE _ _ _ _ _ _ = zE _ _ _ _ _ _
      have ix : ((prv pl nn k : Int) + (j : Int)).toNat = prv pl nn k + j := by omega
      rw [B_X10_split_7]
      unfold M4
      rcases q3 (prv pl nn k + j) (by omega) (by omega) with w | w
      · simp (disch := omega) only [zrw_s, zrw_n, e1, ix, e7, w, B_X10_split_66, zbi_some, zbl_some, zbv_some, zbi_none, zbl_none, zbv_none, zbi_ite, zbl_ite, zbv_ite, zbZ, zbO, zc_lt, zc_le, zc_ge, zc_gt, zc_eq, zk0, zk1, zk2, zk3, zk4, zk5, zk6, zk7, zk8, zk9, zk10, zk11, zk12, zk14, zk15, zk16, zk17, zk19, zk20, zk21, zk24, zk25, zk30, zk32, zk36, zk40, zk45, zk50, zk64, zk97, zk99, zk100, zk102, zk122, zk128, zk255, zk800, zk801, zk900, zk999, zk1000, zk1997, zk9999, zk10000, zk100000, zk99999, zk9999999, zk999999999, zk2147483647, zlc0, zlc1, zlc2, zlc3, zlc4, zlc23, zlc99, zlc100, zlc9999999, zlc999999999999, zlc1073741824, zi_neg, zi_add, zi_sub, zi_mul, zl_neg, zl_add, zl_sub, zl_mul, zi_toInt, zi_nat, zi_le, zi_lt, zi_eq, zl_le, zl_lt, zl_eq, zl_toInt, zl_of32, zi_of64, zi_div, zl_div, zmodI, ↓reduceIte, zTle, zFle, zTlt, zFlt, zTeq, zFeq, if_true, if_false, and_self, and_true, true_and, and_false, false_and, or_self, or_true, true_or, or_false, false_or, not_true_eq_false, not_false_eq_true, zcastA, zcastL, znatC, zab, Int.reduceAdd, Int.reduceSub, Int.reduceMul, Int.reduceNeg, Int.reduceToNat, Nat.reduceAdd]
        rw [show (prv pl nn k : Int) + (j : Int) + 1 = (prv pl nn k : Int) + ((j : Int) + 1) by omega]
      · simp (disch := omega) only [zrw_s, zrw_n, e1, ix, e7, w, B_X10_split_66, zbi_some, zbl_some, zbv_some, zbi_none, zbl_none, zbv_none, zbi_ite, zbl_ite, zbv_ite, zbZ, zbO, zc_lt, zc_le, zc_ge, zc_gt, zc_eq, zk0, zk1, zk2, zk3, zk4, zk5, zk6, zk7, zk8, zk9, zk10, zk11, zk12, zk14, zk15, zk16, zk17, zk19, zk20, zk21, zk24, zk25, zk30, zk32, zk36, zk40, zk45, zk50, zk64, zk97, zk99, zk100, zk102, zk122, zk128, zk255, zk800, zk801, zk900, zk999, zk1000, zk1997, zk9999, zk10000, zk100000, zk99999, zk9999999, zk999999999, zk2147483647, zlc0, zlc1, zlc2, zlc3, zlc4, zlc23, zlc99, zlc100, zlc9999999, zlc999999999999, zlc1073741824, zi_neg, zi_add, zi_sub, zi_mul, zl_neg, zl_add, zl_sub, zl_mul, zi_toInt, zi_nat, zi_le, zi_lt, zi_eq, zl_le, zl_lt, zl_eq, zl_toInt, zl_of32, zi_of64, zi_div, zl_div, zmodI, ↓reduceIte, zTle, zFle, zTlt, zFlt, zTeq, zFeq, if_true, if_false, and_self, and_true, true_and, and_false, false_and, or_self, or_true, true_or, or_false, false_or, not_true_eq_false, not_false_eq_true, zcastA, zcastL, znatC, zab, Int.reduceAdd, Int.reduceSub, Int.reduceMul, Int.reduceNeg, Int.reduceToNat, Nat.reduceAdd]
        rw [show (prv pl nn k : Int) + (j : Int) + 1 = (prv pl nn k : Int) + ((j : Int) + 1) by omega])
    have L1 : zE zc_X10_split (zF zT0 (d + 7)) 7 [.ref 6, .int (zi ((prv pl nn k : Int) + ((0 : Nat) : Int))), v] [] (zm len (M4 μ c a b p) ν) = zE zc_X10_split (zF zT0 (d + 7)) 7 [.ref 6, .int (zi ((prv pl nn k : Int) + ((pl k - prv pl nn k : Nat) : Int))), v] [] (zm len (M4 μ c a b p) ν) := L1
    rw [ee, Int.natCast_zero, Int.add_zero] at L1
    exact L1
  intro m
  induction m with
  | zero =>
    intro k hk c a b p v e1 e5 hT
    have : k = K := by omega
    subst this
    refine ⟨upd c 5 (zi ((k : Int) + 1)), upd a k (zi 0), upd b k (zi 0), upd p k (zi (L : Int)), .int (zi (L : Int)), v, ?_, upd_eq _ _ _, ?_, _, rfl⟩
    · rw [bl k (Nat.le_refl _) c a b p v e1, S2, B_X10_split_7]
      have T := F_addTok (d + 6) len μ ν c a b p k (by omega) e5 (zi 0) (zi 0) (zi (L : Int))
      have e1' : (M4 μ c a b p) 6 1 = zi (L : Int) := e1
      simp (disch := omega) only [e1', T, zbi_some, zbl_some, zbv_some, zbi_none, zbl_none, zbv_none, zbi_ite, zbl_ite, zbv_ite, zbZ, zbO, zc_lt, zc_le, zc_ge, zc_gt, zc_eq, zk0, zk1, zk2, zk3, zk4, zk5, zk6, zk7, zk8, zk9, zk10, zk11, zk12, zk14, zk15, zk16, zk17, zk19, zk20, zk21, zk24, zk25, zk30, zk32, zk36, zk40, zk45, zk50, zk64, zk97, zk99, zk100, zk102, zk122, zk128, zk255, zk800, zk801, zk900, zk999, zk1000, zk1997, zk9999, zk10000, zk100000, zk99999, zk9999999, zk999999999, zk2147483647, zlc0, zlc1, zlc2, zlc3, zlc4, zlc23, zlc99, zlc100, zlc9999999, zlc999999999999, zlc1073741824, zi_neg, zi_add, zi_sub, zi_mul, zl_neg, zl_add, zl_sub, zl_mul, zi_toInt, zi_nat, zi_le, zi_lt, zi_eq, zl_le, zl_lt, zl_eq, zl_toInt, zl_of32, zi_of64, zi_div, zl_div, zmodI, ↓reduceIte, zTle, zFle, zTlt, zFlt, zTeq, zFeq, if_true, if_false, and_self, and_true, true_and, and_false, false_and, or_self, or_true, true_or, or_false, false_or, not_true_eq_false, not_false_eq_true, zcastA, zcastL, znatC, zab, Int.reduceAdd, Int.reduceSub, Int.reduceMul, Int.reduceNeg, Int.reduceToNat, Nat.reduceAdd]
    · have := TSr_S (cv := 0) hT (fun w => by rw [S4] at w; omega)
      rw [S4, S2] at this
      exact this
  | succ m ih =>
    intro k hk c a b p v e1 e5 hT
    obtain ⟨h1, h2, h3, ⟨h4, h5⟩, h6, h7, _⟩ := S1 k (by omega)
    have b' := hg (pl k)
    have e1' : (M4 μ c a b p) 6 1 = zi (L : Int) := e1
    have e7' : ∀ i, (M4 μ c a b p) 7 i = zi (g i) := e7
    obtain ⟨x1, _, cv, x3, x4⟩ := h7 (d + 5) len (M4 μ c a b p) ν e7' e1'
    obtain ⟨_, x2, _⟩ := h7 d len (M4 μ c a b p) ν e7' e1'
    have T := F_addTok (d + 6) len μ ν c a b p k (by omega) e5 (zi (ck (ty k) (va k))) (zi cv) (zi (pl k : Int))
    obtain ⟨c', a', b', p', v1, v2, i1, i2, i3, i4⟩ := ih (k + 1) (by omega) (upd c 5 (zi ((k : Int) + 1))) (upd a k (zi (ck (ty k) (va k)))) (upd b k (zi cv)) (upd p k (zi (pl k : Int))) (.int (zi (nn k : Int))) (by rw [upd_ne _ _ (by decide)]; exact e1) (upd_eq _ _ _) (TSr_S hT x3)
    refine ⟨c', a', b', p', v1, v2, ?_, i2, i3, i4⟩
    rw [bl k (by omega) c a b p v e1, B_X10_split_7]
    simp (disch := omega) only [e1', e7', h4, h5, x1, B_X10_split_42, x2, B_X10_split_50, x4, B_X10_split_56, T, B_X10_split_60, B_X10_split_66, zbi_some, zbl_some, zbv_some, zbi_none, zbl_none, zbv_none, zbi_ite, zbl_ite, zbv_ite, zbZ, zbO, zc_lt, zc_le, zc_ge, zc_gt, zc_eq, zk0, zk1, zk2, zk3, zk4, zk5, zk6, zk7, zk8, zk9, zk10, zk11, zk12, zk14, zk15, zk16, zk17, zk19, zk20, zk21, zk24, zk25, zk30, zk32, zk36, zk40, zk45, zk50, zk64, zk97, zk99, zk100, zk102, zk122, zk128, zk255, zk800, zk801, zk900, zk999, zk1000, zk1997, zk9999, zk10000, zk100000, zk99999, zk9999999, zk999999999, zk2147483647, zlc0, zlc1, zlc2, zlc3, zlc4, zlc23, zlc99, zlc100, zlc9999999, zlc999999999999, zlc1073741824, zi_neg, zi_add, zi_sub, zi_mul, zl_neg, zl_add, zl_sub, zl_mul, zi_toInt, zi_nat, zi_le, zi_lt, zi_eq, zl_le, zl_lt, zl_eq, zl_toInt, zl_of32, zi_of64, zi_div, zl_div, zmodI, ↓reduceIte, zTle, zFle, zTlt, zFlt, zTeq, zFeq, if_true, if_false, and_self, and_true, true_and, and_false, false_and, or_self, or_true, true_or, or_false, false_or, not_true_eq_false, not_false_eq_true, zcastA, zcastL, znatC, zab, Int.reduceAdd, Int.reduceSub, Int.reduceMul, Int.reduceNeg, Int.reduceToNat, Nat.reduceAdd]
    rw [show (pl k : Int) + ((nn k : Int) - 1) + 1 = ((prv pl nn (k + 1) : Nat) : Int) by show _ = ((pl k + nn k : Nat) : Int); omega]
    exact i1
theorem F_split (d len : Nat) (μ : zMu) (ν : zNu) (g : Nat → Int) (L K : Nat) (pl nn : Nat → Nat) (ty va : Nat → Int) (hL : L ≤ 800) (hg : ∀ i, 0 ≤ g i ∧ g i ≤ 255) (e7 : ∀ i, μ 7 i = zi (g i)) (e1 : μ 6 1 = zi (L : Int)) (S : Strm g L K pl nn ty va) : ∃ (c a b p : Nat → Int32), zF zT0 (d + 8) 120 [.ref 6] (zm len μ ν) = some (.null, zm len (M4 μ c a b p) ν) ∧ (c 1 = zi 0 ∧ c 5 = zi ((K : Int) + 1) ∧ c 6 = zi 0 ∧ c 7 = zi 0 ∧ c 8 = zi (-1)) ∧ TSr (K + 1) pl ty va a b p := by
  obtain ⟨c, a, b, p, v1, v2, i1, i2, i3, w, i4⟩ := split_loop d len μ ν g L K pl nn ty va hL hg e7 S K 0 (by omega) (upd (μ 6) 5 (zi 0)) (μ 8) (μ 9) (μ 10) zU e1 rfl (fun i hi => by omega)
  subst i4
  have id : M4 μ (upd (μ 6) 5 (zi 0)) (μ 8) (μ 9) (μ 10) = zup μ 6 5 (zi 0) := by
    rw [zup_rw]
    have r8 : μ 8 = (zrw μ 6 (upd (μ 6) 5 (zi 0))) 8 := rfl
    have r9 : μ 9 = (zrw μ 6 (upd (μ 6) 5 (zi 0))) 9 := rfl
    have r10 : μ 10 = (zrw μ 6 (upd (μ 6) 5 (zi 0))) 10 := rfl
    unfold M4
    rw [r8, r9, r10, zrw_id, zrw_id, zrw_id]
  rw [id] at i1
  refine ⟨upd (upd (upd (upd c 1 (zi 0)) 6 (zi 0)) 7 (zi 0)) 8 (zi (-1)), a, b, p, ?_, ⟨rfl, i2, rfl, rfl, rfl⟩, i3⟩
  rw [B_X10_split]
  have i1 : zE zc_X10_split (zF zT0 (d + 7)) 7 [.ref 6, .int (zi 0), zU] [] (zm len (zup μ 6 5 (zi 0)) ν) = zE zc_X10_split (zF zT0 (d + 7)) 82 [.ref 6, .int w, v2] [] (zm len (M4 μ c a b p) ν) := i1
  refine (show _ = zE zc_X10_split (zF zT0 (d + 7)) 7 [.ref 6, .int (zi 0), zU] [] (zm len (zup μ 6 5 (zi 0)) ν) from rfl).trans (i1.trans ?_)
  rw [B_X10_split_82]
  unfold M4
  simp (disch := omega) only [zup_zrw, zup_zrw_n, zbi_some, zbl_some, zbv_some, zbi_none, zbl_none, zbv_none, zbi_ite, zbl_ite, zbv_ite, zbZ, zbO, zc_lt, zc_le, zc_ge, zc_gt, zc_eq, zk0, zk1, zk2, zk3, zk4, zk5, zk6, zk7, zk8, zk9, zk10, zk11, zk12, zk14, zk15, zk16, zk17, zk19, zk20, zk21, zk24, zk25, zk30, zk32, zk36, zk40, zk45, zk50, zk64, zk97, zk99, zk100, zk102, zk122, zk128, zk255, zk800, zk801, zk900, zk999, zk1000, zk1997, zk9999, zk10000, zk100000, zk99999, zk9999999, zk999999999, zk2147483647, zlc0, zlc1, zlc2, zlc3, zlc4, zlc23, zlc99, zlc100, zlc9999999, zlc999999999999, zlc1073741824, zi_neg, zi_add, zi_sub, zi_mul, zl_neg, zl_add, zl_sub, zl_mul, zi_toInt, zi_nat, zi_le, zi_lt, zi_eq, zl_le, zl_lt, zl_eq, zl_toInt, zl_of32, zi_of64, zi_div, zl_div, zmodI, ↓reduceIte, zTle, zFle, zTlt, zFlt, zTeq, zFeq, if_true, if_false, and_self, and_true, true_and, and_false, false_and, or_self, or_true, true_or, or_false, false_or, not_true_eq_false, not_false_eq_true, zcastA, zcastL, znatC, zab, Int.reduceAdd, Int.reduceSub, Int.reduceMul, Int.reduceNeg, Int.reduceToNat, Nat.reduceAdd]
/-- the model's hand on token k -/
def MS (pl nn : Nat → Nat) (ty va : Nat → Int) (r : Nat → Int32) (k : Nat) : Prop := r 7 = zi ((pl k + nn k : Nat) : Int) ∧ r 8 = zi (pl k : Int) ∧ r 9 = zi (mt (ty k)) ∧ (2 ≤ ty k → r 10 = zi (mv (ty k) (va k)))
theorem F_tkn (d len : Nat) (μ : zMu) (ν : zNu) (g : Nat → Int) (L K : Nat) (pl nn : Nat → Nat) (ty va : Nat → Int) (hL : L ≤ 800) (hg : ∀ i, 0 ≤ g i ∧ g i ≤ 255) (e96 : ∀ i, μ 96 i = zi (g i)) (e97 : ∀ i : Nat, i < 80 → μ 97 i = zi (mch i)) (S : Strm g L K pl nn ty va) (k : Nat) (hk : k ≤ K) (r : Nat → Int32) (e6 : r 6 = zi (L : Int)) (er : r 7 = zi (prv pl nn k : Int)) : ∃ r', zF zT0 (d + 3) 201 [.ref 92] (zm len (zrw μ 92 r) ν) = some (.null, zm len (zrw μ 92 r') ν) ∧ MS pl nn ty va r' k ∧ ∀ i, i ≠ 7 → i ≠ 8 → i ≠ 9 → i ≠ 10 → r' i = r i := by
  obtain ⟨S1, ⟨S2, S3, S4, S5⟩, S6⟩ := S
  obtain ⟨q1, q2, q3⟩ := S6 k hk
  have st : zF zT0 (d + 3) 201 [.ref 92] (zm len (zrw μ 92 r) ν) = zE zc_X12_next (zF zT0 (d + 2)) 0 [.ref 92, zU] [] (zm len (zrw μ 92 r) ν) := by
    rw [B_X12_next, B_X12_next_0]
  have ee : (prv pl nn k : Int) + ((pl k - prv pl nn k : Nat) : Int) = (pl k : Int) := by omega
  have L1 := zloop (f := fun j => zE zc_X12_next (zF zT0 (d + 2)) 0 [.ref 92, zU] [] (zm len (zrw μ 92 (upd r 7 (zi ((prv pl nn k : Int) + (j : Int))))) ν)) (n := pl k - prv pl nn k) (fun j hj => by
    show zE _ _ _ _ _ _ = zE _ _ _ _ _ _
    have ix : ((prv pl nn k : Int) + (j : Int)).toNat = prv pl nn k + j := by omega
    rw [B_X12_next_0]
    rcases q3 (prv pl nn k + j) (by omega) (by omega) with w | w
    · simp (disch := omega) only [B_X12_raw, zrw_s, zrw_n, upd_eq, upd_ne, e6, ix, e96, w, B_X12_next_8, B_X12_next_26, zup_zrw, upd_upd, zbi_some, zbl_some, zbv_some, zbi_none, zbl_none, zbv_none, zbi_ite, zbl_ite, zbv_ite, zbZ, zbO, zc_lt, zc_le, zc_ge, zc_gt, zc_eq, zk0, zk1, zk2, zk3, zk4, zk5, zk6, zk7, zk8, zk9, zk10, zk11, zk12, zk14, zk15, zk16, zk17, zk19, zk20, zk21, zk24, zk25, zk30, zk32, zk36, zk40, zk45, zk50, zk64, zk97, zk99, zk100, zk102, zk122, zk128, zk255, zk800, zk801, zk900, zk999, zk1000, zk1997, zk9999, zk10000, zk100000, zk99999, zk9999999, zk999999999, zk2147483647, zlc0, zlc1, zlc2, zlc3, zlc4, zlc23, zlc99, zlc100, zlc9999999, zlc999999999999, zlc1073741824, zi_neg, zi_add, zi_sub, zi_mul, zl_neg, zl_add, zl_sub, zl_mul, zi_toInt, zi_nat, zi_le, zi_lt, zi_eq, zl_le, zl_lt, zl_eq, zl_toInt, zl_of32, zi_of64, zi_div, zl_div, zmodI, ↓reduceIte, zTle, zFle, zTlt, zFlt, zTeq, zFeq, if_true, if_false, and_self, and_true, true_and, and_false, false_and, or_self, or_true, true_or, or_false, false_or, not_true_eq_false, not_false_eq_true, zcastA, zcastL, znatC, zab, Int.reduceAdd, Int.reduceSub, Int.reduceMul, Int.reduceNeg, Int.reduceToNat, Nat.reduceAdd]
      rw [show (prv pl nn k : Int) + (j : Int) + 1 = (prv pl nn k : Int) + ((j : Int) + 1) by omega]
    · simp (disch := omega) only [B_X12_raw, zrw_s, zrw_n, upd_eq, upd_ne, e6, ix, e96, w, B_X12_next_8, B_X12_next_21, B_X12_next_26, zup_zrw, upd_upd, zbi_some, zbl_some, zbv_some, zbi_none, zbl_none, zbv_none, zbi_ite, zbl_ite, zbv_ite, zbZ, zbO, zc_lt, zc_le, zc_ge, zc_gt, zc_eq, zk0, zk1, zk2, zk3, zk4, zk5, zk6, zk7, zk8, zk9, zk10, zk11, zk12, zk14, zk15, zk16, zk17, zk19, zk20, zk21, zk24, zk25, zk30, zk32, zk36, zk40, zk45, zk50, zk64, zk97, zk99, zk100, zk102, zk122, zk128, zk255, zk800, zk801, zk900, zk999, zk1000, zk1997, zk9999, zk10000, zk100000, zk99999, zk9999999, zk999999999, zk2147483647, zlc0, zlc1, zlc2, zlc3, zlc4, zlc23, zlc99, zlc100, zlc9999999, zlc999999999999, zlc1073741824, zi_neg, zi_add, zi_sub, zi_mul, zl_neg, zl_add, zl_sub, zl_mul, zi_toInt, zi_nat, zi_le, zi_lt, zi_eq, zl_le, zl_lt, zl_eq, zl_toInt, zl_of32, zi_of64, zi_div, zl_div, zmodI, ↓reduceIte, zTle, zFle, zTlt, zFlt, zTeq, zFeq, if_true, if_false, and_self, and_true, true_and, and_false, false_and, or_self, or_true, true_or, or_false, false_or, not_true_eq_false, not_false_eq_true, zcastA, zcastL, znatC, zab, Int.reduceAdd, Int.reduceSub, Int.reduceMul, Int.reduceNeg, Int.reduceToNat, Nat.reduceAdd]
      rw [show (prv pl nn k : Int) + (j : Int) + 1 = (prv pl nn k : Int) + ((j : Int) + 1) by omega])
  have L1 : zE zc_X12_next (zF zT0 (d + 2)) 0 [.ref 92, zU] [] (zm len (zrw μ 92 (upd r 7 (zi ((prv pl nn k : Int) + ((0 : Nat) : Int))))) ν) = zE zc_X12_next (zF zT0 (d + 2)) 0 [.ref 92, zU] [] (zm len (zrw μ 92 (upd r 7 (zi ((prv pl nn k : Int) + ((pl k - prv pl nn k : Nat) : Int))))) ν) := L1
  rw [ee, Int.natCast_zero, Int.add_zero, upd_idx er] at L1
  by_cases z : k < K
  · obtain ⟨h1, h2, h3, h45, h6, _, h8⟩ := S1 k z
    obtain ⟨r', s1, t1, t2, t3, t4, t5⟩ := h8 d len μ ν (upd r 7 (zi (pl k : Int))) zU e96 e97 (by rw [upd_ne _ _ (by decide)]; exact e6) (upd_eq _ _ _)
    exact ⟨r', st.trans (L1.trans s1), ⟨t1, t2, t3, t4⟩, fun i i7 i8 i9 i10 => by rw [t5 i i7 i8 i9 i10, upd_ne _ _ i7]⟩
  · have : k = K := by omega
    subst this
    rw [S2] at L1
    refine ⟨upd (upd (upd (upd r 7 (zi (L : Int))) 8 (zi (L : Int))) 9 (zi 1)) 9 (zi 0), st.trans (L1.trans ?_), ⟨by rw [S2, S3]; rfl, by rw [S2]; rfl, by rw [S4]; rfl, fun w => by omega⟩, fun i i7 i8 i9 i10 => by rw [upd_ne _ _ i9, upd_ne _ _ i9, upd_ne _ _ i8, upd_ne _ _ i7]⟩
    rw [B_X12_next_0]
    simp (disch := omega) only [B_X12_raw, zrw_s, zrw_n, upd_eq, upd_ne, e6, B_X12_next_8, B_X12_next_21, zup_zrw, B_X12_next_60, zbi_some, zbl_some, zbv_some, zbi_none, zbl_none, zbv_none, zbi_ite, zbl_ite, zbv_ite, zbZ, zbO, zc_lt, zc_le, zc_ge, zc_gt, zc_eq, zk0, zk1, zk2, zk3, zk4, zk5, zk6, zk7, zk8, zk9, zk10, zk11, zk12, zk14, zk15, zk16, zk17, zk19, zk20, zk21, zk24, zk25, zk30, zk32, zk36, zk40, zk45, zk50, zk64, zk97, zk99, zk100, zk102, zk122, zk128, zk255, zk800, zk801, zk900, zk999, zk1000, zk1997, zk9999, zk10000, zk100000, zk99999, zk9999999, zk999999999, zk2147483647, zlc0, zlc1, zlc2, zlc3, zlc4, zlc23, zlc99, zlc100, zlc9999999, zlc999999999999, zlc1073741824, zi_neg, zi_add, zi_sub, zi_mul, zl_neg, zl_add, zl_sub, zl_mul, zi_toInt, zi_nat, zi_le, zi_lt, zi_eq, zl_le, zl_lt, zl_eq, zl_toInt, zl_of32, zi_of64, zi_div, zl_div, zmodI, ↓reduceIte, zTle, zFle, zTlt, zFlt, zTeq, zFeq, if_true, if_false, and_self, and_true, true_and, and_false, false_and, or_self, or_true, true_or, or_false, false_or, not_true_eq_false, not_false_eq_true, zcastA, zcastL, znatC, zab, Int.reduceAdd, Int.reduceSub, Int.reduceMul, Int.reduceNeg, Int.reduceToNat, Nat.reduceAdd]
