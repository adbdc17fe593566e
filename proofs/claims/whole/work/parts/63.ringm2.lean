/-! RINGS: the model's search, all of it -/
section DFS2
variable (d len n : Nat) (ν : zNu) (U : Nat → Nat) (f many : Nat)
theorem Dp_pop {n : Nat} {v : Nat → Nat} {m used : Nat} (h : Dp n v (m + 1) used) : sdf used (2 ^ v m) < 2 ^ n ∧ ∀ x, (sdf used (2 ^ v m)).testBit x = true ↔ ∃ i, i < m ∧ v i = x := by
  obtain ⟨h1, h2, h3, h4⟩ := h
  refine ⟨Nat.lt_of_le_of_lt (sdf_le _ _) h4, fun x => ?_⟩
  rw [sdf_bit, Nat.testBit_two_pow]
  constructor
  · intro hx
    have a : used.testBit x = true ∧ ¬ v m = x := by simpa using hx
    obtain ⟨i, i1, i2⟩ := (h2 x).mp a.1
    refine ⟨i, Nat.lt_of_le_of_ne (by omega) (fun z => a.2 (by rw [← z]; exact i2)), i2⟩
  · rintro ⟨i, i1, i2⟩
    have b : ¬ v m = x := fun z => by
      have := h3 i m (by omega) (by omega) (by rw [i2, z])
      omega
    rw [(h2 x).mpr ⟨i, by omega, i2⟩]
    simp [b]
theorem mask_uni {a b : Nat} {P : Nat → Prop} (ha : ∀ x, a.testBit x = true ↔ P x) (hb : ∀ x, b.testBit x = true ↔ P x) : a = b := by
  apply Nat.eq_of_testBit_eq
  intro i
  cases q : a.testBit i with
  | true => exact ((hb i).mpr ((ha i).mp q)).symm
  | false =>
    cases z : b.testBit i with
    | false => rfl
    | true => rw [(ha i).mpr ((hb i).mp z)] at q; cases q
theorem dfs_fail (μ : zMu) (hR : Rs n U (μ 126)) (hc : μ 92 52 = zi (n : Int)) (hf : f < n) (hm : many ≤ n) : ∀ (k m : Nat) (v : Nat → Nat) (used : Nat), m + k = many → 1 ≤ m → Dp n v m used → v 0 = f → (lb U n f (k + 1)).testBit (v (m - 1)) = false → ∀ (c a : Nat) (μ1 : zMu) (v6 : Value), a + c = n → (∀ r, r ≠ 128 → μ1 r = μ r) → (∀ i, i < m → μ1 128 i = zi (v i : Int)) → ∃ (μ2 : zMu) (v6' : Value), zE zc_X12_rings (zF zT0 (d + 1)) 17 [.ref 92, .int (zi (f : Int)), .int (zi (many : Int)), .int (zi (m : Int)), .int (zi (used : Int)), .int (zi ((a : Int) - 1)), v6] [] (zm len μ1 ν) = zE zc_X12_rings (zF zT0 (d + 1)) 17 [.ref 92, .int (zi (f : Int)), .int (zi (many : Int)), .int (zi ((m : Int) - 1)), .int (zi (sdf used (2 ^ v (m - 1)) : Int)), .int (zi (v (m - 1) : Int)), v6'] [] (zm len μ2 ν) ∧ (∀ r, r ≠ 128 → μ2 r = μ r) ∧ ∀ i, i < m → μ2 128 i = zi (v i : Int) := by
  intro k
  induction k with
  | zero =>
    intro m v used hk h1 hD h0 hl c a μ1 v6 hac e hv
    have vn := hD.1 (m - 1) (by omega)
    refine ⟨μ1, .int (zi (-1)), ?_, e, hv⟩
    refine dfs_pop d len n ν U μ1 f many (by rw [e 126 (by decide)]; exact hR) hm m used a v v6 h1 (by omega) hD (by omega) (hv (m - 1) (by omega)) (fun z => by omega) (fun _ => ?_) hf
    cases z : (U (v (m - 1))).testBit f with
    | false => rfl
    | true => rw [lb_1 vn z] at hl; cases hl
  | succ k ih =>
    intro m v used hk h1 hD h0 hl c
    have vn := hD.1 (m - 1) (by omega)
    induction c using Nat.strongRecOn with
    | _ c ihc =>
      intro a μ1 v6 hac e hv
      have hR1 : Rs n U (μ1 126) := by rw [e 126 (by decide)]; exact hR
      have hc1 : μ1 92 52 = zi (n : Int) := by rw [e 92 (by decide)]; exact hc
      have r0 : μ1 128 0 = zi (f : Int) := by rw [hv 0 (by omega), h0]
      obtain ⟨r, r1, r2⟩ := F_nxt d len n ν U μ1 f (v (m - 1)) used a hR1 hc1 vn hf (by omega) r0
      rcases r2 with ⟨q, q1, q2, q3, q4, q5⟩ | ⟨q1, q2⟩
      · obtain ⟨y1, y2, y3⟩ := nv_t.mp q4
        rw [q1] at r1
        have P := dfs_push d len n ν U μ1 f many hR1 hc1 hf hm m used a q v v6 h1 (by omega) hD r0 (hv (m - 1) (by omega)) r1 q3 (by omega)
        obtain ⟨v', hv'⟩ : ∃ v' : Nat → Nat, v' = fun i => if i = m then q else v i := ⟨_, rfl⟩
        have D' : Dp n v' (m + 1) (used ||| 2 ^ q) := by rw [hv']; exact Dp_push hD q3 y3
        have vm : v' m = q := by rw [hv']; exact if_pos rfl
        have vi : ∀ i, i < m → v' i = v i := fun i hi => by rw [hv']; exact if_neg (by omega)
        have lq : (lb U n f (k + 1)).testBit (v' (m + 1 - 1)) = false := by
          rw [show m + 1 - 1 = m by omega, vm]
          cases z : (lb U n f (k + 1)).testBit q with
          | false => rfl
          | true => rw [lb_S.mpr ⟨vn, q, y2, z⟩] at hl; cases hl
        obtain ⟨μ2, v6', a1, a2, a3⟩ := ih (m + 1) v' (used ||| 2 ^ q) (by omega) (by omega) D' (by rw [vi 0 (by omega)]; exact h0) lq n 0 (zup μ1 128 m (zi (q : Int))) (.int (zi (q : Int))) (by omega) (fun r h => by rw [zup_ne _ _ _ h]; exact e r h) (fun i hi => by
          rw [zup_self]
          by_cases z : i = m
          · rw [z, upd_eq, vm]
          · rw [upd_ne _ _ z, vi i (by omega)]
            exact hv i (by omega))
        rw [show m + 1 - 1 = m by omega, vm] at a1
        have eu : sdf (used ||| 2 ^ q) (2 ^ q) = used := or_sdf y3
        have em : ((m + 1 : Nat) : Int) - 1 = (m : Int) := by omega
        have eq1 : (q : Int) = ((q + 1 : Nat) : Int) - 1 := by omega
        rw [eu, em] at a1
        obtain ⟨μ3, v6'', b1, b2, b3⟩ := ihc (n - (q + 1)) (by omega) (q + 1) μ2 v6' (by omega) a2 (fun i hi => by rw [a3 i (by omega), vi i hi])
        rw [← eq1] at b1
        exact ⟨μ3, v6'', P.trans (a1.trans b1), b2, b3⟩
      · rw [q1] at r1
        refine ⟨μ1, .int (zi (-1)), ?_, e, hv⟩
        exact dfs_pop d len n ν U μ1 f many hR1 hm m used a v v6 h1 (by omega) hD (by omega) (hv (m - 1) (by omega)) (fun _ => r1) (fun z => by omega) hf
theorem dfs_ok (μ : zMu) (hR : Rs n U (μ 126)) (hc : μ 92 52 = zi (n : Int)) (hf : f < n) (hm : 2 ≤ many ∧ many ≤ n) (hcl : clo U n many f) (m1 : ∀ K t, 2 ≤ K → K < many → t < n → ¬ clo U n K t) (m2 : ∀ t, t < f → ¬ clo U n many t) : ∀ (k m used : Nat), m + k = many → 1 ≤ m → Dp n (wr U n many f) m used → ∀ (c a : Nat) (μ1 : zMu) (v6 : Value), a + c = n → (m < many → a ≤ wr U n many f m) → (∀ r, r ≠ 128 → μ1 r = μ r) → (∀ i, i < m → μ1 128 i = zi (wr U n many f i : Int)) → ∃ (μ2 : zMu), zE zc_X12_rings (zF zT0 (d + 1)) 17 [.ref 92, .int (zi (f : Int)), .int (zi (many : Int)), .int (zi (m : Int)), .int (zi (used : Int)), .int (zi ((a : Int) - 1)), v6] [] (zm len μ1 ν) = some (.int (zi 1), zm len μ2 ν) ∧ (∀ r, r ≠ 128 → μ2 r = μ r) ∧ ∀ i, i < many → μ2 128 i = zi (wr U n many f i : Int) := by
  have n10 := hR.1
  have hU1 := fun p => (hR.2 p).2.1
  have hU2 := fun p => (hR.2 p).2
  intro k
  induction k with
  | zero =>
    intro m used hk h1 hD c a μ1 v6 hac hq e hv
    have em : m = many := by omega
    obtain ⟨w1, w2⟩ := wr_ok hU1 hf hcl (m - 1) (by omega)
    rw [show many - (m - 1) = 0 + 1 by omega] at w2
    obtain ⟨_, q, q1, q2⟩ := lb_S.mp w2
    have eq := lb_0.mp q2
    rw [← eq] at q1
    have i1 : ((m : Int) - 1).toNat = m - 1 := by omega
    have h128 := hv (m - 1) (by omega)
    have u : μ1 126 (wr U n many f (m - 1)) = zi (U (wr U n many f (m - 1)) : Int) := by rw [e 126 (by decide)]; exact (hR.2 _).1
    refine ⟨μ1, ?_, e, fun i hi => hv i (by omega)⟩
    rw [B_X12_rings_17, ← em]
    simp (disch := omega) only [i1, h128, u, zb_bit, q1, zbi_some, zbl_some, zbv_some, zbi_none, zbl_none, zbv_none, zbi_ite, zbl_ite, zbv_ite, zbZ, zbO, zc_lt, zc_le, zc_ge, zc_gt, zc_eq, zk0, zk1, zk2, zk3, zk4, zk5, zk6, zk7, zk8, zk9, zk10, zk11, zk12, zk14, zk15, zk16, zk17, zk19, zk20, zk21, zk24, zk25, zk30, zk32, zk36, zk40, zk45, zk50, zk64, zk97, zk99, zk100, zk102, zk122, zk128, zk255, zk800, zk801, zk900, zk999, zk1000, zk1997, zk9999, zk10000, zk100000, zk99999, zk9999999, zk999999999, zk2147483647, zlc0, zlc1, zlc2, zlc3, zlc4, zlc23, zlc99, zlc100, zlc9999999, zlc999999999999, zlc1073741824, zi_neg, zi_add, zi_sub, zi_mul, zl_neg, zl_add, zl_sub, zl_mul, zi_toInt, zi_nat, zi_le, zi_lt, zi_eq, zl_le, zl_lt, zl_eq, zl_toInt, zl_of32, zi_of64, zi_div, zl_div, zmodI, ↓reduceIte, zTle, zFle, zTlt, zFlt, zTeq, zFeq, if_true, if_false, and_self, and_true, true_and, and_false, false_and, or_self, or_true, true_or, or_false, false_or, not_true_eq_false, not_false_eq_true, zcastA, zcastL, znatC, zab, Int.reduceAdd, Int.reduceSub, Int.reduceMul, Int.reduceNeg, Int.reduceToNat, Nat.reduceAdd]
  | succ k ih =>
    intro m used hk h1 hD c
    obtain ⟨w1, w2⟩ := wr_ok hU1 hf hcl (m - 1) (by omega)
    obtain ⟨b1, b2, b3, b4⟩ := wr_S hU1 w2 (by omega)
    rw [show m - 1 + 1 = m by omega] at b1 b2 b3 b4
    obtain ⟨nw1, nw2⟩ := wr_new hU2 hf hcl m1 m2 (m := m) (by omega) (by omega)
    have nu : used.testBit (wr U n many f m) = false := by
      cases z : used.testBit (wr U n many f m) with
      | false => rfl
      | true =>
        obtain ⟨i, i1, i2⟩ := (hD.2.1 _).mp z
        exact absurd i2 (nw2 i i1)
    have good : nv U f (wr U n many f (m - 1)) used (wr U n many f m) = true := nv_t.mpr ⟨nw1, b2, nu⟩
    induction c using Nat.strongRecOn with
    | _ c ihc =>
      intro a μ1 v6 hac hq e hv
      have hq := hq (by omega)
      have hR1 : Rs n U (μ1 126) := by rw [e 126 (by decide)]; exact hR
      have hc1 : μ1 92 52 = zi (n : Int) := by rw [e 92 (by decide)]; exact hc
      have r0 : μ1 128 0 = zi (f : Int) := hv 0 (by omega)
      obtain ⟨r, r1, r2⟩ := F_nxt d len n ν U μ1 f (wr U n many f (m - 1)) used a hR1 hc1 w1 hf (by omega) r0
      rcases r2 with ⟨q, q1, q2, q3, q4, q5⟩ | ⟨q1, q2⟩
      · obtain ⟨y1, y2, y3⟩ := nv_t.mp q4
        rw [q1] at r1
        have P := dfs_push d len n ν U μ1 f many hR1 hc1 hf hm.2 m used a q (wr U n many f) v6 h1 (by omega) hD r0 (hv (m - 1) (by omega)) r1 q3 (by omega)
        by_cases z : q = wr U n many f m
        · have D' : Dp n (wr U n many f) (m + 1) (used ||| 2 ^ q) := by
            have D0 := Dp_push hD q3 y3
            have ev : (fun i => if i = m then q else wr U n many f i) = wr U n many f := by
              funext i
              by_cases w : i = m
              · rw [if_pos w, w, z]
              · rw [if_neg w]
            rw [ev] at D0
            exact D0
          obtain ⟨μ2, a1, a2, a3⟩ := ih (m + 1) (used ||| 2 ^ q) (by omega) (by omega) D' n 0 (zup μ1 128 m (zi (q : Int))) (.int (zi (q : Int))) (by omega) (fun _ => Nat.zero_le _) (fun r h => by rw [zup_ne _ _ _ h]; exact e r h) (fun i hi => by
            rw [zup_self]
            by_cases w : i = m
            · rw [w, upd_eq, z]
            · rw [upd_ne _ _ w]
              exact hv i (by omega))
          exact ⟨μ2, P.trans a1, a2, a3⟩
        · have lt : q < wr U n many f m := by
            refine Nat.lt_of_not_le (fun w => ?_)
            have := q5 (wr U n many f m) hq (by omega)
            rw [good] at this
            cases this
          obtain ⟨v', hv'⟩ : ∃ v' : Nat → Nat, v' = fun i => if i = m then q else wr U n many f i := ⟨_, rfl⟩
          have D' : Dp n v' (m + 1) (used ||| 2 ^ q) := by rw [hv']; exact Dp_push hD q3 y3
          have vm : v' m = q := by rw [hv']; exact if_pos rfl
          have vi : ∀ i, i < m → v' i = wr U n many f i := fun i hi => by rw [hv']; exact if_neg (by omega)
          have lq : (lb U n f (k + 1)).testBit (v' (m + 1 - 1)) = false := by
            rw [show m + 1 - 1 = m by omega, vm, show k + 1 = many - m by omega]
            exact b4 q lt y2
          obtain ⟨μ2, v6', a1, a2, a3⟩ := dfs_fail d len n ν U f many μ hR hc hf hm.2 k (m + 1) v' (used ||| 2 ^ q) (by omega) (by omega) D' (vi 0 (by omega)) lq n 0 (zup μ1 128 m (zi (q : Int))) (.int (zi (q : Int))) (by omega) (fun r h => by rw [zup_ne _ _ _ h]; exact e r h) (fun i hi => by
            rw [zup_self]
            by_cases w : i = m
            · rw [w, upd_eq, vm]
            · rw [upd_ne _ _ w, vi i (by omega)]
              exact hv i (by omega))
          rw [show m + 1 - 1 = m by omega, vm] at a1
          have eu : sdf (used ||| 2 ^ q) (2 ^ q) = used := or_sdf y3
          have em : ((m + 1 : Nat) : Int) - 1 = (m : Int) := by omega
          have eq1 : (q : Int) = ((q + 1 : Nat) : Int) - 1 := by omega
          rw [eu, em] at a1
          obtain ⟨μ3, c1, c2, c3⟩ := ihc (n - (q + 1)) (by omega) (q + 1) μ2 v6' (by omega) (fun _ => by omega) a2 (fun i hi => by rw [a3 i (by omega), vi i hi])
          rw [← eq1] at c1
          exact ⟨μ3, P.trans (a1.trans c1), c2, c3⟩
      · have := q2 (wr U n many f m) hq b1
        rw [good] at this
        cases this
theorem Dp_1 (hf : f < n) : Dp n (fun _ => f) 1 (2 ^ f) := by
  refine ⟨fun i _ => hf, fun x => ?_, fun i j h1 h2 _ => by omega, Nat.pow_lt_pow_right (by decide) hf⟩
  rw [Nat.testBit_two_pow]
  constructor
  · intro h
    exact ⟨0, by omega, by simpa using h⟩
  · rintro ⟨i, _, h⟩
    simp [h]
theorem rings_no (μ : zMu) (hR : Rs n U (μ 126)) (hc : μ 92 52 = zi (n : Int)) (hf : f < n) (hm : 2 ≤ many ∧ many ≤ n) (hcl : ¬ clo U n many f) : ∃ μ2 : zMu, zF zT0 (d + 2) 238 [.ref 92, .int (zi (f : Int)), .int (zi (many : Int))] (zm len μ ν) = some (.int (zi 0), zm len μ2 ν) ∧ ∀ r, r ≠ 128 → μ2 r = μ r := by
  have n10 := hR.1
  have nb : (lb U n f (many - 1 + 1)).testBit f = false := by
    rw [show many - 1 + 1 = many by omega]
    cases z : (lb U n f many).testBit f with
    | false => rfl
    | true => exact absurd z hcl
  obtain ⟨μ2, v6', a1, a2, a3⟩ := dfs_fail d len n ν U f many (zup μ 128 0 (zi (f : Int))) (by rw [zup_ne _ _ _ (by decide)]; exact hR) (by rw [zup_ne _ _ _ (by decide)]; exact hc) hf hm.2 (many - 1) 1 (fun _ => f) (2 ^ f) (by omega) (Nat.le_refl _) (Dp_1 n f hf) rfl nb n 0 (zup μ 128 0 (zi (f : Int))) zU (by omega) (fun r _ => rfl) (fun i hi => by
    have e : i = 0 := by omega
    rw [e]
    rfl)
  have a1' : zE zc_X12_rings (zF zT0 (d + 1)) 17 [.ref 92, .int (zi (f : Int)), .int (zi (many : Int)), .int (zi 1), .int (zi ((2 ^ f : Nat) : Int)), .int (zi (-1)), zU] [] (zm len (zup μ 128 0 (zi (f : Int))) ν) = zE zc_X12_rings (zF zT0 (d + 1)) 17 [.ref 92, .int (zi (f : Int)), .int (zi (many : Int)), .int (zi 0), .int (zi (sdf (2 ^ f) (2 ^ f) : Int)), .int (zi (f : Int)), v6'] [] (zm len μ2 ν) := a1
  refine ⟨μ2, ?_, fun r h => by rw [a2 r h, zup_ne _ _ _ h]⟩
  have e : zF zT0 (d + 2) 238 [.ref 92, .int (zi (f : Int)), .int (zi (many : Int))] (zm len μ ν) = zE zc_X12_rings (zF zT0 (d + 1)) 17 [.ref 92, .int (zi (f : Int)), .int (zi (many : Int)), .int (zi 1), .int (zi ((2 ^ f : Nat) : Int)), .int (zi (-1)), zU] [] (zm len (zup μ 128 0 (zi (f : Int))) ν) := by
    rw [B_X12_rings]
    simp (disch := omega) only [zb_shl, zbi_some, zbl_some, zbv_some, zbi_none, zbl_none, zbv_none, zbi_ite, zbl_ite, zbv_ite, zbZ, zbO, zc_lt, zc_le, zc_ge, zc_gt, zc_eq, zk0, zk1, zk2, zk3, zk4, zk5, zk6, zk7, zk8, zk9, zk10, zk11, zk12, zk14, zk15, zk16, zk17, zk19, zk20, zk21, zk24, zk25, zk30, zk32, zk36, zk40, zk45, zk50, zk64, zk97, zk99, zk100, zk102, zk122, zk128, zk255, zk800, zk801, zk900, zk999, zk1000, zk1997, zk9999, zk10000, zk100000, zk99999, zk9999999, zk999999999, zk2147483647, zlc0, zlc1, zlc2, zlc3, zlc4, zlc23, zlc99, zlc100, zlc9999999, zlc999999999999, zlc1073741824, zi_neg, zi_add, zi_sub, zi_mul, zl_neg, zl_add, zl_sub, zl_mul, zi_toInt, zi_nat, zi_le, zi_lt, zi_eq, zl_le, zl_lt, zl_eq, zl_toInt, zl_of32, zi_of64, zi_div, zl_div, zmodI, ↓reduceIte, zTle, zFle, zTlt, zFlt, zTeq, zFeq, if_true, if_false, and_self, and_true, true_and, and_false, false_and, or_self, or_true, true_or, or_false, false_or, not_true_eq_false, not_false_eq_true, zcastA, zcastL, znatC, zab, Int.reduceAdd, Int.reduceSub, Int.reduceMul, Int.reduceNeg, Int.reduceToNat, Nat.reduceAdd]
  rw [e, a1', B_X12_rings_17]
  simp (disch := omega) only [zbi_some, zbl_some, zbv_some, zbi_none, zbl_none, zbv_none, zbi_ite, zbl_ite, zbv_ite, zbZ, zbO, zc_lt, zc_le, zc_ge, zc_gt, zc_eq, zk0, zk1, zk2, zk3, zk4, zk5, zk6, zk7, zk8, zk9, zk10, zk11, zk12, zk14, zk15, zk16, zk17, zk19, zk20, zk21, zk24, zk25, zk30, zk32, zk36, zk40, zk45, zk50, zk64, zk97, zk99, zk100, zk102, zk122, zk128, zk255, zk800, zk801, zk900, zk999, zk1000, zk1997, zk9999, zk10000, zk100000, zk99999, zk9999999, zk999999999, zk2147483647, zlc0, zlc1, zlc2, zlc3, zlc4, zlc23, zlc99, zlc100, zlc9999999, zlc999999999999, zlc1073741824, zi_neg, zi_add, zi_sub, zi_mul, zl_neg, zl_add, zl_sub, zl_mul, zi_toInt, zi_nat, zi_le, zi_lt, zi_eq, zl_le, zl_lt, zl_eq, zl_toInt, zl_of32, zi_of64, zi_div, zl_div, zmodI, ↓reduceIte, zTle, zFle, zTlt, zFlt, zTeq, zFeq, if_true, if_false, and_self, and_true, true_and, and_false, false_and, or_self, or_true, true_or, or_false, false_or, not_true_eq_false, not_false_eq_true, zcastA, zcastL, znatC, zab, Int.reduceAdd, Int.reduceSub, Int.reduceMul, Int.reduceNeg, Int.reduceToNat, Nat.reduceAdd]
theorem rings_yes (μ : zMu) (hR : Rs n U (μ 126)) (hc : μ 92 52 = zi (n : Int)) (hf : f < n) (hm : 2 ≤ many ∧ many ≤ n) (hcl : clo U n many f) (m1 : ∀ K t, 2 ≤ K → K < many → t < n → ¬ clo U n K t) (m2 : ∀ t, t < f → ¬ clo U n many t) : ∃ μ2 : zMu, zF zT0 (d + 2) 238 [.ref 92, .int (zi (f : Int)), .int (zi (many : Int))] (zm len μ ν) = some (.int (zi 1), zm len μ2 ν) ∧ (∀ r, r ≠ 128 → μ2 r = μ r) ∧ ∀ i, i < many → μ2 128 i = zi (wr U n many f i : Int) := by
  have n10 := hR.1
  have D1 : Dp n (wr U n many f) 1 (2 ^ f) := by
    obtain ⟨h1, h2, h3, h4⟩ := Dp_1 n f hf
    refine ⟨fun i hi => ?_, fun x => ?_, fun i j h1 h2 _ => by omega, h4⟩
    · have e : i = 0 := by omega
      rw [e]
      exact hf
    · rw [h2 x]
      constructor
      · rintro ⟨i, i1, i2⟩
        exact ⟨0, by omega, i2⟩
      · rintro ⟨i, i1, i2⟩
        have e : i = 0 := by omega
        rw [e] at i2
        exact ⟨0, by omega, i2⟩
  obtain ⟨μ2, a1, a2, a3⟩ := dfs_ok d len n ν U f many (zup μ 128 0 (zi (f : Int))) (by rw [zup_ne _ _ _ (by decide)]; exact hR) (by rw [zup_ne _ _ _ (by decide)]; exact hc) hf hm hcl m1 m2 (many - 1) 1 (2 ^ f) (by omega) (Nat.le_refl _) D1 n 0 (zup μ 128 0 (zi (f : Int))) zU (by omega) (fun _ => Nat.zero_le _) (fun r _ => rfl) (fun i hi => by
    have e : i = 0 := by omega
    rw [e]
    rfl)
  have a1' : zE zc_X12_rings (zF zT0 (d + 1)) 17 [.ref 92, .int (zi (f : Int)), .int (zi (many : Int)), .int (zi 1), .int (zi ((2 ^ f : Nat) : Int)), .int (zi (-1)), zU] [] (zm len (zup μ 128 0 (zi (f : Int))) ν) = some (.int (zi 1), zm len μ2 ν) := a1
  refine ⟨μ2, ?_, fun r h => by rw [a2 r h, zup_ne _ _ _ h], a3⟩
  rw [← a1', B_X12_rings]
  simp (disch := omega) only [zb_shl, zbi_some, zbl_some, zbv_some, zbi_none, zbl_none, zbv_none, zbi_ite, zbl_ite, zbv_ite, zbZ, zbO, zc_lt, zc_le, zc_ge, zc_gt, zc_eq, zk0, zk1, zk2, zk3, zk4, zk5, zk6, zk7, zk8, zk9, zk10, zk11, zk12, zk14, zk15, zk16, zk17, zk19, zk20, zk21, zk24, zk25, zk30, zk32, zk36, zk40, zk45, zk50, zk64, zk97, zk99, zk100, zk102, zk122, zk128, zk255, zk800, zk801, zk900, zk999, zk1000, zk1997, zk9999, zk10000, zk100000, zk99999, zk9999999, zk999999999, zk2147483647, zlc0, zlc1, zlc2, zlc3, zlc4, zlc23, zlc99, zlc100, zlc9999999, zlc999999999999, zlc1073741824, zi_neg, zi_add, zi_sub, zi_mul, zl_neg, zl_add, zl_sub, zl_mul, zi_toInt, zi_nat, zi_le, zi_lt, zi_eq, zl_le, zl_lt, zl_eq, zl_toInt, zl_of32, zi_of64, zi_div, zl_div, zmodI, ↓reduceIte, zTle, zFle, zTlt, zFlt, zTeq, zFeq, if_true, if_false, and_self, and_true, true_and, and_false, false_and, or_self, or_true, true_or, or_false, false_or, not_true_eq_false, not_false_eq_true, zcastA, zcastL, znatC, zab, Int.reduceAdd, Int.reduceSub, Int.reduceMul, Int.reduceNeg, Int.reduceToNat, Nat.reduceAdd]
theorem mr_s (μ : zMu) (hR : Rs n U (μ 126)) (hc : μ 92 52 = zi (n : Int)) (hm : 2 ≤ many ∧ many ≤ n) : ∀ (m s : Nat) (μ1 : zMu), s + m ≤ n → (∀ t, s ≤ t → t < s + m → ¬ clo U n many t) → (∀ r, r ≠ 128 → μ1 r = μ r) → ∃ μ' : zMu, zE zc_X12_ringMany (zF zT0 (d + 2)) 12 [.ref 92, .int (zi (many : Int)), .int (zi (s : Int))] [] (zm len μ1 ν) = zE zc_X12_ringMany (zF zT0 (d + 2)) 12 [.ref 92, .int (zi (many : Int)), .int (zi ((s + m : Nat) : Int))] [] (zm len μ' ν) ∧ ∀ r, r ≠ 128 → μ' r = μ r := by
  have n10 := hR.1
  intro m
  induction m with
  | zero => exact fun s μ1 _ _ e => ⟨μ1, rfl, e⟩
  | succ m ih =>
    intro s μ1 hs no e
    have e52 : μ1 92 52 = zi (n : Int) := by rw [e 92 (by decide)]; exact hc
    obtain ⟨μ2, a, b⟩ := rings_no d len n ν U s many μ1 (by rw [e 126 (by decide)]; exact hR) e52 (by omega) hm (no s (Nat.le_refl _) (by omega))
    obtain ⟨μ', z1, z2⟩ := ih (s + 1) μ2 (by omega) (fun t h1 h2 => no t (by omega) (by omega)) (fun r h => by rw [b r h]; exact e r h)
    refine ⟨μ', ?_, z2⟩
    rw [show s + (m + 1) = s + 1 + m by omega, ← z1, B_X12_ringMany_12]
    simp (disch := omega) only [e52, a, B_X12_ringMany_26, zbi_some, zbl_some, zbv_some, zbi_none, zbl_none, zbv_none, zbi_ite, zbl_ite, zbv_ite, zbZ, zbO, zc_lt, zc_le, zc_ge, zc_gt, zc_eq, zk0, zk1, zk2, zk3, zk4, zk5, zk6, zk7, zk8, zk9, zk10, zk11, zk12, zk14, zk15, zk16, zk17, zk19, zk20, zk21, zk24, zk25, zk30, zk32, zk36, zk40, zk45, zk50, zk64, zk97, zk99, zk100, zk102, zk122, zk128, zk255, zk800, zk801, zk900, zk999, zk1000, zk1997, zk9999, zk10000, zk100000, zk99999, zk9999999, zk999999999, zk2147483647, zlc0, zlc1, zlc2, zlc3, zlc4, zlc23, zlc99, zlc100, zlc9999999, zlc999999999999, zlc1073741824, zi_neg, zi_add, zi_sub, zi_mul, zl_neg, zl_add, zl_sub, zl_mul, zi_toInt, zi_nat, zi_le, zi_lt, zi_eq, zl_le, zl_lt, zl_eq, zl_toInt, zl_of32, zi_of64, zi_div, zl_div, zmodI, ↓reduceIte, zTle, zFle, zTlt, zFlt, zTeq, zFeq, if_true, if_false, and_self, and_true, true_and, and_false, false_and, or_self, or_true, true_or, or_false, false_or, not_true_eq_false, not_false_eq_true, zcastA, zcastL, znatC, zab, Int.reduceAdd, Int.reduceSub, Int.reduceMul, Int.reduceNeg, Int.reduceToNat, Nat.reduceAdd]
theorem mr_L (μ : zMu) (hR : Rs n U (μ 126)) (hc : μ 92 52 = zi (n : Int)) : ∀ (m L : Nat) (μ1 : zMu) (v : Value), 2 ≤ L → L + m ≤ n → (∀ K t, L ≤ K → K < L + m → t < n → ¬ clo U n K t) → (∀ r, r ≠ 128 → μ1 r = μ r) → ∃ (μ' : zMu) (v' : Value), zE zc_X12_ringMany (zF zT0 (d + 2)) 2 [.ref 92, .int (zi (L : Int)), v] [] (zm len μ1 ν) = zE zc_X12_ringMany (zF zT0 (d + 2)) 2 [.ref 92, .int (zi ((L + m : Nat) : Int)), v'] [] (zm len μ' ν) ∧ ∀ r, r ≠ 128 → μ' r = μ r := by
  have n10 := hR.1
  intro m
  induction m with
  | zero => exact fun L μ1 v _ _ _ e => ⟨μ1, v, rfl, e⟩
  | succ m ih =>
    intro L μ1 v h2 hs no e
    have e52 : μ1 92 52 = zi (n : Int) := by rw [e 92 (by decide)]; exact hc
    obtain ⟨μ2, a, b⟩ := mr_s d len n ν U L μ1 (by rw [e 126 (by decide)]; exact hR) e52 ⟨h2, by omega⟩ n 0 μ1 (by omega) (fun t _ h => no L t (Nat.le_refl _) (by omega) (by omega)) (fun r _ => rfl)
    rw [Nat.zero_add] at a
    have a' : zE zc_X12_ringMany (zF zT0 (d + 2)) 12 [.ref 92, .int (zi (L : Int)), .int (zi 0)] [] (zm len μ1 ν) = zE zc_X12_ringMany (zF zT0 (d + 2)) 12 [.ref 92, .int (zi (L : Int)), .int (zi (n : Int))] [] (zm len μ2 ν) := a
    have c52 : μ2 92 52 = zi (n : Int) := by rw [b 92 (by decide)]; exact e52
    have fin : zE zc_X12_ringMany (zF zT0 (d + 2)) 12 [.ref 92, .int (zi (L : Int)), .int (zi (n : Int))] [] (zm len μ2 ν) = zE zc_X12_ringMany (zF zT0 (d + 2)) 2 [.ref 92, .int (zi ((L + 1 : Nat) : Int)), .int (zi (n : Int))] [] (zm len μ2 ν) := by
      rw [B_X12_ringMany_12]
      simp (disch := omega) only [c52, zbi_some, zbl_some, zbv_some, zbi_none, zbl_none, zbv_none, zbi_ite, zbl_ite, zbv_ite, zbZ, zbO, zc_lt, zc_le, zc_ge, zc_gt, zc_eq, zk0, zk1, zk2, zk3, zk4, zk5, zk6, zk7, zk8, zk9, zk10, zk11, zk12, zk14, zk15, zk16, zk17, zk19, zk20, zk21, zk24, zk25, zk30, zk32, zk36, zk40, zk45, zk50, zk64, zk97, zk99, zk100, zk102, zk122, zk128, zk255, zk800, zk801, zk900, zk999, zk1000, zk1997, zk9999, zk10000, zk100000, zk99999, zk9999999, zk999999999, zk2147483647, zlc0, zlc1, zlc2, zlc3, zlc4, zlc23, zlc99, zlc100, zlc9999999, zlc999999999999, zlc1073741824, zi_neg, zi_add, zi_sub, zi_mul, zl_neg, zl_add, zl_sub, zl_mul, zi_toInt, zi_nat, zi_le, zi_lt, zi_eq, zl_le, zl_lt, zl_eq, zl_toInt, zl_of32, zi_of64, zi_div, zl_div, zmodI, ↓reduceIte, zTle, zFle, zTlt, zFlt, zTeq, zFeq, if_true, if_false, and_self, and_true, true_and, and_false, false_and, or_self, or_true, true_or, or_false, false_or, not_true_eq_false, not_false_eq_true, zcastA, zcastL, znatC, zab, Int.reduceAdd, Int.reduceSub, Int.reduceMul, Int.reduceNeg, Int.reduceToNat, Nat.reduceAdd]
    obtain ⟨μ', v', z1, z2⟩ := ih (L + 1) μ2 (.int (zi (n : Int))) (by omega) (by omega) (fun K t k1 k2 k3 => no K t (by omega) (by omega) k3) (fun r h => by rw [b r h]; exact e r h)
    refine ⟨μ', v', ?_, z2⟩
    rw [show L + (m + 1) = L + 1 + m by omega, ← z1, ← fin, ← a', B_X12_ringMany_2]
    simp (disch := omega) only [e52, zbi_some, zbl_some, zbv_some, zbi_none, zbl_none, zbv_none, zbi_ite, zbl_ite, zbv_ite, zbZ, zbO, zc_lt, zc_le, zc_ge, zc_gt, zc_eq, zk0, zk1, zk2, zk3, zk4, zk5, zk6, zk7, zk8, zk9, zk10, zk11, zk12, zk14, zk15, zk16, zk17, zk19, zk20, zk21, zk24, zk25, zk30, zk32, zk36, zk40, zk45, zk50, zk64, zk97, zk99, zk100, zk102, zk122, zk128, zk255, zk800, zk801, zk900, zk999, zk1000, zk1997, zk9999, zk10000, zk100000, zk99999, zk9999999, zk999999999, zk2147483647, zlc0, zlc1, zlc2, zlc3, zlc4, zlc23, zlc99, zlc100, zlc9999999, zlc999999999999, zlc1073741824, zi_neg, zi_add, zi_sub, zi_mul, zl_neg, zl_add, zl_sub, zl_mul, zi_toInt, zi_nat, zi_le, zi_lt, zi_eq, zl_le, zl_lt, zl_eq, zl_toInt, zl_of32, zi_of64, zi_div, zl_div, zmodI, ↓reduceIte, zTle, zFle, zTlt, zFlt, zTeq, zFeq, if_true, if_false, and_self, and_true, true_and, and_false, false_and, or_self, or_true, true_or, or_false, false_or, not_true_eq_false, not_false_eq_true, zcastA, zcastL, znatC, zab, Int.reduceAdd, Int.reduceSub, Int.reduceMul, Int.reduceNeg, Int.reduceToNat, Nat.reduceAdd]
theorem F_mring (μ : zMu) (L s : Nat) (hR : Rs n U (μ 126)) (hc : μ 92 52 = zi (n : Int)) (hL : 2 ≤ L ∧ L ≤ n) (hs : s < n) (hcl : clo U n L s) (m1 : ∀ K t, 2 ≤ K → K < L → t < n → ¬ clo U n K t) (m2 : ∀ t, t < s → ¬ clo U n L t) : ∃ μ' : zMu, zF zT0 (d + 3) 239 [.ref 92] (zm len μ ν) = some (.int (zi (L : Int)), zm len μ' ν) ∧ (∀ r, r ≠ 128 → μ' r = μ r) ∧ ∀ j, j < L → μ' 128 j = zi (wr U n L s j : Int) := by
  have n10 := hR.1
  obtain ⟨μ1, v1, a1, b1⟩ := mr_L d len n ν U μ hR hc (L - 2) 2 μ zU (Nat.le_refl _) (by omega) (fun K t h1 h2 h3 => m1 K t h1 (by omega) h3) (fun r _ => rfl)
  rw [show 2 + (L - 2) = L by omega] at a1
  have e52 : μ1 92 52 = zi (n : Int) := by rw [b1 92 (by decide)]; exact hc
  obtain ⟨μ2, a2, b2⟩ := mr_s d len n ν U L μ1 (by rw [b1 126 (by decide)]; exact hR) e52 hL s 0 μ1 (by omega) (fun t _ h => m2 t (by omega)) (fun r _ => rfl)
  rw [Nat.zero_add] at a2
  have c126 : Rs n U (μ2 126) := by rw [b2 126 (by decide), b1 126 (by decide)]; exact hR
  have c52 : μ2 92 52 = zi (n : Int) := by rw [b2 92 (by decide)]; exact e52
  obtain ⟨μ3, a3, b3, l3⟩ := rings_yes d len n ν U s L μ2 c126 c52 hs hL hcl m1 m2
  refine ⟨μ3, ?_, fun r h => by rw [b3 r h, b2 r h]; exact b1 r h, l3⟩
  have a1' : zE zc_X12_ringMany (zF zT0 (d + 2)) 2 [.ref 92, .int (zi 2), zU] [] (zm len μ ν) = _ := a1
  have a2' : zE zc_X12_ringMany (zF zT0 (d + 2)) 12 [.ref 92, .int (zi (L : Int)), .int (zi 0)] [] (zm len μ1 ν) = _ := a2
  rw [B_X12_ringMany]
  refine Eq.trans a1' ?_
  have g1 : zE zc_X12_ringMany (zF zT0 (d + 2)) 2 [.ref 92, .int (zi (L : Int)), v1] [] (zm len μ1 ν) = zE zc_X12_ringMany (zF zT0 (d + 2)) 12 [.ref 92, .int (zi (L : Int)), .int (zi 0)] [] (zm len μ1 ν) := by
    rw [B_X12_ringMany_2]
    simp (disch := omega) only [e52, zbi_some, zbl_some, zbv_some, zbi_none, zbl_none, zbv_none, zbi_ite, zbl_ite, zbv_ite, zbZ, zbO, zc_lt, zc_le, zc_ge, zc_gt, zc_eq, zk0, zk1, zk2, zk3, zk4, zk5, zk6, zk7, zk8, zk9, zk10, zk11, zk12, zk14, zk15, zk16, zk17, zk19, zk20, zk21, zk24, zk25, zk30, zk32, zk36, zk40, zk45, zk50, zk64, zk97, zk99, zk100, zk102, zk122, zk128, zk255, zk800, zk801, zk900, zk999, zk1000, zk1997, zk9999, zk10000, zk100000, zk99999, zk9999999, zk999999999, zk2147483647, zlc0, zlc1, zlc2, zlc3, zlc4, zlc23, zlc99, zlc100, zlc9999999, zlc999999999999, zlc1073741824, zi_neg, zi_add, zi_sub, zi_mul, zl_neg, zl_add, zl_sub, zl_mul, zi_toInt, zi_nat, zi_le, zi_lt, zi_eq, zl_le, zl_lt, zl_eq, zl_toInt, zl_of32, zi_of64, zi_div, zl_div, zmodI, ↓reduceIte, zTle, zFle, zTlt, zFlt, zTeq, zFeq, if_true, if_false, and_self, and_true, true_and, and_false, false_and, or_self, or_true, true_or, or_false, false_or, not_true_eq_false, not_false_eq_true, zcastA, zcastL, znatC, zab, Int.reduceAdd, Int.reduceSub, Int.reduceMul, Int.reduceNeg, Int.reduceToNat, Nat.reduceAdd]
  rw [g1, a2', B_X12_ringMany_12]
  simp (disch := omega) only [c52, a3, B_X12_ringMany_26, zbi_some, zbl_some, zbv_some, zbi_none, zbl_none, zbv_none, zbi_ite, zbl_ite, zbv_ite, zbZ, zbO, zc_lt, zc_le, zc_ge, zc_gt, zc_eq, zk0, zk1, zk2, zk3, zk4, zk5, zk6, zk7, zk8, zk9, zk10, zk11, zk12, zk14, zk15, zk16, zk17, zk19, zk20, zk21, zk24, zk25, zk30, zk32, zk36, zk40, zk45, zk50, zk64, zk97, zk99, zk100, zk102, zk122, zk128, zk255, zk800, zk801, zk900, zk999, zk1000, zk1997, zk9999, zk10000, zk100000, zk99999, zk9999999, zk999999999, zk2147483647, zlc0, zlc1, zlc2, zlc3, zlc4, zlc23, zlc99, zlc100, zlc9999999, zlc999999999999, zlc1073741824, zi_neg, zi_add, zi_sub, zi_mul, zl_neg, zl_add, zl_sub, zl_mul, zi_toInt, zi_nat, zi_le, zi_lt, zi_eq, zl_le, zl_lt, zl_eq, zl_toInt, zl_of32, zi_of64, zi_div, zl_div, zmodI, ↓reduceIte, zTle, zFle, zTlt, zFlt, zTeq, zFeq, if_true, if_false, and_self, and_true, true_and, and_false, false_and, or_self, or_true, true_or, or_false, false_or, not_true_eq_false, not_false_eq_true, zcastA, zcastL, znatC, zab, Int.reduceAdd, Int.reduceSub, Int.reduceMul, Int.reduceNeg, Int.reduceToNat, Nat.reduceAdd]
end DFS2
