/-! RINGS, apart from any machine -/
def mkm (P : Nat → Bool) : Nat → Nat
  | 0 => 0
  | k + 1 => if P k = true then mkm P k ||| 2 ^ k else mkm P k
theorem mkm_bit (P : Nat → Bool) (i : Nat) : ∀ k, (mkm P k).testBit i = (decide (i < k) && P i)
  | 0 => by
    show (0 : Nat).testBit i = _
    rw [Nat.zero_testBit]
    simp
  | k + 1 => by
    unfold mkm
    cases q : P k with
    | true =>
      rw [if_pos rfl, or_bit, mkm_bit P i k]
      by_cases z : k = i
      · subst z
        simp [q]
      · have h1 : (i < k + 1) = (i < k) := propext (by omega)
        simp [z, h1]
    | false =>
      rw [if_neg (by simp), mkm_bit P i k]
      by_cases z : i = k
      · subst z
        simp [q]
      · have h1 : (i < k + 1) = (i < k) := propext (by omega)
        simp [h1]
theorem mkm_lt (P : Nat → Bool) (n : Nat) : mkm P n < 2 ^ n := by
  apply Nat.lt_pow_two_of_testBit
  intro i hi
  rw [mkm_bit]
  have : ¬ i < n := by omega
  simp [this]
/-- from which one comes to t by i steps to what lies under -/
def lb (U : Nat → Nat) (n t : Nat) : Nat → Nat
  | 0 => 2 ^ t
  | i + 1 => mkm (fun p => decide (U p &&& lb U n t i ≠ 0)) n
theorem and_nz {a b : Nat} : a &&& b ≠ 0 ↔ ∃ i, a.testBit i = true ∧ b.testBit i = true := by
  constructor
  · intro h
    obtain ⟨i, hi⟩ := nz_bit h
    rw [Nat.testBit_and] at hi
    exact ⟨i, by simpa using hi⟩
  · rintro ⟨i, h1, h2⟩ h
    have e := Nat.testBit_and a b i
    rw [h, h1, h2, Nat.zero_testBit] at e
    cases e
theorem lb_0 {U : Nat → Nat} {n t p : Nat} : (lb U n t 0).testBit p = true ↔ t = p := by
  show (2 ^ t).testBit p = true ↔ _
  rw [Nat.testBit_two_pow]
  simp
theorem lb_S {U : Nat → Nat} {n t i p : Nat} : (lb U n t (i + 1)).testBit p = true ↔ p < n ∧ ∃ q, (U p).testBit q = true ∧ (lb U n t i).testBit q = true := by
  show (mkm (fun p => decide (U p &&& lb U n t i ≠ 0)) n).testBit p = true ↔ _
  rw [mkm_bit, ← and_nz]
  simp
/-- walks one behind the other -/
theorem lb_cat {U : Nat → Nat} {n w t j : Nat} (h : (lb U n t j).testBit w = true) : ∀ {i v : Nat}, (lb U n w i).testBit v = true → (lb U n t (i + j)).testBit v = true
  | 0, v, hv => by
    have e := lb_0.mp hv
    rw [← e, Nat.zero_add]
    exact h
  | i + 1, v, hv => by
    obtain ⟨h1, q, h2, h3⟩ := lb_S.mp hv
    rw [show i + 1 + j = (i + j) + 1 by omega]
    exact lb_S.mpr ⟨h1, q, h2, lb_cat h h3⟩
theorem lb_1 {U : Nat → Nat} {n v q : Nat} (hv : v < n) (h : (U v).testBit q = true) : (lb U n q 1).testBit v = true := lb_S.mpr ⟨hv, q, h, lb_0.mpr rfl⟩
/-- a closed way of L steps from s -/
def clo (U : Nat → Nat) (n L s : Nat) : Prop := (lb U n s L).testBit s = true
theorem least_ex {P : Nat → Prop} : ∀ {x : Nat}, P x → ∃ y, P y ∧ y ≤ x ∧ ∀ z, z < y → ¬ P z := by
  intro x
  induction x using Nat.strongRecOn with
  | _ x ih =>
    intro hx
    by_cases c : ∃ z, z < x ∧ P z
    · obtain ⟨z, z1, z2⟩ := c
      obtain ⟨y, y1, y2, y3⟩ := ih z z1 z2
      exact ⟨y, y1, by omega, y3⟩
    · exact ⟨x, hx, Nat.le_refl x, fun z hz hP => c ⟨z, hz, hP⟩⟩
/-- n + 1 of what is below n: two are the same -/
theorem pigeon : ∀ (n : Nat) (f : Nat → Nat), (∀ i, i ≤ n → f i < n) → ∃ i j, i < j ∧ j ≤ n ∧ f i = f j
  | 0, f, h => by
    have := h 0 (by omega)
    omega
  | n + 1, f, h => by
    by_cases c : ∃ i, i ≤ n ∧ f i = f (n + 1)
    · obtain ⟨i, i1, i2⟩ := c
      exact ⟨i, n + 1, by omega, by omega, i2⟩
    · obtain ⟨i, j, h1, h2, h3⟩ := pigeon n (fun i => if f i = n then f (n + 1) else f i) (fun i hi => by
        have a := h i (by omega)
        have b := h (n + 1) (by omega)
        have d : ¬ f i = f (n + 1) := fun z => c ⟨i, hi, z⟩
        show (if f i = n then f (n + 1) else f i) < n
        split <;> omega)
      refine ⟨i, j, h1, by omega, ?_⟩
      have e : (if f i = n then f (n + 1) else f i) = if f j = n then f (n + 1) else f j := h3
      have di : ¬ f i = f (n + 1) := fun z => c ⟨i, by omega, z⟩
      have dj : ¬ f j = f (n + 1) := fun z => c ⟨j, by omega, z⟩
      by_cases c1 : f i = n
      · by_cases c2 : f j = n
        · omega
        · rw [if_pos c1, if_neg c2] at e
          exact absurd e.symm dj
      · by_cases c2 : f j = n
        · rw [if_neg c1, if_pos c2] at e
          exact absurd e di
        · rw [if_neg c1, if_neg c2] at e
          exact e
/-- without an order there is a RING -/
theorem ring_ex {U : Nat → Nat} {n : Nat} (hU : ∀ p, U p < 2 ^ n ∧ (U p).testBit p = false) (h : oB U n 0 = 0) : ∃ L s, 2 ≤ L ∧ L ≤ n ∧ s < n ∧ clo U n L s := by
  have st : ∃ i, i < n ∧ (∀ j, j < i → ∃ p, p < n ∧ oE U (gs U n j) p = true) ∧ ¬ ∃ p, p < n ∧ oE U (gs U n i) p = true := by
    have c : ∃ i, i < n ∧ ¬ ∃ p, p < n ∧ oE U (gs U n i) p = true := by
      refine Classical.byContradiction (fun c => ?_)
      refine gs_no (W := U) (n := n) (fun i hi => ?_) h
      exact Classical.byContradiction (fun z => c ⟨i, hi, z⟩)
    obtain ⟨x, x1⟩ := c
    obtain ⟨y, y1, y2, y3⟩ := least_ex (P := fun i => i < n ∧ ¬ ∃ p, p < n ∧ oE U (gs U n i) p = true) x1
    refine ⟨y, y1.1, fun j hj => ?_, y1.2⟩
    refine Classical.byContradiction (fun z => y3 j hj ⟨by have := y1.1; omega, z⟩)
  obtain ⟨i, hi, hE, no⟩ := st
  obtain ⟨s1, s2⟩ := gs_lt i hE
  obtain ⟨g, hg⟩ : ∃ g, g = gs U n i := ⟨_, rfl⟩
  rw [← hg] at no s1 s2
  have out : ∃ p, p < n ∧ g.testBit p = false := by
    refine Classical.byContradiction (fun c => ?_)
    have e : g = 2 ^ n - 1 := by
      apply Nat.eq_of_testBit_eq
      intro k
      rw [all_bit]
      by_cases q : k < n
      · cases z : g.testBit k with
        | true => simp [q]
        | false => exact absurd ⟨k, q, z⟩ c
      · rw [bit_hi s1 (by omega)]
        simp [q]
    have := all_mcN (n := n)
    rw [← e] at this
    omega
  have nx : ∀ p, p < n → g.testBit p = false → ∃ q, q < n ∧ g.testBit q = false ∧ (U p).testBit q = true := fun p hp hb => by
    refine Classical.byContradiction (fun c => no ⟨p, hp, oE_t.mpr ⟨hb, fun q hq => ?_⟩⟩)
    cases z : g.testBit q with
    | true => rfl
    | false =>
      refine absurd ⟨q, Nat.lt_of_not_le (fun w => ?_), z, hq⟩ c
      rw [bit_hi (hU p).1 w] at hq
      cases hq
  obtain ⟨p0, hp0, hb0⟩ := out
  have seq : ∃ x : Nat → Nat, ∀ k, (x k < n ∧ g.testBit (x k) = false) ∧ (U (x k)).testBit (x (k + 1)) = true := by
    have f : ∀ p, ∃ q, p < n ∧ g.testBit p = false → q < n ∧ g.testBit q = false ∧ (U p).testBit q = true := fun p => by
      by_cases c : p < n ∧ g.testBit p = false
      · obtain ⟨q, hq⟩ := nx p c.1 c.2
        exact ⟨q, fun _ => hq⟩
      · exact ⟨0, fun z => absurd z c⟩
    obtain ⟨F, hF⟩ := Classical.axiomOfChoice f
    refine ⟨fun k => Nat.rec p0 (fun _ y => F y) k, fun k => ?_⟩
    have inv : ∀ k : Nat, (Nat.rec p0 (fun _ y => F y) k : Nat) < n ∧ g.testBit (Nat.rec p0 (fun _ y => F y) k : Nat) = false := by
      intro k
      induction k with
      | zero => exact ⟨hp0, hb0⟩
      | succ k ih =>
        have := hF _ ih
        exact ⟨this.1, this.2.1⟩
    exact ⟨inv k, (hF _ (inv k)).2.2⟩
  obtain ⟨x, hx⟩ := seq
  obtain ⟨a, b, h1, h2, h3⟩ := pigeon n x (fun i _ => (hx i).1.1)
  have way : ∀ k, (lb U n (x (a + k)) k).testBit (x a) = true := by
    intro k
    induction k with
    | zero => exact lb_0.mpr rfl
    | succ k ih =>
      have e := lb_1 (hx (a + k)).1.1 (hx (a + k)).2
      exact lb_cat e ih
  have w := way (b - a)
  rw [show a + (b - a) = b by omega, ← h3] at w
  refine ⟨b - a, x a, ?_, by omega, (hx a).1.1, w⟩
  by_cases c : b - a = 1
  · have e : b = a + 1 := by omega
    have u := (hx a).2
    rw [← e, ← h3, (hU (x a)).2] at u
    cases u
  · omega
/-- the RING as it is walked: the least next one each time -/
def wr (U : Nat → Nat) (n L s : Nat) : Nat → Nat
  | 0 => s
  | i + 1 => lst (fun q => (U (wr U n L s i)).testBit q && (lb U n s (L - (i + 1))).testBit q) n 0
theorem wr_S {U : Nat → Nat} {n L s i : Nat} (hU : ∀ p, U p < 2 ^ n) (h : (lb U n s (L - i)).testBit (wr U n L s i) = true) (hi : i < L) : wr U n L s (i + 1) < n ∧ (U (wr U n L s i)).testBit (wr U n L s (i + 1)) = true ∧ (lb U n s (L - (i + 1))).testBit (wr U n L s (i + 1)) = true ∧ ∀ q, q < wr U n L s (i + 1) → (U (wr U n L s i)).testBit q = true → (lb U n s (L - (i + 1))).testBit q = false := by
  rw [show L - i = (L - (i + 1)) + 1 by omega] at h
  obtain ⟨h1, q, h2, h3⟩ := lb_S.mp h
  have qn : q < n := Nat.lt_of_not_le (fun w => by
    rw [bit_hi (hU _) w] at h2
    cases h2)
  obtain ⟨_, l2, l3, l4⟩ := lst_ok (P := fun q => (U (wr U n L s i)).testBit q && (lb U n s (L - (i + 1))).testBit q) (n := n) (k := 0) (j := q) (by omega) (by omega) (by show _ = true; rw [h2, h3]; rfl)
  have l3' : ((U (wr U n L s i)).testBit (wr U n L s (i + 1)) && (lb U n s (L - (i + 1))).testBit (wr U n L s (i + 1))) = true := l3
  have l2' : wr U n L s (i + 1) < n := by
    have : lst (fun q => (U (wr U n L s i)).testBit q && (lb U n s (L - (i + 1))).testBit q) n 0 < 0 + n := l2
    rw [Nat.zero_add] at this
    exact this
  have l5 : (U (wr U n L s i)).testBit (wr U n L s (i + 1)) = true ∧ (lb U n s (L - (i + 1))).testBit (wr U n L s (i + 1)) = true := by simpa using l3'
  refine ⟨l2', l5.1, l5.2, fun q hq hu => ?_⟩
  have := l4 q (by omega) hq
  have e : ((U (wr U n L s i)).testBit q && (lb U n s (L - (i + 1))).testBit q) = false := this
  rw [hu] at e
  simpa using e
theorem wr_ok {U : Nat → Nat} {n L s : Nat} (hU : ∀ p, U p < 2 ^ n) (hs : s < n) (h : clo U n L s) : ∀ i, i ≤ L → wr U n L s i < n ∧ (lb U n s (L - i)).testBit (wr U n L s i) = true
  | 0, _ => ⟨hs, h⟩
  | i + 1, hi => by
    obtain ⟨_, a2⟩ := wr_ok hU hs h i (by omega)
    obtain ⟨b1, b2, b3, b4⟩ := wr_S hU a2 (by omega)
    exact ⟨b1, b3⟩
theorem wr_way {U : Nat → Nat} {n L s : Nat} (hU : ∀ p, U p < 2 ^ n) (hs : s < n) (h : clo U n L s) (a : Nat) : ∀ k, a + k ≤ L → (lb U n (wr U n L s (a + k)) k).testBit (wr U n L s a) = true
  | 0, _ => lb_0.mpr rfl
  | k + 1, hk => by
    have ih := wr_way hU hs h a k (by omega)
    obtain ⟨a1, a2⟩ := wr_ok hU hs h (a + k) (by omega)
    obtain ⟨b1, b2, b3, b4⟩ := wr_S hU a2 (by omega)
    exact lb_cat (lb_1 a1 b2) ih
/-- at the least L and the least s the next one is above s and was not yet -/
theorem wr_new {U : Nat → Nat} {n L s m : Nat} (hU : ∀ p, U p < 2 ^ n ∧ (U p).testBit p = false) (hs : s < n) (h : clo U n L s) (hL : ∀ K t, 2 ≤ K → K < L → t < n → ¬ clo U n K t) (hS : ∀ t, t < s → ¬ clo U n L t) (hm : 1 ≤ m) (hmL : m < L) : s < wr U n L s m ∧ ∀ i, i < m → wr U n L s i ≠ wr U n L s m := by
  have hU1 := fun p => (hU p).1
  obtain ⟨w1, w2⟩ := wr_ok hU1 hs h m (by omega)
  have ne : ∀ i, i < m → wr U n L s i ≠ wr U n L s m := fun i hi z => by
    have y := wr_way hU1 hs h i (m - i) (by omega)
    rw [show i + (m - i) = m by omega, ← z] at y
    obtain ⟨v1, v2⟩ := wr_ok hU1 hs h i (by omega)
    by_cases c : m - i = 1
    · obtain ⟨b1, b2, b3, b4⟩ := wr_S hU1 v2 (by omega)
      rw [show i + 1 = m by omega, ← z, (hU _).2] at b2
      cases b2
    · exact hL (m - i) (wr U n L s i) (by omega) (by omega) v1 y
  refine ⟨?_, ne⟩
  have y := wr_way hU1 hs h 0 m (by omega)
  rw [Nat.zero_add] at y
  have cyc := lb_cat y w2
  rw [show L - m + m = L by omega] at cyc
  by_cases c : wr U n L s m < s
  · exact absurd cyc (hS _ c)
  · have := ne 0 (by omega)
    have e : wr U n L s 0 = s := rfl
    rw [e] at this
    omega
