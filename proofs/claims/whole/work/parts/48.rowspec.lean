/-! ROWS of FRAGMENTS, apart from any machine -/
def fld (b : Nat → Bool) (v w : Nat → Int) (s0 : Int × Int) : Nat → Int × Int
  | 0 => s0
  | k + 1 => if b k = true then (if v k < (fld b v w s0 k).1 then (v k, w k) else if v k = (fld b v w s0 k).1 then ((fld b v w s0 k).1, (fld b v w s0 k).2 + w k) else fld b v w s0 k) else fld b v w s0 k
theorem fld_S (b : Nat → Bool) (v w : Nat → Int) (s0 : Int × Int) (k : Nat) : fld b v w s0 (k + 1) = if b k = true then (if v k < (fld b v w s0 k).1 then (v k, w k) else if v k = (fld b v w s0 k).1 then ((fld b v w s0 k).1, (fld b v w s0 k).2 + w k) else fld b v w s0 k) else fld b v w s0 k := rfl
theorem fld_f {b : Nat → Bool} {v w : Nat → Int} {s0 : Int × Int} {k : Nat} (h : b k = false) : fld b v w s0 (k + 1) = fld b v w s0 k := by
  rw [fld_S, h]
  rfl
theorem fld_ext {b b' : Nat → Bool} {v w v' w' : Nat → Int} {s0 : Int × Int} : ∀ {n : Nat}, (∀ k, k < n → b k = b' k ∧ (b k = true → v k = v' k ∧ w k = w' k)) → fld b v w s0 n = fld b' v' w' s0 n
  | 0, _ => rfl
  | n + 1, h => by
    have ih := fld_ext (s0 := s0) (fun k hk => h k (Nat.lt_succ_of_lt hk))
    obtain ⟨h1, h2⟩ := h n (Nat.lt_succ_self n)
    rw [fld_S, fld_S, ih, ← h1]
    cases q : b n with
    | false => rfl
    | true =>
      obtain ⟨h3, h4⟩ := h2 q
      rw [h3, h4]
theorem fld_hi {b : Nat → Bool} {v w : Nat → Int} {s0 : Int × Int} {n : Nat} : ∀ {m : Nat}, (∀ k, n ≤ k → k < n + m → b k = false) → fld b v w s0 (n + m) = fld b v w s0 n
  | 0, _ => rfl
  | m + 1, h => by
    have e : n + (m + 1) = (n + m) + 1 := rfl
    rw [e, fld_f (h (n + m) (by omega) (by omega))]
    exact fld_hi (fun k h1 h2 => h k h1 (by omega))
/-- the least is met, if any is; or nothing was -/
theorem fld_min {b : Nat → Bool} {v w : Nat → Int} {A : Int} : ∀ {n : Nat}, (∀ k, k < n → b k = true → v k < A) → ((∀ k, k < n → b k = false) ∧ fld b v w (A, 0) n = (A, 0)) ∨ ((∃ k, k < n ∧ b k = true ∧ v k = (fld b v w (A, 0) n).1) ∧ ∀ k, k < n → b k = true → (fld b v w (A, 0) n).1 ≤ v k)
  | 0, _ => Or.inl ⟨fun k hk => by omega, rfl⟩
  | n + 1, h => by
    have ih := fld_min (w := w) (fun k hk hb => h k (Nat.lt_succ_of_lt hk) hb)
    cases q : b n with
    | false =>
      rw [fld_f q]
      rcases ih with ⟨i1, i2⟩ | ⟨⟨k, k1, k2, k3⟩, i2⟩
      · refine Or.inl ⟨fun k hk => ?_, i2⟩
        by_cases z : k = n
        · rw [z]
          exact q
        · exact i1 k (by omega)
      · refine Or.inr ⟨⟨k, by omega, k2, k3⟩, fun j hj hb => ?_⟩
        by_cases z : j = n
        · rw [z, q] at hb
          cases hb
        · exact i2 j (by omega) hb
    | true =>
      have hA := h n (by omega) q
      rw [fld_S, if_pos q]
      rcases ih with ⟨i1, i2⟩ | ⟨⟨k, k1, k2, k3⟩, i2⟩
      · rw [i2, if_pos hA]
        refine Or.inr ⟨⟨n, by omega, q, rfl⟩, fun j hj hb => ?_⟩
        by_cases z : j = n
        · rw [z]
          exact Int.le_refl _
        · rw [i1 j (by omega)] at hb
          cases hb
      · by_cases c : v n < (fld b v w (A, 0) n).1
        · rw [if_pos c]
          refine Or.inr ⟨⟨n, by omega, q, rfl⟩, fun j hj hb => ?_⟩
          by_cases z : j = n
          · rw [z]
            exact Int.le_refl _
          · have := i2 j (by omega) hb
            show v n ≤ v j
            omega
        · rw [if_neg c]
          have key : ∀ x : Int × Int, x.1 = (fld b v w (A, 0) n).1 → (∃ k, k < n + 1 ∧ b k = true ∧ v k = x.1) ∧ ∀ k, k < n + 1 → b k = true → x.1 ≤ v k := fun x hx => by
            rw [hx]
            refine ⟨⟨k, by omega, k2, k3⟩, fun j hj hb => ?_⟩
            by_cases z : j = n
            · rw [z]
              omega
            · exact i2 j (by omega) hb
          by_cases e : v n = (fld b v w (A, 0) n).1
          · rw [if_pos e]
            exact Or.inr (key _ rfl)
          · rw [if_neg e]
            exact Or.inr (key _ rfl)
theorem fld_init {b : Nat → Bool} {v w : Nat → Int} {A B : Int} : ∀ {n : Nat}, (∀ k, k < n → b k = true → v k < A ∧ v k < B) → (∀ k, k < n → b k = false) ∧ fld b v w (A, 0) n = (A, 0) ∧ fld b v w (B, 0) n = (B, 0) ∨ fld b v w (A, 0) n = fld b v w (B, 0) n
  | 0, _ => Or.inl ⟨fun k hk => by omega, rfl, rfl⟩
  | n + 1, h => by
    have ih := fld_init (w := w) (fun k hk hb => h k (Nat.lt_succ_of_lt hk) hb)
    cases q : b n with
    | false =>
      rw [fld_f q, fld_f q]
      rcases ih with ⟨i1, i2⟩ | i2
      · refine Or.inl ⟨fun k hk => ?_, i2⟩
        by_cases z : k = n
        · rw [z]
          exact q
        · exact i1 k (by omega)
      · exact Or.inr i2
    | true =>
      have hA := h n (by omega) q
      rw [fld_S, fld_S, if_pos q, if_pos q]
      rcases ih with ⟨i1, i2, i3⟩ | i2
      · rw [i2, i3, if_pos hA.1, if_pos hA.2]
        exact Or.inr rfl
      · rw [i2]
        exact Or.inr rfl
/-- the ways of those that are x -/
def wsm (b : Nat → Bool) (v w : Nat → Int) (x : Int) : Nat → Int
  | 0 => 0
  | k + 1 => if b k = true then (if v k = x then wsm b v w x k + w k else wsm b v w x k) else wsm b v w x k
theorem wsm_0 {b : Nat → Bool} {v w : Nat → Int} {x : Int} : ∀ {n : Nat}, (∀ k, k < n → b k = true → v k ≠ x) → wsm b v w x n = 0
  | 0, _ => rfl
  | n + 1, h => by
    have ih := wsm_0 (w := w) (fun k hk hb => h k (Nat.lt_succ_of_lt hk) hb)
    unfold wsm
    by_cases q : b n = true
    · rw [if_pos q, if_neg (h n (by omega) q)]
      exact ih
    · rw [if_neg q]
      exact ih
theorem fld_wsm {b : Nat → Bool} {v w : Nat → Int} {A : Int} : ∀ {n : Nat}, (∀ k, k < n → b k = true → v k < A) → (fld b v w (A, 0) n).2 = wsm b v w (fld b v w (A, 0) n).1 n
  | 0, _ => rfl
  | n + 1, h => by
    have h' : ∀ k, k < n → b k = true → v k < A := fun k hk hb => h k (Nat.lt_succ_of_lt hk) hb
    have ih := fld_wsm (w := w) h'
    have mi := fld_min (w := w) h'
    rw [fld_S]
    unfold wsm
    by_cases q : b n = true
    · rw [if_pos q, if_pos q]
      by_cases c : v n < (fld b v w (A, 0) n).1
      · simp only [if_pos c]
        rw [if_pos trivial, wsm_0 (fun k hk hb z => ?_), Int.zero_add]
        rcases mi with ⟨m1, m2⟩ | ⟨_, m2⟩
        · rw [m1 k hk] at hb
          cases hb
        · have := m2 k hk hb
          omega
      · simp only [if_neg c]
        by_cases e : v n = (fld b v w (A, 0) n).1
        · simp only [if_pos e]
          rw [ih]
        · simp only [if_neg e]
          exact ih
    · rw [if_neg q, if_neg q]
      exact ih
/-- the least GAPS of the orders of S that begin with f, and in how many -/
def rG (gp : Nat → Nat → Int) (S f : Nat) : Int × Int :=
  if h : S.testBit f = true then (if sdf S (2 ^ f) = 0 then (0, 1) else fld (fun g => (sdf S (2 ^ f)).testBit g) (fun g => gp f g + (rG gp (sdf S (2 ^ f)) g).1) (fun g => (rG gp (sdf S (2 ^ f)) g).2) (1000000, 0) 8) else (0, 0)
termination_by S
decreasing_by all_goals exact sdf_lt h
theorem nz_bit {n : Nat} (h : n ≠ 0) : ∃ i, n.testBit i = true := by
  refine Classical.byContradiction (fun q => h ?_)
  apply Nat.eq_of_testBit_eq
  intro i
  rw [Nat.zero_testBit]
  cases z : n.testBit i with
  | false => rfl
  | true => exact absurd ⟨i, z⟩ q
theorem bit8 {n i : Nat} (hn : n < 256) (h : n.testBit i = true) : i < 8 := by
  refine Nat.lt_of_not_le (fun q => ?_)
  rw [bit_hi (k := 8) hn q] at h
  cases h
theorem rG_0 (gp : Nat → Nat → Int) {S f : Nat} (h : S.testBit f = true) (h0 : sdf S (2 ^ f) = 0) : rG gp S f = (0, 1) := by
  rw [rG, dif_pos h, if_pos h0]
theorem rG_S (gp : Nat → Nat → Int) {S f : Nat} (h : S.testBit f = true) (h0 : sdf S (2 ^ f) ≠ 0) : rG gp S f = fld (fun g => (sdf S (2 ^ f)).testBit g) (fun g => gp f g + (rG gp (sdf S (2 ^ f)) g).1) (fun g => (rG gp (sdf S (2 ^ f)) g).2) (1000000, 0) 8 := by
  rw [rG, dif_pos h, if_neg h0]
theorem rG_b {gp : Nat → Nat → Int} (hg : ∀ f g, 0 ≤ gp f g ∧ gp f g ≤ 105) : ∀ (n S f : Nat), S ≤ n → S < 256 → 0 ≤ (rG gp S f).1 ∧ (rG gp S f).1 ≤ 105 * S
  | 0, S, f, hn, hS => by
    have e : S = 0 := by omega
    rw [rG, dif_neg (by rw [e, Nat.zero_testBit]; decide)]
    exact ⟨Int.le_refl 0, by show (0 : Int) ≤ _; omega⟩
  | n + 1, S, f, hn, hS => by
    by_cases h : S.testBit f = true
    · by_cases h0 : sdf S (2 ^ f) = 0
      · rw [rG_0 gp h h0]
        exact ⟨Int.le_refl 0, by show (0 : Int) ≤ _; omega⟩
      · rw [rG_S gp h h0]
        have lt := sdf_lt h
        have ih : ∀ g, 0 ≤ (rG gp (sdf S (2 ^ f)) g).1 ∧ (rG gp (sdf S (2 ^ f)) g).1 ≤ 105 * (sdf S (2 ^ f) : Nat) := fun g => rG_b hg n (sdf S (2 ^ f)) g (by omega) (by omega)
        rcases fld_min (b := fun g => (sdf S (2 ^ f)).testBit g) (v := fun g => gp f g + (rG gp (sdf S (2 ^ f)) g).1) (w := fun g => (rG gp (sdf S (2 ^ f)) g).2) (A := 1000000) (n := 8) (fun k _ _ => by
          show gp f k + (rG gp (sdf S (2 ^ f)) k).1 < 1000000
          have := ih k
          have := hg f k
          omega) with ⟨m1, m2⟩ | ⟨⟨k, k1, k2, k3⟩, m2⟩
        · obtain ⟨i, hi⟩ := nz_bit h0
          rw [m1 i (bit8 (by omega) hi)] at hi
          cases hi
        · rw [← k3]
          have := ih k
          have := hg f k
          show 0 ≤ gp f k + (rG gp (sdf S (2 ^ f)) k).1 ∧ gp f k + (rG gp (sdf S (2 ^ f)) k).1 ≤ 105 * (S : Int)
          omega
    · rw [rG, dif_neg h]
      exact ⟨Int.le_refl 0, by show (0 : Int) ≤ _; omega⟩
/-- the first from k on that is P -/
def lst (P : Nat → Bool) : Nat → Nat → Nat
  | 0, k => k
  | n + 1, k => if P k = true then k else lst P n (k + 1)
theorem lst_ok {P : Nat → Bool} : ∀ {n k j : Nat}, k ≤ j → j < k + n → P j = true → k ≤ lst P n k ∧ lst P n k < k + n ∧ P (lst P n k) = true ∧ ∀ i, k ≤ i → i < lst P n k → P i = false
  | 0, k, j, h1, h2, _ => by omega
  | n + 1, k, j, h1, h2, h3 => by
    unfold lst
    by_cases q : P k = true
    · rw [if_pos q]
      exact ⟨Nat.le_refl k, by omega, q, fun i a b => by omega⟩
    · rw [if_neg q]
      have h4 : k ≠ j := fun z => q (by rw [z]; exact h3)
      obtain ⟨a, b, c, d⟩ := lst_ok (n := n) (k := k + 1) (j := j) (by omega) (by omega) h3
      refine ⟨by omega, by omega, c, fun i e1 e2 => ?_⟩
      by_cases z : i = k
      · rw [z]
        cases w : P k with
        | false => rfl
        | true => exact absurd w q
      · exact d i (by omega) e2
def pcn (s : Nat) : Nat := (s.testBit 0).toNat + (s.testBit 1).toNat + (s.testBit 2).toNat + (s.testBit 3).toNat + (s.testBit 4).toNat + (s.testBit 5).toNat + (s.testBit 6).toNat + (s.testBit 7).toNat
theorem pcn_0 : ∀ s, s < 256 → (pcn s = 0 ↔ s = 0) := by decide +kernel
theorem pcn_d : ∀ s, s < 256 → ∀ f, f < 8 → s.testBit f = true → pcn (sdf s (2 ^ f)) + 1 = pcn s := by decide +kernel
theorem pcn_8 : ∀ s, s < 256 → pcn s ≤ 8 := by decide +kernel
theorem pcn_k : ∀ s, s < 256 → s ≠ 0 → s &&& (s - 1) < s ∧ pcn (s &&& (s - 1)) + 1 = pcn s := by decide +kernel
/-- the row as it is walked: what is left, what is due, the last one -/
def wlk (gp : Nat → Nat → Int) (set : Nat) (best : Int) : Nat → Nat × Int × Nat
  | 0 => (sdf set (2 ^ lst (fun f => set.testBit f && decide ((rG gp set f).1 = best)) 8 0), (rG gp set (lst (fun f => set.testBit f && decide ((rG gp set f).1 = best)) 8 0)).1, lst (fun f => set.testBit f && decide ((rG gp set f).1 = best)) 8 0)
  | i + 1 => (sdf (wlk gp set best i).1 (2 ^ lst (fun f => (wlk gp set best i).1.testBit f && decide (gp (wlk gp set best i).2.2 f + (rG gp (wlk gp set best i).1 f).1 = (wlk gp set best i).2.1)) 8 0), (rG gp (wlk gp set best i).1 (lst (fun f => (wlk gp set best i).1.testBit f && decide (gp (wlk gp set best i).2.2 f + (rG gp (wlk gp set best i).1 f).1 = (wlk gp set best i).2.1)) 8 0)).1, lst (fun f => (wlk gp set best i).1.testBit f && decide (gp (wlk gp set best i).2.2 f + (rG gp (wlk gp set best i).1 f).1 = (wlk gp set best i).2.1)) 8 0)
