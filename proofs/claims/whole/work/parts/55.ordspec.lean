/-! ORDERS of SEALINGS, apart from any machine -/
theorem xor_bit {s p i : Nat} : (s ^^^ 2 ^ p).testBit i = (s.testBit i ^^ decide (p = i)) := by rw [Nat.testBit_xor, Nat.testBit_two_pow]
theorem add_top {n j : Nat} (h : j < 2 ^ n) : 2 ^ n + j = 2 ^ n ||| j := by
  have e := Nat.two_pow_add_eq_or_of_lt (i := n) (b := j) h 1
  rw [Nat.mul_one] at e
  exact e
theorem sm_xor (p : Nat) : ∀ (n : Nat) (h : Nat → Int), p < n → sm (2 ^ n) (fun s => h (s ^^^ 2 ^ p)) = sm (2 ^ n) h
  | 0, _, hp => by omega
  | n + 1, h, hp => by
    have e : 2 ^ (n + 1) = 2 ^ n + 2 ^ n := by rw [Nat.pow_succ]; omega
    rw [e, sm_app, sm_app]
    by_cases q : p = n
    · subst q
      have a1 : sm (2 ^ p) (fun s => h (s ^^^ 2 ^ p)) = sm (2 ^ p) (fun j => h (2 ^ p + j)) := sm_congr (fun j hj => by
        congr 1
        rw [add_top hj]
        apply Nat.eq_of_testBit_eq
        intro i
        rw [xor_bit, Nat.testBit_or, Nat.testBit_two_pow]
        by_cases z : p = i
        · subst z
          rw [bit_hi hj (Nat.le_refl _)]
          simp
        · simp [z])
      have a2 : sm (2 ^ p) (fun j => h ((2 ^ p + j) ^^^ 2 ^ p)) = sm (2 ^ p) h := sm_congr (fun j hj => by
        show h ((2 ^ p + j) ^^^ 2 ^ p) = h j
        congr 1
        rw [add_top hj]
        apply Nat.eq_of_testBit_eq
        intro i
        rw [xor_bit, Nat.testBit_or, Nat.testBit_two_pow]
        by_cases z : p = i
        · subst z
          rw [bit_hi hj (Nat.le_refl _)]
          simp
        · simp [z])
      rw [a1, a2]
      omega
    · have b1 := sm_xor p n h (by omega)
      have b2 := sm_xor p n (fun j => h (2 ^ n + j)) (by omega)
      have a2 : sm (2 ^ n) (fun j => h ((2 ^ n + j) ^^^ 2 ^ p)) = sm (2 ^ n) (fun s => (fun j => h (2 ^ n + j)) (s ^^^ 2 ^ p)) := sm_congr (fun j hj => by
        show h ((2 ^ n + j) ^^^ 2 ^ p) = h (2 ^ n + (j ^^^ 2 ^ p))
        have hp2 : 2 ^ p < 2 ^ n := Nat.pow_lt_pow_right (by decide) (by omega)
        have hx : j ^^^ 2 ^ p < 2 ^ n := Nat.xor_lt_two_pow hj hp2
        congr 1
        rw [add_top hj, add_top hx]
        apply Nat.eq_of_testBit_eq
        intro i
        rw [xor_bit, Nat.testBit_or, Nat.testBit_or, xor_bit, Nat.testBit_two_pow]
        by_cases z : p = i
        · subst z
          have : ¬ n = p := by omega
          simp [this]
        · simp [z])
      rw [a2, b1, b2]
/-- p may come next, s being rolled -/
def oE (W : Nat → Nat) (s p : Nat) : Bool := !s.testBit p && decide (sdf (W p) s = 0)
theorem oE_t {W : Nat → Nat} {s p : Nat} : oE W s p = true ↔ s.testBit p = false ∧ sub (W p) s := by
  unfold oE
  cases q : s.testBit p with
  | false => simp [sdf_0]
  | true => simp
theorem lt_or {s p : Nat} (h : s.testBit p = false) : s < s ||| 2 ^ p := by
  refine Nat.lt_of_le_of_ne (le_or _ _) (fun q => ?_)
  have e := or_bit (S := s) (f := p) (i := p)
  rw [← q, h] at e
  simp at e
theorem or_lt {s p n : Nat} (hs : s < 2 ^ n) (hp : p < n) : s ||| 2 ^ p < 2 ^ n := Nat.or_lt_two_pow hs (Nat.pow_lt_pow_right (by decide) hp)
/-- in how many ways what is left can be rolled behind s -/
def oB (W : Nat → Nat) (n s : Nat) : Int := (if s = 2 ^ n - 1 then 1 else 0) + sm n (fun p => if h : oE W s p = true ∧ s < 2 ^ n then oB W n (s ||| 2 ^ p) else 0)
termination_by 2 ^ n - s
decreasing_by
  have := lt_or (oE_t.mp h.1).1
  have := h.2
  omega
theorem oB_eq (W : Nat → Nat) {n s : Nat} (hs : s < 2 ^ n) : oB W n s = (if s = 2 ^ n - 1 then 1 else 0) + sm n (fun p => if oE W s p = true then oB W n (s ||| 2 ^ p) else 0) := by
  rw [oB]
  congr 1
  refine sm_congr (fun p _ => ?_)
  by_cases h : oE W s p = true
  · rw [dif_pos ⟨h, hs⟩, if_pos h]
  · rw [dif_neg (fun z => h z.1), if_neg h]
/-- in how many ways just s can be the first ones -/
def oA (W : Nat → Nat) (n s : Nat) : Int := (if s = 0 then 1 else 0) + sm n (fun p => if h : s.testBit p = true ∧ sdf (W p) (sdf s (2 ^ p)) = 0 then oA W n (sdf s (2 ^ p)) else 0)
termination_by s
decreasing_by exact sdf_lt h.1
theorem oA_eq (W : Nat → Nat) (n s : Nat) : oA W n s = (if s = 0 then 1 else 0) + sm n (fun p => if s.testBit p = true ∧ sdf (W p) (sdf s (2 ^ p)) = 0 then oA W n (sdf s (2 ^ p)) else 0) := by
  rw [oA]
  rfl
theorem sm_mul (c : Int) (f : Nat → Int) : ∀ n, c * sm n f = sm n (fun j => c * f j)
  | 0 => Int.mul_zero c
  | n + 1 => by rw [sm_S, sm_S, Int.mul_add, sm_mul c f n]
theorem sm_pick (f : Nat → Int) (k : Nat) : ∀ n, sm n (fun j => (if j = k then 1 else 0) * f j) = if k < n then f k else 0
  | 0 => rfl
  | n + 1 => by
    rw [sm_S, sm_pick f k n]
    by_cases q : n = k
    · subst q
      rw [if_neg (by omega), if_pos (show n = n from rfl), if_pos (by omega)]
      omega
    · rw [if_neg q]
      by_cases z : k < n
      · rw [if_pos z, if_pos (by omega)]
        omega
      · rw [if_neg z, if_neg (by omega)]
        omega
theorem xor_or {s p : Nat} (h : s.testBit p = false) : s ^^^ 2 ^ p = s ||| 2 ^ p := by
  apply Nat.eq_of_testBit_eq
  intro i
  rw [xor_bit, or_bit]
  by_cases z : p = i
  · subst z
    rw [h]
    simp
  · simp [z]
theorem xor_sdf {s p : Nat} (h : s.testBit p = true) : s ^^^ 2 ^ p = sdf s (2 ^ p) := by
  apply Nat.eq_of_testBit_eq
  intro i
  rw [xor_bit, sdf_bit, Nat.testBit_two_pow]
  by_cases z : p = i
  · subst z
    rw [h]
    simp
  · simp [z]
theorem oA_oB (W : Nat → Nat) (n : Nat) : oA W n (2 ^ n - 1) = oB W n 0 := by
  have hp : 0 < 2 ^ n := Nat.two_pow_pos n
  have t1 : sm (2 ^ n) (fun s => oA W n s * oB W n s) = oA W n (2 ^ n - 1) + sm (2 ^ n) (fun s => sm n (fun p => if oE W s p = true then oA W n s * oB W n (s ||| 2 ^ p) else 0)) := by
    have e : sm (2 ^ n) (fun s => oA W n s * oB W n s) = sm (2 ^ n) (fun s => (if s = 2 ^ n - 1 then 1 else 0) * oA W n s + sm n (fun p => if oE W s p = true then oA W n s * oB W n (s ||| 2 ^ p) else 0)) := sm_congr (fun s hs => by
      rw [oB_eq W hs, Int.mul_add, sm_mul, Int.mul_comm (oA W n s)]
      congr 1
      refine sm_congr (fun p _ => ?_)
      split
      · rfl
      · exact Int.mul_zero _)
    rw [e, sm_add, sm_pick (fun s => oA W n s), if_pos (by omega)]
  have t2 : sm (2 ^ n) (fun s => oA W n s * oB W n s) = oB W n 0 + sm (2 ^ n) (fun s => sm n (fun p => if s.testBit p = true ∧ sdf (W p) (sdf s (2 ^ p)) = 0 then oA W n (sdf s (2 ^ p)) * oB W n s else 0)) := by
    have e : sm (2 ^ n) (fun s => oA W n s * oB W n s) = sm (2 ^ n) (fun s => (if s = 0 then 1 else 0) * oB W n s + sm n (fun p => if s.testBit p = true ∧ sdf (W p) (sdf s (2 ^ p)) = 0 then oA W n (sdf s (2 ^ p)) * oB W n s else 0)) := sm_congr (fun s hs => by
      rw [oA_eq W n s, Int.add_mul, Int.mul_comm (sm n _), sm_mul]
      congr 1
      refine sm_congr (fun p _ => ?_)
      split
      · exact Int.mul_comm _ _
      · exact Int.mul_zero _)
    rw [e, sm_add, sm_pick (fun s => oB W n s), if_pos hp]
  have t3 : sm (2 ^ n) (fun s => sm n (fun p => if oE W s p = true then oA W n s * oB W n (s ||| 2 ^ p) else 0)) = sm (2 ^ n) (fun s => sm n (fun p => if s.testBit p = true ∧ sdf (W p) (sdf s (2 ^ p)) = 0 then oA W n (sdf s (2 ^ p)) * oB W n s else 0)) := by
    refine (sm_sw (fun s p => if oE W s p = true then oA W n s * oB W n (s ||| 2 ^ p) else 0) (2 ^ n) n).trans (Eq.trans ?_ (sm_sw (fun s p => if s.testBit p = true ∧ sdf (W p) (sdf s (2 ^ p)) = 0 then oA W n (sdf s (2 ^ p)) * oB W n s else 0) (2 ^ n) n).symm)
    refine sm_congr (fun p hpn => ?_)
    rw [← sm_xor p n (fun s => if s.testBit p = true ∧ sdf (W p) (sdf s (2 ^ p)) = 0 then oA W n (sdf s (2 ^ p)) * oB W n s else 0) hpn]
    refine sm_congr (fun s hs => ?_)
    show (if oE W s p = true then oA W n s * oB W n (s ||| 2 ^ p) else 0) = if (s ^^^ 2 ^ p).testBit p = true ∧ sdf (W p) (sdf (s ^^^ 2 ^ p) (2 ^ p)) = 0 then oA W n (sdf (s ^^^ 2 ^ p) (2 ^ p)) * oB W n (s ^^^ 2 ^ p) else 0
    cases q : s.testBit p with
    | false =>
      rw [xor_or q, or_sdf q, or_bit, q]
      by_cases z : sdf (W p) s = 0
      · rw [if_pos (by unfold oE; rw [q, z]; rfl), if_pos ⟨by simp, z⟩]
      · rw [if_neg (by unfold oE; rw [q]; simp [z]), if_neg (fun y => z y.2)]
    | true =>
      rw [if_neg (by unfold oE; rw [q]; simp), if_neg (fun y => by have := y.1; rw [xor_bit, q] at this; simp at this)]
  omega
/-- how many aren't in s -/
def mcN (n s : Nat) : Nat := (sm n (fun p => if s.testBit p = true then 0 else 1)).toNat
theorem mcN_eq (n s : Nat) : (mcN n s : Int) = sm n (fun p => if s.testBit p = true then 0 else 1) := by
  have : 0 ≤ sm n (fun p => if s.testBit p = true then (0 : Int) else 1) := sm_nn (fun j _ => by split <;> omega)
  unfold mcN
  omega
theorem mcN_or {n s p : Nat} (hp : p < n) (h : s.testBit p = false) : mcN n (s ||| 2 ^ p) + 1 = mcN n s := by
  have e : sm n (fun j => if s.testBit j = true then (0 : Int) else 1) = sm n (fun j => (if (s ||| 2 ^ p).testBit j = true then (0 : Int) else 1) + (if j = p then 1 else 0) * (fun _ => (1 : Int)) j) := sm_congr (fun j hj => by
    rw [or_bit]
    by_cases z : p = j
    · subst z
      simp [h]
    · have z' : ¬ j = p := fun y => z y.symm
      cases s.testBit j <;> simp [z, z'])
  have e2 := sm_pick (fun _ => (1 : Int)) p n
  rw [sm_add, e2, if_pos hp] at e
  have e3 := mcN_eq n s
  have e4 := mcN_eq n (s ||| 2 ^ p)
  omega
def fct : Nat → Int
  | 0 => 1
  | n + 1 => ((n + 1 : Nat) : Int) * fct n
theorem fct_pos : ∀ n, 1 ≤ fct n
  | 0 => Int.le_refl 1
  | n + 1 => by
    have h := fct_pos n
    have h2 : 1 * 1 ≤ ((n + 1 : Nat) : Int) * fct n := Int.mul_le_mul (by omega) h (by decide) (by omega)
    exact h2
theorem fct_mono : ∀ {m n : Nat}, m ≤ n → fct m ≤ fct n
  | m, 0, h => by
    have : m = 0 := by omega
    rw [this]
    exact Int.le_refl _
  | m, n + 1, h => by
    by_cases q : m = n + 1
    · rw [q]
      exact Int.le_refl _
    · have h1 : fct m ≤ fct n := fct_mono (by omega)
      have h2 := fct_pos n
      have h3 : 1 * fct n ≤ ((n + 1 : Nat) : Int) * fct n := Int.mul_le_mul_of_nonneg_right (by omega) (by omega)
      show fct m ≤ ((n + 1 : Nat) : Int) * fct n
      omega
theorem mcN_le (n s : Nat) : mcN n s ≤ n := by
  have := sm_le (n := n) (f := fun p => if s.testBit p = true then (0 : Int) else 1) (B := 1) (fun j _ => by split <;> omega)
  have e := mcN_eq n s
  omega
theorem oB_nn (W : Nat → Nat) (n : Nat) : ∀ (m s : Nat), 2 ^ n - s ≤ m → 0 ≤ oB W n s
  | 0, s, h => by
    rw [oB]
    have : 0 ≤ sm n (fun p => if h : oE W s p = true ∧ s < 2 ^ n then oB W n (s ||| 2 ^ p) else 0) := sm_nn (fun j _ => by
      split
      · rename_i z
        omega
      · exact Int.le_refl _)
    split <;> omega
  | m + 1, s, h => by
    by_cases hs : s < 2 ^ n
    · rw [oB_eq W hs]
      have : 0 ≤ sm n (fun p => if oE W s p = true then oB W n (s ||| 2 ^ p) else 0) := sm_nn (fun j _ => by
        split
        · rename_i z
          have := lt_or (oE_t.mp z).1
          exact oB_nn W n m _ (by omega)
        · exact Int.le_refl _)
      split <;> omega
    · exact oB_nn W n 0 s (by omega)
theorem oB_le (W : Nat → Nat) (n : Nat) : ∀ (m s : Nat), s < 2 ^ n → mcN n s ≤ m → oB W n s ≤ fct (mcN n s)
  | m, s, hs, hm => by
    rw [oB_eq W hs]
    by_cases q : s = 2 ^ n - 1
    · have z : sm n (fun p => if oE W s p = true then oB W n (s ||| 2 ^ p) else 0) = sm n (fun _ => 0) := sm_congr (fun p hp => by
        refine if_neg (fun y => ?_)
        have := (oE_t.mp y).1
        rw [q, all_bit] at this
        simp at this
        omega)
      rw [if_pos q, z, sm_zero]
      have := fct_pos (mcN n s)
      omega
    · rw [if_neg q]
      match m, hm with
      | 0, hm =>
        have z : sm n (fun p => if oE W s p = true then oB W n (s ||| 2 ^ p) else 0) = sm n (fun _ => 0) := sm_congr (fun p hp => by
          refine if_neg (fun y => ?_)
          have := mcN_or hp (oE_t.mp y).1
          omega)
        rw [z, sm_zero]
        have := fct_pos (mcN n s)
        omega
      | m + 1, hm =>
        by_cases c0 : mcN n s = 0
        · have z : sm n (fun p => if oE W s p = true then oB W n (s ||| 2 ^ p) else 0) = sm n (fun _ => 0) := sm_congr (fun p hp => by
            refine if_neg (fun y => ?_)
            have := mcN_or hp (oE_t.mp y).1
            omega)
          rw [z, sm_zero]
          have := fct_pos (mcN n s)
          omega
        · obtain ⟨c, hc⟩ : ∃ c, mcN n s = c + 1 := ⟨mcN n s - 1, by omega⟩
          have le : ∀ k, k ≤ n → sm k (fun p => if oE W s p = true then oB W n (s ||| 2 ^ p) else 0) ≤ sm k (fun p => fct c * (if s.testBit p = true then 0 else 1)) := by
            intro k
            induction k with
            | zero => intro _; exact Int.le_refl _
            | succ k ih =>
              intro hk
              have := ih (by omega)
              rw [sm_S, sm_S]
              have fc := fct_pos c
              by_cases y : oE W s k = true
              · have y1 := (oE_t.mp y).1
                have y2 := mcN_or (n := n) (by omega) y1
                have y3 := oB_le W n m (s ||| 2 ^ k) (or_lt hs (by omega)) (by omega)
                have y4 : mcN n (s ||| 2 ^ k) = c := by omega
                rw [y4] at y3
                rw [if_pos y, y1]
                have y5 : fct c * (if false = true then 0 else 1) = fct c := Int.mul_one _
                rw [y5]
                omega
              · rw [if_neg y]
                have y5 : 0 ≤ fct c * (if s.testBit k = true then 0 else 1) := by split <;> omega
                omega
          have l1 := le n (Nat.le_refl n)
          rw [← sm_mul, ← mcN_eq, hc] at l1
          rw [hc]
          show 0 + _ ≤ ((c + 1 : Nat) : Int) * fct c
          rw [Int.mul_comm]
          omega
theorem oB_b (W : Nat → Nat) {n s : Nat} (hn : n ≤ 10) (hs : s < 2 ^ n) : 0 ≤ oB W n s ∧ oB W n s ≤ 3628800 := by
  have h1 := oB_le W n (mcN n s) s hs (Nat.le_refl _)
  have h2 : fct (mcN n s) ≤ fct 10 := fct_mono (Nat.le_trans (mcN_le n s) hn)
  have h3 : fct 10 = 3628800 := by decide
  exact ⟨oB_nn W n _ s (Nat.le_refl _), by omega⟩
