/-! AHEAD, apart from any machine -/
/-- s holds what lies under what it holds -/
def cls (U : Nat → Nat) (s : Nat) : Prop := ∀ x, s.testBit x = true → sub (U x) s
/-- from p one comes to x -/
def Wk (U : Nat → Nat) (n p x : Nat) : Prop := ∃ k, (lb U n x k).testBit p = true
theorem cls_or {U : Nat → Nat} {s x : Nat} (h : cls U s) (hx : sub (U x) s) : cls U (s ||| 2 ^ x) := fun y hy i hi => by
  rw [or_bit] at hy ⊢
  by_cases z : x = y
  · rw [← z] at hi
    rw [hx i hi]
    rfl
  · have hy' : s.testBit y = true := by simpa [z] using hy
    rw [h y hy' i hi]
    rfl
/-- in a closed set: from what it holds one doesn't leave it -/
theorem cls_wk {U : Nat → Nat} {n s x : Nat} (h : cls U s) : ∀ {k p : Nat}, s.testBit p = true → (lb U n x k).testBit p = true → s.testBit x = true
  | 0, p, hp, hw => by
    rw [lb_0.mp hw]
    exact hp
  | k + 1, p, hp, hw => by
    obtain ⟨_, q, h1, h2⟩ := lb_S.mp hw
    exact cls_wk h (k := k) (h p hp q h1) h2
theorem cls_un {U : Nat → Nat} {n s x p : Nat} (h : cls U s) (hp : sub (U p) s) (hne : x ≠ p) (hw : Wk U n p x) : s.testBit x = true := by
  obtain ⟨k, hk⟩ := hw
  match k, hk with
  | 0, hk => exact absurd (lb_0.mp hk) hne
  | k + 1, hk =>
    obtain ⟨_, q, h1, h2⟩ := lb_S.mp hk
    exact cls_wk h (hp q h1) h2
theorem oW_sub {U : Nat → Nat} {q p x s : Nat} (h : sub (oW U (q : Int) p x) s) : sub (U x) s := fun i hi => h i (by
  unfold oW
  split
  · rw [or_bit, hi]
    rfl
  · exact hi)
theorem oW_q {U : Nat → Nat} {q p s : Nat} : sub (oW U (q : Int) p q) s ↔ sub (U q) s ∧ s.testBit p = true := by
  have e : oW U (q : Int) p q = U q ||| 2 ^ p := if_pos rfl
  rw [e]
  constructor
  · intro h
    exact ⟨fun i hi => h i (by rw [or_bit, hi]; rfl), h p (by rw [or_bit]; simp)⟩
  · rintro ⟨h1, h2⟩ i hi
    rw [or_bit] at hi
    by_cases z : p = i
    · rw [← z]
      exact h2
    · exact h1 i (by simpa [z] using hi)
theorem oW_x {U : Nat → Nat} {q p x : Nat} (h : x ≠ q) : oW U (q : Int) p x = U x := if_neg (by omega)
theorem oE_W {U : Nat → Nat} {q p x s : Nat} : oE (oW U (q : Int) p) s x = true → oE U s x = true := fun h => by
  obtain ⟨h1, h2⟩ := oE_t.mp h
  exact oE_t.mpr ⟨h1, oW_sub h2⟩
/-- p lies under q: all orders have it ahead -/
theorem ah_all {U : Nat → Nat} {n p q : Nat} (hne : p ≠ q) (hw : Wk U n q p) : ∀ (m s : Nat), 2 ^ n - s ≤ m → s < 2 ^ n → cls U s → oB (oW U (q : Int) p) n s = oB U n s
  | 0, s, hm, hs, _ => by omega
  | m + 1, s, hm, hs, hc => by
    rw [oB_eq _ hs, oB_eq _ hs]
    congr 1
    refine sm_congr (fun x hx => ?_)
    have e : oE (oW U (q : Int) p) s x = oE U s x := by
      cases z : oE U s x with
      | false =>
        cases y : oE (oW U (q : Int) p) s x with
        | false => rfl
        | true => rw [oE_W y] at z; cases z
      | true =>
        obtain ⟨h1, h2⟩ := oE_t.mp z
        refine oE_t.mpr ⟨h1, ?_⟩
        by_cases w : x = q
        · subst w
          exact oW_q.mpr ⟨h2, cls_un hc h2 hne hw⟩
        · rw [oW_x w]
          exact h2
    rw [e]
    by_cases z : oE U s x = true
    · rw [if_pos z, if_pos z]
      obtain ⟨h1, h2⟩ := oE_t.mp z
      have := lt_or h1
      exact ah_all hne hw m (s ||| 2 ^ x) (by omega) (or_lt hs hx) (cls_or hc h2)
    · rw [if_neg z, if_neg z]
/-- q lies under p: none has -/
theorem ah_none {U : Nat → Nat} {n p q : Nat} (hp : p < n) (hne : p ≠ q) (hw : Wk U n p q) : ∀ (m s : Nat), 2 ^ n - s ≤ m → s < 2 ^ n → cls U s → s.testBit p = false → s.testBit q = false → oB (oW U (q : Int) p) n s = 0
  | 0, s, hm, hs, _, _, _ => by omega
  | m + 1, s, hm, hs, hc, h1, h2 => by
    rw [oB_eq _ hs, if_neg (fun z => by rw [z, all_bit] at h1; simp at h1; omega), sm_congr (g := fun _ => 0) (fun x hx => ?_), sm_zero]
    · rfl
    · by_cases z : oE (oW U (q : Int) p) s x = true
      · rw [if_pos z]
        obtain ⟨k1, k2⟩ := oE_t.mp z
        have k3 := oW_sub k2
        have xq : x ≠ q := fun w => by
          rw [w] at k2
          rw [(oW_q.mp k2).2] at h1
          cases h1
        have xp : x ≠ p := fun w => by
          rw [w] at k3
          rw [cls_un hc k3 (fun e => hne e.symm) hw] at h2
          cases h2
        have := lt_or k1
        refine ah_none hp hne hw m (s ||| 2 ^ x) (by omega) (or_lt hs hx) (cls_or hc k3) ?_ ?_
        · rw [or_bit, h1]
          simp [xp]
        · rw [or_bit, h2]
          simp [xq]
      · rw [if_neg z]
theorem sm_mono {f g : Nat → Int} : ∀ {n : Nat}, (∀ j, j < n → f j ≤ g j) → sm n f ≤ sm n g
  | 0, _ => Int.le_refl _
  | n + 1, h => by
    have h1 : sm n f ≤ sm n g := sm_mono fun j hj => h j (Nat.lt_succ_of_lt hj)
    have h2 := h n (Nat.lt_succ_self n)
    rw [sm_S, sm_S]
    omega
theorem oB_le_W {U : Nat → Nat} {n p q : Nat} : ∀ (m s : Nat), 2 ^ n - s ≤ m → s < 2 ^ n → oB (oW U (q : Int) p) n s ≤ oB U n s
  | 0, s, hm, hs => by omega
  | m + 1, s, hm, hs => by
    rw [oB_eq _ hs, oB_eq _ hs]
    have := sm_mono (n := n) (f := fun x => if oE (oW U (q : Int) p) s x = true then oB (oW U (q : Int) p) n (s ||| 2 ^ x) else 0) (g := fun x => if oE U s x = true then oB U n (s ||| 2 ^ x) else 0) (fun x hx => by
      show (if oE (oW U (q : Int) p) s x = true then oB (oW U (q : Int) p) n (s ||| 2 ^ x) else 0) ≤ if oE U s x = true then oB U n (s ||| 2 ^ x) else 0
      by_cases z : oE (oW U (q : Int) p) s x = true
      · rw [if_pos z, if_pos (oE_W z)]
        have := lt_or (oE_t.mp z).1
        exact oB_le_W m (s ||| 2 ^ x) (by omega) (or_lt hs hx)
      · rw [if_neg z]
        split
        · exact oB_nn U n _ _ (Nat.le_refl _)
        · exact Int.le_refl _)
    omega
/-- orders with p ahead of q and orders with q ahead of p are no more than all -/
theorem ah_two {U : Nat → Nat} {n p q : Nat} (hp : p < n) (hne : p ≠ q) : ∀ (m s : Nat), 2 ^ n - s ≤ m → s < 2 ^ n → s.testBit p = false → s.testBit q = false → oB (oW U (q : Int) p) n s + oB (oW U (p : Int) q) n s ≤ oB U n s
  | 0, s, hm, hs, _, _ => by omega
  | m + 1, s, hm, hs, h1, h2 => by
    have na : ¬ s = 2 ^ n - 1 := fun z => by rw [z, all_bit] at h1; simp at h1; omega
    rw [oB_eq _ hs, oB_eq _ hs, oB_eq _ hs, if_neg na, Int.zero_add, Int.zero_add, Int.zero_add, ← sm_add]
    refine sm_mono (fun x hx => ?_)
    show (if oE (oW U (q : Int) p) s x = true then oB (oW U (q : Int) p) n (s ||| 2 ^ x) else 0) + (if oE (oW U (p : Int) q) s x = true then oB (oW U (p : Int) q) n (s ||| 2 ^ x) else 0) ≤ if oE U s x = true then oB U n (s ||| 2 ^ x) else 0
    by_cases z : oE U s x = true
    · rw [if_pos z]
      obtain ⟨k1, k2⟩ := oE_t.mp z
      have lt := lt_or k1
      have ol := or_lt hs hx
      have nn := oB_nn U n _ (s ||| 2 ^ x) (Nat.le_refl _)
      have l1 := oB_le_W (U := U) (n := n) (p := p) (q := q) m (s ||| 2 ^ x) (by omega) ol
      have l2 := oB_le_W (U := U) (n := n) (p := q) (q := p) m (s ||| 2 ^ x) (by omega) ol
      by_cases xq : x = q
      · have no : ¬ oE (oW U (q : Int) p) s x = true := fun w => by
          have := (oE_t.mp w).2
          rw [xq] at this
          rw [(oW_q.mp this).2] at h1
          cases h1
        rw [if_neg no]
        split <;> omega
      · by_cases xp : x = p
        · have no : ¬ oE (oW U (p : Int) q) s x = true := fun w => by
            have := (oE_t.mp w).2
            rw [xp] at this
            rw [(oW_q.mp this).2] at h2
            cases h2
          rw [if_neg no]
          split <;> omega
        · have a1 : oE (oW U (q : Int) p) s x = true := oE_t.mpr ⟨k1, by rw [oW_x xq]; exact k2⟩
          have a2 : oE (oW U (p : Int) q) s x = true := oE_t.mpr ⟨k1, by rw [oW_x xp]; exact k2⟩
          rw [if_pos a1, if_pos a2]
          refine ah_two hp hne m (s ||| 2 ^ x) (by omega) ol ?_ ?_
          · rw [or_bit, h1]
            simp [xp]
          · rw [or_bit, h2]
            simp [xq]
    · rw [if_neg z, if_neg (fun w => z (oE_W w)), if_neg (fun w => z (oE_W w))]
      exact Int.le_refl _
/-- something of what p stands on can come next, and it isn't q -/
theorem ah_next {U : Nat → Nat} {n p q s : Nat} (hp : p < n) (hq : ¬ Wk U n p q) : ∀ (m t : Nat), 2 ^ n - t ≤ m → t < 2 ^ n → t.testBit p = false → oB U n t ≠ 0 → (∀ x, t.testBit x = true → Wk U n p x → s.testBit x = true) → sub s t → ∃ x, x < n ∧ oE U s x = true ∧ x ≠ q
  | 0, t, hm, ht, _, _, _, _ => by omega
  | m + 1, t, hm, ht, h1, h2, h3, h4 => by
    obtain ⟨x, x1, x2, x3⟩ := oB_step ht h2 (fun z => by rw [z, all_bit] at h1; simp at h1; omega)
    obtain ⟨k1, k2⟩ := oE_t.mp x2
    by_cases w : Wk U n p x
    · refine ⟨x, x1, oE_t.mpr ⟨?_, fun i hi => ?_⟩, fun z => hq (by rw [← z]; exact w)⟩
      · cases y : s.testBit x with
        | false => rfl
        | true => rw [h4 x y] at k1; cases k1
      · obtain ⟨k, hk⟩ := w
        exact h3 i (k2 i hi) ⟨k + 1, lb_cat (lb_1 x1 hi) hk⟩
    · have lt := lt_or k1
      have xp : x ≠ p := fun z => w (by rw [z]; exact ⟨0, lb_0.mpr rfl⟩)
      refine ah_next hp hq m (t ||| 2 ^ x) (by omega) (or_lt ht x1) ?_ x3 (fun y hy wy => ?_) (fun i hi => by rw [or_bit, h4 i hi]; rfl)
      · rw [or_bit, h1]
        simp [xp]
      · rw [or_bit] at hy
        by_cases z : x = y
        · rw [z] at w
          exact absurd wy w
        · exact h3 y (by simpa [z] using hy) wy
/-- there is an order with p ahead of q, if q isn't under p -/
theorem ah_some {U : Nat → Nat} {n p q : Nat} (hp : p < n) (h0 : oB U n 0 ≠ 0) (hq : ¬ Wk U n p q) : oB (oW U (q : Int) p) n 0 ≠ 0 := by
  refine gs_no (fun i => ?_)
  induction i using Nat.strongRecOn with
  | _ i ih =>
    intro hi
    have ok : ∀ j, j ≤ i → gs (oW U (q : Int) p) n j < 2 ^ n ∧ oB U n (gs (oW U (q : Int) p) n j) ≠ 0 ∧ mcN n (gs (oW U (q : Int) p) n j) + j = n := by
      intro j
      induction j with
      | zero => exact fun _ => ⟨Nat.two_pow_pos n, h0, mcN_0 n⟩
      | succ j ihj =>
        intro hj
        obtain ⟨a1, a2, a3⟩ := ihj (by omega)
        obtain ⟨b1, b2, b3, b4, b5, b6⟩ := gs_1 a1 (ih j (by omega) (by omega))
        refine ⟨b5, ?_, by omega⟩
        rw [b4]
        exact oB_ex _ _ _ (Nat.le_refl _) a1 b1 (oE_W b2) a2
    obtain ⟨a1, a2, a3⟩ := ok i (Nat.le_refl i)
    obtain ⟨s, hs⟩ : ∃ s, s = gs (oW U (q : Int) p) n i := ⟨_, rfl⟩
    rw [← hs] at a1 a2 a3 ⊢
    cases z : s.testBit p with
    | true =>
      obtain ⟨x, x1, x2, x3⟩ := oB_step a1 a2 (fun w => by
        have := all_mcN (n := n)
        rw [← w] at this
        omega)
      obtain ⟨k1, k2⟩ := oE_t.mp x2
      refine ⟨x, x1, oE_t.mpr ⟨k1, ?_⟩⟩
      by_cases w : x = q
      · rw [w]
        exact oW_q.mpr ⟨by rw [← w]; exact k2, z⟩
      · rw [oW_x w]
        exact k2
    | false =>
      obtain ⟨x, x1, x2, x3⟩ := ah_next (s := s) hp hq _ s (Nat.le_refl _) a1 z a2 (fun x hx _ => hx) (fun i hi => hi)
      obtain ⟨k1, k2⟩ := oE_t.mp x2
      exact ⟨x, x1, oE_t.mpr ⟨k1, by rw [oW_x x3]; exact k2⟩⟩
