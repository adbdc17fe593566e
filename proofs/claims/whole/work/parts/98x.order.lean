/-! TABLET: BLOCKs by the order of their lines, pure -/
def mqP (ln : Nat → Ln) (Q : Nat → Nat) : Nat → List (Nat × Int × Int)
  | 0 => []
  | t + 1 => mqP ln Q t ++ (ln (Q t)).2.2.2.2.map (fun p => (Q t, p))
def lqP (ln : Nat → Ln) (Q : Nat → Nat) : Nat → Int
  | 0 => -1
  | t + 1 => if (ln (Q t)).2.2.1 = 1 then (t : Int) else lqP ln Q t
def tqP (ln : Nat → Ln) (Q : Nat → Nat) : Nat → Int
  | 0 => 0
  | t + 1 => tqP ln Q t + sgF (ln (Q t)).1 (ln (Q t)).2.2.2.1
def upQ (Q : Nat → Nat) (N m : Nat) : Nat → Nat := fun p => if p = N then m else Q p
theorem mqP_c (ln : Nat → Ln) {Q Q' : Nat → Nat} : ∀ N : Nat, (∀ p, p < N → Q' p = Q p) → mqP ln Q' N = mqP ln Q N ∧ lqP ln Q' N = lqP ln Q N ∧ tqP ln Q' N = tqP ln Q N
  | 0, _ => ⟨rfl, rfl, rfl⟩
  | t + 1, h => by
    obtain ⟨a, b, c⟩ := mqP_c ln t (fun p hp => h p (by omega))
    have e := h t (by omega)
    refine ⟨?_, ?_, ?_⟩
    · show mqP ln Q' t ++ (ln (Q' t)).2.2.2.2.map (fun p => (Q' t, p)) = mqP ln Q t ++ (ln (Q t)).2.2.2.2.map (fun p => (Q t, p))
      rw [a, e]
    · show (if (ln (Q' t)).2.2.1 = 1 then (t : Int) else lqP ln Q' t) = (if (ln (Q t)).2.2.1 = 1 then (t : Int) else lqP ln Q t)
      rw [b, e]
    · show tqP ln Q' t + sgF (ln (Q' t)).1 (ln (Q' t)).2.2.2.1 = tqP ln Q t + sgF (ln (Q t)).1 (ln (Q t)).2.2.2.1
      rw [c, e]
def BQ (ln : Nat → Ln) (m b N : Nat) (Q : Nat → Nat) : Prop := (∀ p, p < N → Q p < m ∧ bkF ln (Q p) = b) ∧ (∀ p q, p < q → q < N → Q p < Q q) ∧ (∀ i, i < m → bkF ln i = b → ∃ p, p < N ∧ Q p = i) ∧ mqP ln Q N = mkF ln b m ∧ (loF ln b m = -1 → lqP ln Q N = -1) ∧ (loF ln b m ≠ -1 → ∃ p : Nat, lqP ln Q N = (p : Int) ∧ p < N ∧ (Q p : Int) = loF ln b m) ∧ tqP ln Q N = toF ln b m ∧ N ≤ m
def BI (ln : Nat → Ln) (m : Nat) (g : Int) (N : Nat) (Q : Nat → Nat) : Prop := (obF ln m g = -1 ∧ N = 0) ∨ ∃ b : Nat, obF ln m g = (b : Int) ∧ 1 ≤ N ∧ BQ ln m b N Q
/-- nothing of a BLOCK stands yet -/
theorem bq_0 (ln : Nat → Ln) (m : Nat) (Q : Nat → Nat) : BQ ln m m 0 Q := by
  refine ⟨fun p hp => by omega, fun p q _ hq => by omega, fun i hi hb => ?_, ?_, fun _ => rfl, fun h => absurd (loF_0 ln m m (Nat.le_refl _)) h, ?_, Nat.zero_le _⟩
  · have := bkF_le ln i
    omega
  · rw [mkF_0 ln m m (Nat.le_refl _)]
    rfl
  · rw [toF_0 ln m m (Nat.le_refl _)]
    rfl
theorem bq_on {ln : Nat → Ln} {m N : Nat} {Q : Nat → Nat} (h : BQ ln m (bkF ln m) N Q) : BQ ln (m + 1) (bkF ln m) (N + 1) (upQ Q N m) := by
  obtain ⟨h1, h2, h3, h4, h5, h6, h7, h8⟩ := h
  have e : ∀ p, p < N → upQ Q N m p = Q p := fun p hp => if_neg (by omega)
  have eN : upQ Q N m N = m := if_pos rfl
  obtain ⟨c1, c2, c3⟩ := mqP_c ln N e
  refine ⟨fun p hp => ?_, fun p q hpq hq => ?_, fun i hi hb => ?_, ?_, fun hl => ?_, fun hl => ?_, ?_, by omega⟩
  · by_cases z : p = N
    · rw [z, eN]
      exact ⟨Nat.lt_succ_self m, rfl⟩
    · rw [e p (by omega)]
      have := h1 p (by omega)
      exact ⟨by omega, this.2⟩
  · by_cases z : q = N
    · rw [z, eN, e p (by omega)]
      exact (h1 p (by omega)).1
    · rw [e q (by omega), e p (by omega)]
      exact h2 p q hpq (by omega)
  · by_cases z : i = m
    · exact ⟨N, Nat.lt_succ_self N, by rw [eN, z]⟩
    · obtain ⟨p, hp, hq⟩ := h3 i (by omega) hb
      exact ⟨p, by omega, by rw [e p hp, hq]⟩
  · show mqP ln (upQ Q N m) N ++ (ln (upQ Q N m N)).2.2.2.2.map (fun p => (upQ Q N m N, p)) = _
    rw [mkF_S, if_pos rfl, c1, eN, h4]
  · rw [loF_S] at hl
    show (if (ln (upQ Q N m N)).2.2.1 = 1 then (N : Int) else lqP ln (upQ Q N m) N) = -1
    rw [eN, c2]
    by_cases z : (ln m).2.2.1 = 1
    · rw [if_pos ⟨rfl, z⟩] at hl
      omega
    · rw [if_neg (fun q => z q.2)] at hl
      rw [if_neg z]
      exact h5 hl
  · rw [loF_S] at hl ⊢
    show ∃ p : Nat, (if (ln (upQ Q N m N)).2.2.1 = 1 then (N : Int) else lqP ln (upQ Q N m) N) = (p : Int) ∧ p < N + 1 ∧ (upQ Q N m p : Int) = _
    rw [eN, c2]
    by_cases z : (ln m).2.2.1 = 1
    · have e1 : (if bkF ln m = bkF ln m ∧ (ln m).2.2.1 = 1 then (m : Int) else loF ln (bkF ln m) m) = (m : Int) := if_pos ⟨rfl, z⟩
      rw [e1, if_pos z]
      exact ⟨N, rfl, Nat.lt_succ_self N, by rw [eN]⟩
    · have e1 : (if bkF ln m = bkF ln m ∧ (ln m).2.2.1 = 1 then (m : Int) else loF ln (bkF ln m) m) = loF ln (bkF ln m) m := if_neg (fun q => z q.2)
      rw [e1] at hl ⊢
      rw [if_neg z]
      obtain ⟨p, p1, p2, p3⟩ := h6 hl
      exact ⟨p, p1, by omega, by rw [e p p2]; exact p3⟩
  · show tqP ln (upQ Q N m) N + sgF (ln (upQ Q N m N)).1 (ln (upQ Q N m N)).2.2.2.1 = _
    rw [toF_S, if_pos rfl, c3, eN, h7]
theorem bq_off {ln : Nat → Ln} {m b N : Nat} {Q : Nat → Nat} (h : BQ ln m b N Q) (hne : bkF ln m ≠ b) : BQ ln (m + 1) b N Q := by
  obtain ⟨h1, h2, h3, h4, h5, h6, h7, h8⟩ := h
  have l : loF ln b (m + 1) = loF ln b m := by rw [loF_S, if_neg (fun q => hne q.1)]
  refine ⟨fun p hp => ⟨by have := (h1 p hp).1; omega, (h1 p hp).2⟩, h2, fun i hi hb => ?_, ?_, fun hl => h5 (by rw [← l]; exact hl), fun hl => ?_, ?_, by omega⟩
  · by_cases z : i = m
    · rw [z] at hb
      exact absurd hb hne
    · exact h3 i (by omega) hb
  · rw [mkF_S, if_neg hne, List.append_nil]
    exact h4
  · rw [l] at hl ⊢
    exact h6 hl
  · rw [toF_S, if_neg hne]
    exact h7
/-- a line of this GOOD comes to its BLOCK -/
theorem bi_on {ln : Nat → Ln} {m N : Nat} {Q : Nat → Nat} (h : BI ln m (ln m).2.1 N Q) : BQ ln (m + 1) (bkF ln m) (N + 1) (upQ Q N m) := by
  refine bq_on ?_
  rcases h with ⟨h1, h2⟩ | ⟨b, h1, h2, h3⟩
  · have e : bkF ln m = m := by unfold bkF; rw [if_pos h1]
    rw [e, h2]
    exact bq_0 ln m Q
  · have e : bkF ln m = b := by
      unfold bkF
      rw [h1, if_neg (by omega)]
      rfl
    rw [e]
    exact h3
theorem bi_next {ln : Nat → Ln} {m N : Nat} {Q : Nat → Nat} (h : BI ln m (ln m).2.1 N Q) : BI ln (m + 1) (ln m).2.1 (if (ln m).1 = 2 then 0 else N + 1) (upQ Q N m) := by
  have a := bi_on h
  unfold BI
  rw [obF_S, if_pos rfl]
  by_cases z : (ln m).1 = 2
  · rw [if_pos z, if_pos z]
    exact Or.inl ⟨rfl, rfl⟩
  · rw [if_neg z, if_neg z]
    exact Or.inr ⟨bkF ln m, rfl, by omega, a⟩
theorem bi_off {ln : Nat → Ln} {m N : Nat} {Q : Nat → Nat} {g : Int} (hg : g ≠ (ln m).2.1) (h : BI ln m g N Q) : BI ln (m + 1) g N Q := by
  unfold BI
  rw [obF_S, if_neg hg]
  rcases h with h | ⟨b, h1, h2, h3⟩
  · exact Or.inl h
  · refine Or.inr ⟨b, h1, h2, bq_off h3 (fun q => ?_)⟩
    have := ob_ne ln m hg (by omega)
    rw [h1] at this
    exact this q
/-- a BLOCK that stands open no more gets no line more -/
theorem st_ne {ln : Nat → Ln} {m b : Nat} (hb : b < m) (h : obF ln m (ln b).2.1 ≠ (b : Int)) : ∀ d, obF ln (m + d) (ln b).2.1 ≠ (b : Int) ∧ bkF ln (m + d) ≠ b := by
  have step : ∀ j, m ≤ j → obF ln j (ln b).2.1 ≠ (b : Int) → bkF ln j ≠ b := fun j hj ho q => by
    have g := (bkF_b ln j).2
    rw [q] at g
    have i := bkF_i ln j
    rw [q, ← g] at i
    by_cases z : obF ln j (ln b).2.1 = -1
    · rw [if_pos z] at i
      omega
    · rw [if_neg z] at i
      exact ho i.symm
  intro d
  induction d with
  | zero => exact ⟨h, step m (Nat.le_refl _) h⟩
  | succ d ih =>
    have o : obF ln (m + d + 1) (ln b).2.1 ≠ (b : Int) := by
      rw [obF_S]
      by_cases c : (ln b).2.1 = (ln (m + d)).2.1
      · rw [if_pos c]
        by_cases s : (ln (m + d)).1 = 2
        · rw [if_pos s]
          omega
        · rw [if_neg s]
          have := ih.2
          omega
      · rw [if_neg c]
        exact ih.1
    exact ⟨o, step (m + d + 1) (by omega) o⟩
theorem st_all {ln : Nat → Ln} {m b : Nat} (hb : b < m) (h : obF ln m (ln b).2.1 ≠ (b : Int)) : ∀ d, mkF ln b (m + d) = mkF ln b m ∧ loF ln b (m + d) = loF ln b m ∧ toF ln b (m + d) = toF ln b m ∧ clF ln b (m + d) = clF ln b m := by
  intro d
  induction d with
  | zero => exact ⟨rfl, rfl, rfl, rfl⟩
  | succ d ih =>
    obtain ⟨a1, a2, a3, a4⟩ := ih
    have ne := (st_ne hb h d).2
    refine ⟨?_, ?_, ?_, ?_⟩
    · show mkF ln b (m + d + 1) = _
      rw [mkF_S, if_neg ne, List.append_nil, a1]
    · show loF ln b (m + d + 1) = _
      rw [loF_S, if_neg (fun q => ne q.1), a2]
    · show toF ln b (m + d + 1) = _
      rw [toF_S, if_neg ne, a3]
    · show clF ln b (m + d + 1) = _
      rw [clF_S, if_neg (fun q => ne q.1), a4]
