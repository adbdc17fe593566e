/-! BALLS: the class's survey, all of it -/
theorem cnt_iv (f t : Int) (hf : 0 ≤ f) : ∀ n : Nat, sm n (fun e => ind (f ≤ (e : Int) ∧ (e : Int) ≤ t)) = if f ≤ t ∧ f < n then (if t < n then t - f + 1 else n - f) else 0
  | 0 => by
    rw [if_neg (by omega)]
    rfl
  | n + 1 => by
    rw [sm_S, cnt_iv f t hf n]
    by_cases c : f ≤ (n : Int) ∧ (n : Int) ≤ t
    · rw [ind_t c]
      by_cases d : f < (n : Int)
      · rw [if_pos ⟨by omega, d⟩, if_neg (by omega), if_pos ⟨by omega, by omega⟩]
        by_cases e : t < ((n + 1 : Nat) : Int)
        · rw [if_pos e]; omega
        · rw [if_neg e]; omega
      · rw [if_neg (by omega), if_pos ⟨by omega, by omega⟩]
        by_cases e : t < ((n + 1 : Nat) : Int)
        · rw [if_pos e]; omega
        · rw [if_neg e]; omega
    · rw [ind_f c]
      by_cases d : f ≤ t ∧ f < (n : Int)
      · rw [if_pos d, if_pos (by omega), if_pos ⟨by omega, by omega⟩, if_pos (by omega)]
        omega
      · rw [if_neg d, if_neg (by omega)]
        rfl
theorem sm_uniq {P : Nat → Prop} {u : Nat} : ∀ {n : Nat}, u < n → (∀ v, v < n → (P v ↔ v = u)) → sm n (fun v => ind (P v)) = 1
  | 0, h, _ => by omega
  | n + 1, h, hP => by
    rw [sm_S]
    by_cases c : u = n
    · rw [ind_t ((hP n (by omega)).mpr c.symm), sm_congr (g := fun _ => 0) (fun v hv => ind_f (fun q => by have := (hP v (by omega)).mp q; omega)), sm_zero]
      rfl
    · rw [ind_f (fun q => by have := (hP n (by omega)).mp q; omega), sm_uniq (u := u) (by omega) (fun v hv => hP v (by omega))]
      rfl
theorem vec_4 (a b c d e : Nat) : vec a b c d e 0 = a ∧ vec a b c d e 1 = b ∧ vec a b c d e 2 = c ∧ vec a b c d e 3 = d ∧ vec a b c d e 4 = e := ⟨rfl, rfl, rfl, rfl, rfl⟩
theorem vC_4 {i e k : Nat} (hk : k < 4) : vC i e k = vC i 0 k := by
  have h : k = 0 ∨ k = 1 ∨ k = 2 ∨ k = 3 := by omega
  rcases h with h | h | h | h <;> subst h <;> rfl
theorem vC_b {i e k : Nat} (hi : i < 10000) (he : e < 10) (hk : k < 5) : 0 ≤ vC i e k ∧ vC i e k ≤ 9 := by
  have h : k = 0 ∨ k = 1 ∨ k = 2 ∨ k = 3 ∨ k = 4 := by omega
  rcases h with h | h | h | h | h <;> subst h
  · show (0 : Int) ≤ ((i / 10 / 10 / 10 : Nat) : Int) ∧ ((i / 10 / 10 / 10 : Nat) : Int) ≤ 9
    omega
  · show (0 : Int) ≤ ((i / 10 / 10 % 10 : Nat) : Int) ∧ ((i / 10 / 10 % 10 : Nat) : Int) ≤ 9
    omega
  · show (0 : Int) ≤ ((i / 10 % 10 : Nat) : Int) ∧ ((i / 10 % 10 : Nat) : Int) ≤ 9
    omega
  · show (0 : Int) ≤ ((i % 10 : Nat) : Int) ∧ ((i % 10 : Nat) : Int) ≤ 9
    omega
  · show (0 : Int) ≤ ((e : Nat) : Int) ∧ ((e : Nat) : Int) ≤ 9
    omega
theorem mn_or (x y : Int) : (mn x y = x ∧ x < y) ∨ (mn x y = y ∧ y ≤ x) := by unfold mn; split <;> omega
theorem mx_or (x y : Int) : (mx x y = y ∧ x < y) ∨ (mx x y = x ∧ y ≤ x) := by unfold mx; split <;> omega
/-- what the class has surveyed -/
def Cv (A : (Nat → Int) → Prop) (far : (Nat → Int) → Int) (I : Nat) (ways lies : Int) (lo hi : Nat → Int) : Prop :=
  ways = sm I (fun i => sm 10 (fun e => ind (A (vC i e)))) ∧ (ways = 0 → lies = -1) ∧
  (∀ k, k < 5 → lo k ≤ 9 ∧ (∀ i e, i < I → e < 10 → A (vC i e) → lo k ≤ vC i e k) ∧ (lo k = 9 ∨ ∃ i e, i < I ∧ e < 10 ∧ A (vC i e) ∧ vC i e k = lo k)) ∧
  (∀ k, k < 5 → 0 ≤ hi k ∧ (∀ i e, i < I → e < 10 → A (vC i e) → vC i e k ≤ hi k) ∧ (hi k = 0 ∨ ∃ i e, i < I ∧ e < 10 ∧ A (vC i e) ∧ vC i e k = hi k)) ∧
  (ways ≠ 0 → (∃ i e, i < I ∧ e < 10 ∧ A (vC i e) ∧ far (vC i e) = lies) ∧ ∀ i e, i < I → e < 10 → A (vC i e) → lies ≤ far (vC i e))
theorem Cv_0 (A : (Nat → Int) → Prop) (far : (Nat → Int) → Int) : Cv A far 0 0 (-1) (fun _ => 9) (fun _ => 0) :=
  ⟨rfl, fun _ => rfl, fun k _ => ⟨Int.le_refl _, fun i e h => by omega, Or.inl rfl⟩, fun k _ => ⟨Int.le_refl _, fun i e h => by omega, Or.inl rfl⟩, fun h => absurd rfl h⟩
theorem Cv_skip {A : (Nat → Int) → Prop} {far : (Nat → Int) → Int} {I : Nat} {w l : Int} {lo hi : Nat → Int} (h : Cv A far I w l lo hi) (hA : ∀ e, e < 10 → ¬ A (vC I e)) : Cv A far (I + 1) w l lo hi := by
  obtain ⟨h1, h2, h3, h4, h5⟩ := h
  have lt : ∀ i e, i < I + 1 → e < 10 → A (vC i e) → i < I := fun i e hj he ha => by
    by_cases q : i = I
    · rw [q] at ha
      exact absurd ha (hA e he)
    · omega
  refine ⟨?_, h2, fun k hk => ?_, fun k hk => ?_, fun q => ?_⟩
  · rw [sm_S, sm_congr (n := 10) (g := fun _ => 0) (fun e he => ind_f (hA e he)), sm_zero, ← h1]
    omega
  · obtain ⟨a, b, c⟩ := h3 k hk
    refine ⟨a, fun i e hj he ha => b i e (lt i e hj he ha) he ha, ?_⟩
    rcases c with c | ⟨i, e, c1, c2, c3, c4⟩
    · exact Or.inl c
    · exact Or.inr ⟨i, e, by omega, c2, c3, c4⟩
  · obtain ⟨a, b, c⟩ := h4 k hk
    refine ⟨a, fun i e hj he ha => b i e (lt i e hj he ha) he ha, ?_⟩
    rcases c with c | ⟨i, e, c1, c2, c3, c4⟩
    · exact Or.inl c
    · exact Or.inr ⟨i, e, by omega, c2, c3, c4⟩
  · obtain ⟨⟨i, e, c1, c2, c3, c4⟩, b⟩ := h5 q
    exact ⟨⟨i, e, by omega, c2, c3, c4⟩, fun i e hj he ha => b i e (lt i e hj he ha) he ha⟩
theorem Cv_take {A : (Nat → Int) → Prop} {far : (Nat → Int) → Int} {I : Nat} {w l f t L : Int} {lo hi : Nat → Int} (h : Cv A far I w l lo hi) (hI : I < 10000) (hf : 0 ≤ f ∧ f ≤ t) (ht : t ≤ 9) (hA : ∀ e : Nat, e < 10 → (A (vC I e) ↔ f ≤ (e : Int) ∧ (e : Int) ≤ t)) (hL1 : ∃ e : Nat, e < 10 ∧ f ≤ (e : Int) ∧ (e : Int) ≤ t ∧ far (vC I e) = L) (hL2 : ∀ e : Nat, e < 10 → f ≤ (e : Int) → (e : Int) ≤ t → L ≤ far (vC I e)) : Cv A far (I + 1) (w + (t - f + 1)) (if w = 0 then L else mn L l) (fun k => if k < 4 then mn (vC I 0 k) (lo k) else mn f (lo 4)) (fun k => if k < 4 then mx (hi k) (vC I 0 k) else mx (hi 4) t) := by
  obtain ⟨h1, h2, h3, h4, h5⟩ := h
  have w0 : 0 ≤ w := by rw [h1]; exact sm_nn fun i _ => sm_nn fun e _ => (ind_b _).1
  have fe : ((f.toNat : Nat) : Int) = f := by omega
  have te : ((t.toNat : Nat) : Int) = t := by omega
  have Af : A (vC I f.toNat) := (hA f.toNat (by omega)).mpr (by omega)
  have At : A (vC I t.toNat) := (hA t.toNat (by omega)).mpr (by omega)
  have sp : ∀ i e, i < I + 1 → e < 10 → A (vC i e) → i < I ∨ i = I ∧ f ≤ (e : Int) ∧ (e : Int) ≤ t := fun i e hj he ha => by
    by_cases q : i = I
    · rw [q] at ha
      exact Or.inr ⟨q, (hA e he).mp ha⟩
    · exact Or.inl (by omega)
  refine ⟨?_, fun q => by omega, fun k hk => ?_, fun k hk => ?_, fun _ => ?_⟩
  · rw [sm_S, sm_congr (n := 10) (fun e he => ind_congr (hA e he)), cnt_iv f t hf.1 10, if_pos (by omega), if_pos (by omega), ← h1]
  · obtain ⟨a, b, c⟩ := h3 k hk
    by_cases k4 : k < 4
    · simp only [if_pos k4]
      have vb := vC_b (k := k) hI (show 0 < 10 by omega) hk
      rcases mn_or (vC I 0 k) (lo k) with ⟨q1, q2⟩ | ⟨q1, q2⟩ <;> rw [q1]
      · refine ⟨by omega, fun i e hj he ha => ?_, Or.inr ⟨I, f.toNat, by omega, by omega, Af, vC_4 k4⟩⟩
        rcases sp i e hj he ha with z | ⟨z, _⟩
        · have := b i e z he ha
          omega
        · rw [z, vC_4 (i := I) (e := e) k4]
          exact Int.le_refl _
      · refine ⟨a, fun i e hj he ha => ?_, ?_⟩
        · rcases sp i e hj he ha with z | ⟨z, _⟩
          · exact b i e z he ha
          · rw [z, vC_4 (i := I) (e := e) k4]
            exact q2
        · rcases c with c | ⟨i, e, c1, c2, c3, c4⟩
          · exact Or.inl c
          · exact Or.inr ⟨i, e, by omega, c2, c3, c4⟩
    · have k4' : k = 4 := by omega
      subst k4'
      simp only [if_neg k4]
      rcases mn_or f (lo 4) with ⟨q1, q2⟩ | ⟨q1, q2⟩ <;> rw [q1]
      · refine ⟨by omega, fun i e hj he ha => ?_, Or.inr ⟨I, f.toNat, by omega, by omega, Af, fe⟩⟩
        rcases sp i e hj he ha with z | ⟨z, z1, z2⟩
        · have := b i e z he ha
          omega
        · exact z1
      · refine ⟨a, fun i e hj he ha => ?_, ?_⟩
        · rcases sp i e hj he ha with z | ⟨z, z1, z2⟩
          · exact b i e z he ha
          · show lo 4 ≤ (e : Int)
            omega
        · rcases c with c | ⟨i, e, c1, c2, c3, c4⟩
          · exact Or.inl c
          · exact Or.inr ⟨i, e, by omega, c2, c3, c4⟩
  · obtain ⟨a, b, c⟩ := h4 k hk
    by_cases k4 : k < 4
    · simp only [if_pos k4]
      have vb := vC_b (k := k) hI (show 0 < 10 by omega) hk
      rcases mx_or (hi k) (vC I 0 k) with ⟨q1, q2⟩ | ⟨q1, q2⟩ <;> rw [q1]
      · refine ⟨by omega, fun i e hj he ha => ?_, Or.inr ⟨I, f.toNat, by omega, by omega, Af, vC_4 k4⟩⟩
        rcases sp i e hj he ha with z | ⟨z, _⟩
        · have := b i e z he ha
          omega
        · rw [z, vC_4 (i := I) (e := e) k4]
          exact Int.le_refl _
      · refine ⟨a, fun i e hj he ha => ?_, ?_⟩
        · rcases sp i e hj he ha with z | ⟨z, _⟩
          · exact b i e z he ha
          · rw [z, vC_4 (i := I) (e := e) k4]
            exact q2
        · rcases c with c | ⟨i, e, c1, c2, c3, c4⟩
          · exact Or.inl c
          · exact Or.inr ⟨i, e, by omega, c2, c3, c4⟩
    · have k4' : k = 4 := by omega
      subst k4'
      simp only [if_neg k4]
      rcases mx_or (hi 4) t with ⟨q1, q2⟩ | ⟨q1, q2⟩ <;> rw [q1]
      · refine ⟨by omega, fun i e hj he ha => ?_, Or.inr ⟨I, t.toNat, by omega, by omega, At, te⟩⟩
        rcases sp i e hj he ha with z | ⟨z, z1, z2⟩
        · have := b i e z he ha
          omega
        · exact z2
      · refine ⟨a, fun i e hj he ha => ?_, ?_⟩
        · rcases sp i e hj he ha with z | ⟨z, z1, z2⟩
          · exact b i e z he ha
          · show (e : Int) ≤ hi 4
            omega
        · rcases c with c | ⟨i, e, c1, c2, c3, c4⟩
          · exact Or.inl c
          · exact Or.inr ⟨i, e, by omega, c2, c3, c4⟩
  · obtain ⟨e0, e1, e2, e3, e4⟩ := hL1
    have Ae : A (vC I e0) := (hA e0 e1).mpr ⟨e2, e3⟩
    by_cases q : w = 0
    · rw [if_pos q]
      refine ⟨⟨I, e0, by omega, e1, Ae, e4⟩, fun i e hj he ha => ?_⟩
      rcases sp i e hj he ha with z | ⟨z, z1, z2⟩
      · exfalso
        have s0 := sm_eq0 (fun i _ => sm_nn fun e _ => (ind_b _).1) (by rw [← h1]; exact q) i z
        have s1 := sm_eq0 (fun e _ => (ind_b _).1) s0 e he
        rw [ind_t ha] at s1
        omega
      · rw [z]
        exact hL2 e he z1 z2
    · rw [if_neg q]
      obtain ⟨⟨i0, e0', c1, c2, c3, c4⟩, b⟩ := h5 q
      rcases mn_or L l with ⟨q1, q2⟩ | ⟨q1, q2⟩ <;> rw [q1]
      · refine ⟨⟨I, e0, by omega, e1, Ae, e4⟩, fun i e hj he ha => ?_⟩
        rcases sp i e hj he ha with z | ⟨z, z1, z2⟩
        · have := b i e z he ha
          omega
        · rw [z]
          exact hL2 e he z1 z2
      · refine ⟨⟨i0, e0', by omega, c2, c3, c4⟩, fun i e hj he ha => ?_⟩
        rcases sp i e hj he ha with z | ⟨z, z1, z2⟩
        · exact b i e z he ha
        · rw [z]
          have := hL2 e he z1 z2
          omega
theorem Cv_Sv {A : (Nat → Int) → Prop} {far : (Nat → Int) → Int} {w l : Int} {lo hi : Nat → Int} (h : Cv A far 10000 w l lo hi) : Sv A far 100000 w l lo hi := by
  obtain ⟨h1, h2, h3, h4, h5⟩ := h
  refine ⟨by rw [cm_cc]; exact h1, fun q => ?_⟩
  obtain ⟨⟨i0, e0, a1, a2, a3, a4⟩, b⟩ := h5 q
  obtain ⟨v0, v1, v2⟩ := vM_of_C a1 a2
  refine ⟨⟨⟨v0, v1, (by show A (vM v0); rw [v2]; exact a3), (by show far (vM v0) = l; rw [v2]; exact a4)⟩, fun v hv hA => ?_⟩, fun k hk => ⟨⟨?_, fun v hv hA => ?_⟩, ⟨?_, fun v hv hA => ?_⟩⟩⟩
  · obtain ⟨i, e, g1, g2, g3⟩ := vC_of_M hv
    have hA' : A (vM v) := hA
    show l ≤ far (vM v)
    rw [g3] at hA' ⊢
    exact b i e g1 g2 hA'
  · obtain ⟨c1, c2, c3⟩ := h3 k hk
    rcases c3 with c3 | ⟨i, e, g1, g2, g3, g4⟩
    · refine ⟨v0, v1, (by show A (vM v0); rw [v2]; exact a3), ?_⟩
      have z1 := c2 i0 e0 a1 a2 a3
      have z2 := vC_b (k := k) a1 a2 hk
      show vM v0 k = lo k
      rw [v2]
      omega
    · obtain ⟨v, u1, u2⟩ := vM_of_C g1 g2
      exact ⟨v, u1, (by show A (vM v); rw [u2]; exact g3), (by show vM v k = lo k; rw [u2]; exact g4)⟩
  · obtain ⟨i, e, g1, g2, g3⟩ := vC_of_M hv
    have hA' : A (vM v) := hA
    show lo k ≤ vM v k
    rw [g3] at hA' ⊢
    exact (h3 k hk).2.1 i e g1 g2 hA'
  · obtain ⟨c1, c2, c3⟩ := h4 k hk
    rcases c3 with c3 | ⟨i, e, g1, g2, g3, g4⟩
    · refine ⟨v0, v1, (by show A (vM v0); rw [v2]; exact a3), ?_⟩
      have z1 := c2 i0 e0 a1 a2 a3
      have z2 := vC_b (k := k) a1 a2 hk
      show - vM v0 k = - hi k
      rw [v2]
      omega
    · obtain ⟨v, u1, u2⟩ := vM_of_C g1 g2
      exact ⟨v, u1, (by show A (vM v); rw [u2]; exact g3), (by show - vM v k = - hi k; rw [u2]; omega)⟩
  · obtain ⟨i, e, g1, g2, g3⟩ := vC_of_M hv
    have hA' : A (vM v) := hA
    show - hi k ≤ - vM v k
    rw [g3] at hA' ⊢
    have := (h4 k hk).2.1 i e g1 g2 hA'
    omega
