/-! TABLET: one fill of a closed BLOCK, pure -/
section CS
variable {ln : Nat → Ln} {n b : Nat}
theorem cl1 (h : clF ln b n = 1) (x y : Int) : (loB ln n b x y ≤ hiB ln n b x y ↔ 0 ≤ dueF ln n b x y ∧ dueF ln n b x y ≤ h0B ln n b) ∧ (0 ≤ dueF ln n b x y → dueF ln n b x y ≤ h0B ln n b → loB ln n b x y = dueF ln n b x y ∧ hiB ln n b x y = dueF ln n b x y) := by
  have c := h0_b ln n b
  have z : ¬ clF ln b n = 0 := by omega
  unfold loB hiB
  rw [if_neg z, if_neg z]
  refine ⟨?_, fun a e => ?_⟩
  · split <;> split <;> omega
  · refine ⟨?_, ?_⟩
    · split <;> omega
    · split <;> omega
def wV (ln : Nat → Ln) (n b : Nat) (x y : Int) (j : Nat) : Int := if (j : Int) = loF ln b n then dueF ln n b x y else vlM ln n b (j : Int) x y
theorem stp_f (hV : LV ln n) (h : clF ln b n = 1) {x y : Int} (f : 0 ≤ dueF ln n b x y ∧ dueF ln n b x y ≤ h0B ln n b) {j : Nat} (S : Stt) : (stp ln n b x y S).1 = S.1 + 1 ∧ (unK ln n b j → (stp ln n b x y S).2.1 j = (if wV ln n b x y j < S.2.1 j then wV ln n b x y j else S.2.1 j) ∧ (stp ln n b x y S).2.2 j = (if S.2.2 j < wV ln n b x y j then wV ln n b x y j else S.2.2 j)) ∧ (¬ unK ln n b j → (stp ln n b x y S).2.1 j = S.2.1 j ∧ (stp ln n b x y S).2.2 j = S.2.2 j) := by
  obtain ⟨i, e⟩ := cl1 h x y
  obtain ⟨l, u⟩ := e f.1 f.2
  have ff := i.mpr f
  unfold stp
  rw [if_pos ff, l, u]
  refine ⟨?_, fun hu => ?_, fun hu => ?_⟩
  · show S.1 + (dueF ln n b x y - dueF ln n b x y + 1) = S.1 + 1
    omega
  · unfold wV
    show wmn (wmn (wmn S.2.1 (loF ln b n) (dueF ln n b x y)) (mL (mkF ln b n) 0) (vlM ln n b (mL (mkF ln b n) 0) x y)) (mL (mkF ln b n) 1) (vlM ln n b (mL (mkF ln b n) 1) x y) j = _ ∧ wmx (wmx (wmx S.2.2 (loF ln b n) (dueF ln n b x y)) (mL (mkF ln b n) 0) (vlM ln n b (mL (mkF ln b n) 0) x y)) (mL (mkF ln b n) 1) (vlM ln n b (mL (mkF ln b n) 1) x y) j = _
    by_cases z : (j : Int) = loF ln b n
    · obtain ⟨a0, a1, _, _, _⟩ := lo_mk hV z
      rw [if_pos z, wmn_o a1, wmn_o a0, wmn_2 z, wmx_o a1, wmx_o a0, wmx_2 z]
      exact ⟨rfl, rfl⟩
    · rw [if_neg z]
      by_cases z0 : (j : Int) = mL (mkF ln b n) 0
      · by_cases z1 : (j : Int) = mL (mkF ln b n) 1
        · rw [wmn_2 z1, wmn_2 z0, wmn_o z, wmx_2 z1, wmx_2 z0, wmx_o z, ← z0, ← z1]
          exact ⟨mn2 _ _, mx2 _ _⟩
        · rw [wmn_o z1, wmn_2 z0, wmn_o z, wmx_o z1, wmx_2 z0, wmx_o z, ← z0]
          exact ⟨rfl, rfl⟩
      · have z1 : (j : Int) = mL (mkF ln b n) 1 := by
          rcases hu with q | q | q
          · exact absurd q z
          · exact absurd q z0
          · exact q
        rw [wmn_2 z1, wmn_o z0, wmn_o z, wmx_2 z1, wmx_o z0, wmx_o z, ← z1]
        exact ⟨rfl, rfl⟩
  · have a0 : (j : Int) ≠ loF ln b n := fun q => hu (Or.inl q)
    have a1 : (j : Int) ≠ mL (mkF ln b n) 0 := fun q => hu (Or.inr (Or.inl q))
    have a2 : (j : Int) ≠ mL (mkF ln b n) 1 := fun q => hu (Or.inr (Or.inr q))
    show wmn (wmn (wmn S.2.1 (loF ln b n) (dueF ln n b x y)) (mL (mkF ln b n) 0) (vlM ln n b (mL (mkF ln b n) 0) x y)) (mL (mkF ln b n) 1) (vlM ln n b (mL (mkF ln b n) 1) x y) j = _ ∧ wmx (wmx (wmx S.2.2 (loF ln b n) (dueF ln n b x y)) (mL (mkF ln b n) 0) (vlM ln n b (mL (mkF ln b n) 0) x y)) (mL (mkF ln b n) 1) (vlM ln n b (mL (mkF ln b n) 1) x y) j = _
    rw [wmn_o a2, wmn_o a1, wmn_o a0, wmx_o a2, wmx_o a1, wmx_o a0]
    exact ⟨rfl, rfl⟩
theorem stp_nf (h : clF ln b n = 1) {x y : Int} (f : ¬ (0 ≤ dueF ln n b x y ∧ dueF ln n b x y ≤ h0B ln n b)) (S : Stt) : stp ln n b x y S = S := by
  unfold stp
  rw [if_neg (fun q => f ((cl1 h x y).1.mp q))]
/-- what stands while a closed BLOCK is filled -/
def PI (ln : Nat → Ln) (n b : Nat) (S : Stt) : Prop := 0 ≤ S.1 ∧ ∀ j, j < n → bkF ln j = b → (¬ unK ln n b j → S.2.1 j = (ln j).2.2.2.1 ∧ S.2.2 j = (ln j).2.2.2.1) ∧ (unK ln n b j → S.1 = 0 → S.2.1 j = 2147483647 ∧ S.2.2 j = -1) ∧ (-1 ≤ S.2.1 j ∧ S.2.1 j ≤ 2147483647) ∧ -1 ≤ S.2.2 j ∧ S.2.2 j ≤ 2147483647
/-- what the model holds of it, for a line -/
def aM (S : Stt) (j : Nat) : Int := if S.1 = 0 then 1000000000000 else S.2.1 j
def bM (S : Stt) (j : Nat) : Int := if S.1 = 0 then -1 else S.2.2 j
theorem wV_b (hV : LV ln n) {x y : Int} (hx : 0 ≤ x ∧ x ≤ 99) (hy : 0 ≤ y ∧ y ≤ 99) (f : 0 ≤ dueF ln n b x y ∧ dueF ln n b x y ≤ h0B ln n b) {j : Nat} (hj : j < n) : 0 ≤ wV ln n b x y j ∧ wV ln n b x y j ≤ 79199208 ∧ (¬ unK ln n b j → wV ln n b x y j = (ln j).2.2.2.1) := by
  have v := vlM_b hV b hj hx hy
  have c := h0_b ln n b
  unfold wV
  by_cases z : (j : Int) = loF ln b n
  · rw [if_pos z]
    exact ⟨f.1, by omega, fun hu => absurd (Or.inl z) hu⟩
  · rw [if_neg z]
    refine ⟨v.1, v.2.1, fun hu => ?_⟩
    unfold vlM
    rw [if_neg (show ¬ mL (mkF ln b n) 0 = (j : Int) from fun q => hu (Or.inr (Or.inl q.symm))), if_neg (show ¬ mL (mkF ln b n) 1 = (j : Int) from fun q => hu (Or.inr (Or.inr q.symm)))]
    show (ln j).2.2.2.1 + 0 + 0 = _
    omega
theorem PI_s (hV : LV ln n) (h : clF ln b n = 1) {x y : Int} (hx : 0 ≤ x ∧ x ≤ 99) (hy : 0 ≤ y ∧ y ≤ 99) (f : 0 ≤ dueF ln n b x y ∧ dueF ln n b x y ≤ h0B ln n b) {S : Stt} (hP : PI ln n b S) : PI ln n b (stp ln n b x y S) ∧ ∀ j, j < n → bkF ln j = b → aM (stp ln n b x y S) j = (if wV ln n b x y j < aM S j then wV ln n b x y j else aM S j) ∧ bM (stp ln n b x y S) j = (if bM S j < wV ln n b x y j then wV ln n b x y j else bM S j) := by
  obtain ⟨p0, p1⟩ := hP
  have s1 := fun j => (stp_f hV h f (j := j) S)
  have e1 := (s1 0).1
  refine ⟨⟨by omega, fun j hj hjb => ?_⟩, fun j hj hjb => ?_⟩
  · obtain ⟨q1, q2, q3, q4⟩ := p1 j hj hjb
    obtain ⟨_, u1, u2⟩ := s1 j
    obtain ⟨w1, w2, w3⟩ := wV_b hV (b := b) hx hy f hj
    by_cases hu : unK ln n b j
    · obtain ⟨t1, t2⟩ := u1 hu
      rw [t1, t2]
      refine ⟨fun c => absurd hu c, fun _ z => by omega, ?_, ?_⟩
      · split <;> omega
      · split <;> omega
    · obtain ⟨t1, t2⟩ := u2 hu
      rw [t1, t2]
      exact ⟨q1, fun c => absurd c hu, q3, q4⟩
  · obtain ⟨q1, q2, q3, q4⟩ := p1 j hj hjb
    obtain ⟨_, u1, u2⟩ := s1 j
    obtain ⟨w1, w2, w3⟩ := wV_b hV (b := b) hx hy f hj
    unfold aM bM
    rw [if_neg (show ¬ (stp ln n b x y S).1 = 0 by omega), if_neg (show ¬ (stp ln n b x y S).1 = 0 by omega)]
    by_cases hu : unK ln n b j
    · obtain ⟨t1, t2⟩ := u1 hu
      rw [t1, t2]
      by_cases z : S.1 = 0
      · obtain ⟨r1, r2⟩ := q2 hu z
        rw [if_pos z, if_pos z, r1, r2, if_pos (show wV ln n b x y j < 2147483647 by omega), if_pos (show wV ln n b x y j < 1000000000000 by omega)]
        exact ⟨rfl, rfl⟩
      · rw [if_neg z, if_neg z]
        exact ⟨rfl, rfl⟩
    · obtain ⟨t1, t2⟩ := u2 hu
      obtain ⟨r1, r2⟩ := q1 hu
      have w := w3 hu
      rw [t1, t2, r1, r2, w]
      by_cases z : S.1 = 0
      · rw [if_pos z, if_pos z, if_pos (show (ln j).2.2.2.1 < 1000000000000 by omega), if_pos (show (-1 : Int) < (ln j).2.2.2.1 by omega)]
        exact ⟨rfl, rfl⟩
      · rw [if_neg z, if_neg z, if_neg (Int.lt_irrefl _)]
        exact ⟨rfl, rfl⟩
end CS
