/-! TABLET: one fill of a closed BLOCK, the model's -/
def frXm (o : Nat) (Q : Nat → Nat) (N : Nat) (ν ν' : zNu) : Prop := (∀ r, r ≠ 107 → r ≠ 108 → r ≠ 116 → ν' r = ν r) ∧ ∀ i, (∀ p, p < N → i ≠ o + Q p) → ν' 107 i = ν 107 i ∧ ν' 108 i = ν 108 i
theorem frXm_tr {o : Nat} {Q : Nat → Nat} {N : Nat} {ν ν' ν'' : zNu} (h : frXm o Q N ν ν') (h2 : frXm o Q N ν' ν'') : frXm o Q N ν ν'' := ⟨fun r a b c => by rw [h2.1 r a b c, h.1 r a b c], fun i hi => by rw [(h2.2 i hi).1, (h2.2 i hi).2]; exact h.2 i hi⟩
theorem frXm_16 {o : Nat} {Q : Nat → Nat} {N : Nat} {ν ν' : zNu} (f : fr16 ν ν') : frXm o Q N ν ν' := ⟨fun r _ _ c => f r c, fun i _ => by rw [f 107 (by decide), f 108 (by decide)]; exact ⟨rfl, rfl⟩⟩
theorem frXm_v {o : Nat} {Q : Nat → Nat} {N : Nat} {ν ν' : zNu} (f : frV o Q N ν ν') : frXm o Q N ν ν' := ⟨fun r a b _ => f.1 r a b, f.2⟩
section F3
variable {ln : Nat → Ln} {Q : Nat → Nat} {N o m b : Nat}
theorem abM_b {S : Stt} (hP : PI ln m b S) {j : Nat} (hj : j < m) (hjb : bkF ln j = b) : (-1 ≤ aM S j ∧ aM S j ≤ 1000000000000) ∧ -1 ≤ bM S j ∧ bM S j ≤ 1000000000000 := by
  obtain ⟨_, _, q3, q4⟩ := hP.2 j hj hjb
  unfold aM bM
  split <;> omega
theorem F_sum (d len : Nat) (ho : o ≤ 264) (hN : N ≤ 24) (hV : LV ln m) (hB : BQ ln m b N Q) {Y : zMu} {ν : zNu} (hW : WP o Y ν ln Q N) (hT : TU Q N (mkF ln b m) (lqP ln Q N) Y ν) {x y : Int} (hx : 0 ≤ x ∧ x ≤ 99) (hy : 0 ≤ y ∧ y ≤ 99) (x3 : Int32) : ∃ (ν' : zNu) (w5 : Value), zF zT0 (d + 3) 215 [.ref 92, .int (zi x), .int (zi y), .int x3] (zm len Y ν) = zE zc_X12_fits (zF zT0 (d + 2)) 115 [.ref 92, .int (zi x), .int (zi y), .int x3, .long (zl (dueT ln m b x y)), w5, .int (zi (N : Int)), zU] [] (zm len Y ν') ∧ (∀ p, p < N → ν' 116 p = zl (vlM ln m b (Q p : Int) x y)) ∧ fr16 ν ν' := by
  have hQ := hB.2.1
  obtain ⟨ν1, w5, A, A1, A2⟩ := ft_1 (ln := ln) (zF zT0 (d + 2)) len ho hN (zi x) (zi y) x3 (zl 0) zU N 0 (by omega) ν zU hW (fun p hp => by omega)
  have hT1 : TU Q N (mkF ln b m) (lqP ln Q N) Y ν1 := ⟨hT.1, hT.2.1, fun k q hq => by
    rw [A2 114 (by decide)]
    exact hT.2.2 k q hq⟩
  obtain ⟨ν2, u5, B, B1, B2⟩ := ft_2 (zF zT0 (d + 2)) len hN hQ (hV.2 b) (fun p => (ln (Q p)).2.2.2.1) hx hy x3 (zl 0) zU (mkF ln b m).length 0 (by omega) ν1 w5 hT1 (fun p hp => by
    show ν1 116 p = zl ((ln (Q p)).2.2.2.1 + 0)
    rw [Int.add_zero]
    exact A1 p hp)
  have V2 : ∀ p, p < N → ν2 116 p = zl (vlM ln m b (Q p : Int) x y) := fun p hp => by
    rw [B1 p hp, sV_2 (hV.2 b)]
    congr 1
    show (ln (Q p)).2.2.2.1 + (0 + (if mL (mkF ln b m) 0 = (Q p : Int) then mU (mkF ln b m) 0 * x else 0) + (if mL (mkF ln b m) 1 = (Q p : Int) then mU (mkF ln b m) 1 * y else 0)) = (ln (Q p)).2.2.2.1 + _ + _
    omega
  have f2 : fr16 ν ν2 := fun r hr => by rw [B2 r hr, A2 r hr]
  have hW2 := WP_v hW (f2 102 (by decide)) (f2 105 (by decide))
  obtain ⟨z5, C⟩ := ft_3 (ln := ln) (d + 1) len ho hN hW2 (fun p => vlM ln m b (Q p : Int) x y) V2 (zi x) (zi y) x3 zU N 0 (by omega) u5
  rw [tV_due hV hB] at C
  refine ⟨ν2, z5, ?_, V2, f2⟩
  refine Eq.trans ?_ ((A.trans B).trans C)
  rw [B_X12_fits]
  rfl
theorem F_note (d len : Nat) (ho : o ≤ 264) (hN : N ≤ 24) (hV : LV ln m) (hB : BQ ln m b N Q) (hc : clF ln b m = 1) {Y : zMu} {ν : zNu} (hW : WP o Y ν ln Q N) {x y : Int} (hx : 0 ≤ x ∧ x ≤ 99) (hy : 0 ≤ y ∧ y ≤ 99) (f : 0 ≤ dueF ln m b x y ∧ dueF ln m b x y ≤ h0B ln m b) {S : Stt} (hP : PI ln m b S) (h16 : ∀ p, p < N → ν 116 p = zl (wV ln m b x y (Q p))) (hC : ∀ p, p < N → ν 107 (o + Q p) = zl (aM S (Q p)) ∧ ν 108 (o + Q p) = zl (bM S (Q p))) : ∃ ν', zF zT0 (d + 1) 214 [.ref 92] (zm len Y ν) = some (.null, zm len Y ν') ∧ (∀ p, p < N → ν' 107 (o + Q p) = zl (aM (stp ln m b x y S) (Q p)) ∧ ν' 108 (o + Q p) = zl (bM (stp ln m b x y S) (Q p))) ∧ frV o Q N ν ν' := by
  obtain ⟨ν1, A, A1, A2⟩ := nt_l (zF zT0 d) len ho hN hB.2.1 (Y := Y) (fun p => wV ln m b x y (Q p)) (fun p => aM S (Q p)) (fun p => bM S (Q p)) (fun p hp => by
    have := wV_b hV (b := b) hx hy f (hB.1 p hp).1
    omega) (fun p hp => (abM_b hP (hB.1 p hp).1 (hB.1 p hp).2).1) (fun p hp => (abM_b hP (hB.1 p hp).1 (hB.1 p hp).2).2) hW.1 (fun p hp => ⟨(hW.2 p hp).1, (hW.2 p hp).2.1⟩) N 0 (by omega) ν zU h16 (fun p hp => by omega) (fun p _ hp => hC p hp)
  refine ⟨ν1, ?_, fun p hp => ?_, A2⟩
  · rw [B_X12_notes]
    exact A
  · obtain ⟨s1, s2⟩ := (PI_s hV hc hx hy f hP).2 (Q p) (hB.1 p hp).1 (hB.1 p hp).2
    rw [s1, s2]
    exact A1 p hp
end F3
