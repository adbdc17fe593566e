/-! TABLET read: both sides at once, a COUNT and its SIGN -/
def Cfl (P : zMu → Prop) (f : Nat → zM → zR) (ft : Int) (p : Nat) : Prop := ∀ (d len : Nat) (M : zMu) (ν : zNu), P M → ∃ M', f d (zm len M ν) = some (.int (zi 0), zm len M' ν) ∧ M' 6 7 = zi ft ∧ M' 6 8 = zi (p : Int) ∧ frF M M'
def Cok (P : zMu → Prop) (f : Nat → zM → zR) (Q : zMu → Prop) : Prop := ∀ (d len : Nat) (M : zMu) (ν : zNu), P M → ∃ M', f d (zm len M ν) = some (.int (zi 1), zm len M' ν) ∧ Q M' ∧ frF M M'
def Nfl (P : zMu → zNu → (Nat → Int32) → Prop) (f : Nat → zM → zR) (ft : Int) (p : Nat) : Prop := ∀ (d len : Nat) (Y : zMu) (ν : zNu) (r : Nat → Int32), P Y ν r → ∃ r' Y' ν', f d (zm len (zrw Y 92 r) ν) = some (.int (zi (-1)), zm len (zrw Y' 92 r') ν') ∧ r' 12 = zi ft ∧ r' 13 = zi (p : Int) ∧ fr6 r r' ∧ frN Y Y' ν ν'
def Nok (P : zMu → zNu → (Nat → Int32) → Prop) (f : Nat → zM → zR) (x : Int) (Q : zMu → zNu → (Nat → Int32) → Prop) : Prop := ∀ (d len : Nat) (Y : zMu) (ν : zNu) (r : Nat → Int32), P Y ν r → ∃ r' Y' ν', f d (zm len (zrw Y 92 r) ν) = some (.int (zi x), zm len (zrw Y' 92 r') ν') ∧ Q Y' ν' r' ∧ fr4 r r' ∧ frN Y Y' ν ν'
theorem fr4_tr {r r' r'' : Nat → Int32} (h : fr4 r r') (h2 : fr4 r' r'') : fr4 r r'' := fun i a b c e => by rw [h2 i a b c e, h i a b c e]
theorem fr6_4 {r r' r'' : Nat → Int32} (h : fr4 r r') (h2 : fr6 r' r'') : fr6 r r'' := fun i a b c e x y => by rw [h2 i a b c e x y, h i a b c e]
theorem fr4_6 {r r' : Nat → Int32} (h : fr4 r r') : r' 6 = r 6 := h 6 (by decide) (by decide) (by decide) (by decide)
def CPd (K : Nat) (pl : Nat → Nat) (ty va : Nat → Int) (sy sn : Nat → Nat) (st : Nat → Nat → Int) (ln : Nat → Ln) (n k : Nat) (M : zMu) : Prop := TkX K pl ty va M k ∧ NX sy sn st M ∧ DMd M ln n
def NPd (g : Nat → Int) (L : Nat) (pl nn : Nat → Nat) (ty va : Nat → Int) (sy sn : Nat → Nat) (st : Nat → Nat → Int) (ln : Nat → Ln) (n k : Nat) (Y : zMu) (ν : zNu) (r : Nat → Int32) : Prop := CcY g Y ∧ NY sy sn st Y ∧ r 6 = zi (L : Int) ∧ MS pl nn ty va r k ∧ MMd Y ν ln n
def mkV (ms : List (Int × Int)) : Prop := ∀ p, p ∈ ms → (1 ≤ p.1 ∧ p.1 ≤ 99999) ∧ 1 ≤ p.2 ∧ p.2 ≤ 99
section CJ
variable {g : Nat → Int} {L K : Nat} {pl nn : Nat → Nat} {ty va : Nat → Int} {sy sn : Nat → Nat} {st : Nat → Nat → Int}
theorem sg_lt (S : Strm g L K pl nn ty va) {k : Nat} (hk : k < K) (h : sgB ty va k ≠ -1) : k + 1 < K ∧ kd ty va (k + 1) = 3 ∧ va (k + 1) = sgB ty va k := by
  have h3 := (sgB_r S hk).2.2.mp h
  have c := (kd_c S (show k + 1 ≤ K from hk)).2
  refine ⟨?_, h3, ?_⟩
  · rcases Nat.lt_or_ge (k + 1) K with z | z
    · exact z
    · have := c.mpr (by omega)
      omega
  · unfold sgB
    rw [if_pos h3]
theorem count_j (S : Strm g L K pl nn ty va) (hL : L ≤ 800) (hg : ∀ i, 0 ≤ g i ∧ g i ≤ 255) (hNP : NP sy sn st) {k : Nat} (hk : k < K) (hkd : kd ty va k = 2 ∨ kd ty va k = 63) {n gg sa : Nat} (hn : n < 24) (hgg : gg < 8) (hsa : sa ≤ 6) {ln : Nat → Ln} (eg : (ln n).2.1 = (gg : Int)) (hm3 : ∀ i, i < n → (ln i).2.2.2.2.length ≤ 3) (hm2 : (mkF ln (bkF ln n) (n + 1)).length ≤ 2) :
    (∃ ft kf, kf ≤ K ∧ (1 ≤ ft ∧ ft ≤ 3) ∧ Cfl (CPd K pl ty va sy sn st ln n k) (fun d => zF zT0 (d + 4) 19 [.ref 11, .int (zi (n : Int)), .int (zi (sy gg : Int)), .int (zi (sa : Int))]) ft (pl kf) ∧ Nfl (NPd g L pl nn ty va sy sn st ln n k) (fun d => zF zT0 (d + 4) 207 [.ref 92, .int (zi ((288 + n : Nat) : Int)), .int (zi (sa : Int))]) ft (pl kf)) ∨
    ∃ add ms j, (0 ≤ add ∧ add ≤ 9899901) ∧ mkV ms ∧ (mkF ln (bkF ln n) (n + 1)).length + ms.length ≤ 2 ∧ j < sa ∧ k + 1 < K ∧ kd ty va (k + 1) = 3 ∧ va (k + 1) = ((j : Nat) : Int) ∧ Cok (CPd K pl ty va sy sn st ln n k) (fun d => zF zT0 (d + 4) 19 [.ref 11, .int (zi (n : Int)), .int (zi (sy gg : Int)), .int (zi (sa : Int))]) (CPd K pl ty va sy sn st (setL ln n (addm (ln n) add ms)) n (k + 1)) ∧ Nok (NPd g L pl nn ty va sy sn st ln n k) (fun d => zF zT0 (d + 4) 207 [.ref 92, .int (zi ((288 + n : Nat) : Int)), .int (zi (sa : Int))]) (j : Int) (NPd g L pl nn ty va sy sn st (setL ln n (addm (ln n) add ms)) n (k + 2)) := by
  have hs := hNP.1 gg hgg
  have sr := sgB_r S hk
  have bn := hNP.2.1 (sy gg) hs
  have kc := (kd_c S (Nat.le_of_lt hk)).1
  have e101 : ∀ {Y : zMu} {ν : zNu}, MMd Y ν ln n → Y 101 (288 + n) = zi (gg : Int) := fun h => by
    have := (h.1 n (Nat.le_refl _)).2.1
    rw [eg] at this
    exact this
  have e110 : ∀ {Y : zMu} {ν : zNu}, MMd Y ν ln n → Y 110 gg = zi ((mkF ln (bkF ln n) (n + 1)).length : Int) := fun h => by
    have := (h.2 gg hgg).1
    rw [if_pos eg.symm] at this
    exact this
  by_cases bad : sgB ty va k = -1 ∨ (sn (sy gg) : Int) ≤ sgB ty va k ∨ (sa : Int) ≤ sgB ty va k
  · by_cases m2 : kd ty va k = 63 ∧ (mkF ln (bkF ln n) (n + 1)).length = 2
    · obtain ⟨h63, m2⟩ := m2
      refine Or.inl ⟨3, k, Nat.le_of_lt hk, by omega, fun d len M ν hP => ?_, fun d len Y ν r hP => ?_⟩
      · obtain ⟨hT, hX, hD⟩ := hP
        exact (cnt_b S hL hk h63 d len hT ν hn hD _ _).2 m2
      · obtain ⟨hY, hN, e6, hM, hD⟩ := hP
        obtain ⟨r', A⟩ := (cm_b S hL hg hk h63 d len ν hY hN e6 hM hn hgg (e101 hD) hm2 (e110 hD) sa).2 m2
        exact ⟨r', Y, ν, A.1, A.2.1, A.2.2.1, A.2.2.2, frN_rf _ _⟩
    · refine Or.inl ⟨if sgB ty va k = -1 then 1 else 2, k + 1, hk, by split <;> omega, fun d len M ν hP => ?_, fun d len Y ν r hP => ?_⟩
      · obtain ⟨hT, hX, hD⟩ := hP
        by_cases h2 : kd ty va k = 2
        · have A := cnt_a S hL hk h2 d len hT ν n (sy gg) sa
          have B := cnt_no S hL hNP hk d len hT hX ν n hs hsa (zi (va k)) 0 (by omega) bad
          show ∃ M', zF zT0 (d + 4) 19 _ _ = _ ∧ _
          rw [A]
          exact B
        · obtain ⟨x, A⟩ := (cnt_b S hL hk (by omega) d len hT ν hn hD (sy gg) sa).1 (by omega)
          have B := cnt_no S hL hNP hk d len hT hX ν n hs hsa x 1 (by omega) bad
          show ∃ M', zF zT0 (d + 4) 19 _ _ = _ ∧ _
          rw [A]
          exact B
      · obtain ⟨hY, hN, e6, hM, hD⟩ := hP
        by_cases h2 : kd ty va k = 2
        · obtain ⟨r1, A, R1, R2⟩ := cm_a S hL hg hk h2 d len ν hY hN e6 hM hn hgg (e101 hD) sa
          obtain ⟨r', B, b1, b2, b3⟩ := cm_no S hNP hk d len ν hN R1 (zi ((288 + n : Nat) : Int)) (zi (pl k : Int)) (zi (va k)) 0 hs hsa bad
          exact ⟨r', Y, ν, by rw [← B]; exact A, b1, b2, fr6_4 R2 b3, frN_rf _ _⟩
        · obtain ⟨r1, x, A, R1, R2⟩ := (cm_b S hL hg hk (by omega) d len ν hY hN e6 hM hn hgg (e101 hD) hm2 (e110 hD) sa).1 (by omega)
          obtain ⟨r', B, b1, b2, b3⟩ := cm_no S hNP hk d len ν hN R1 (zi ((288 + n : Nat) : Int)) (zi (pl k : Int)) x 1 hs hsa bad
          exact ⟨r', Y, ν, by rw [← B]; exact A, b1, b2, fr6_4 R2 b3, frN_rf _ _⟩
  · obtain ⟨b1, b2, b3⟩ : sgB ty va k ≠ -1 ∧ sgB ty va k < (sn (sy gg) : Int) ∧ sgB ty va k < (sa : Int) := ⟨fun q => bad (Or.inl q), Int.not_le.mp (fun q => bad (Or.inr (Or.inl q))), Int.not_le.mp (fun q => bad (Or.inr (Or.inr q)))⟩
    clear bad
    obtain ⟨j, hj⟩ : ∃ j : Nat, sgB ty va k = (j : Int) := ⟨(sgB ty va k).toNat, by omega⟩
    have h1 : j < sn (sy gg) := by omega
    have h2 : j < sa := by omega
    obtain ⟨lt, k3, vj⟩ := sg_lt S hk b1
    have vj : va (k + 1) = (j : Int) := by rw [vj, hj]
    have w := wo_r hNP hs h1
    have m := mo_r hNP hs h1
    by_cases k2 : kd ty va k = 2
    · have hv : 0 ≤ va k ∧ va k ≤ 9999 := by
        unfold Kc at kc
        omega
      by_cases big : moF sn st (sy gg) j < va k
      · refine Or.inl ⟨2, k, Nat.le_of_lt hk, by omega, fun d len M ν hP => ?_, fun d len Y ν r hP => ?_⟩
        · obtain ⟨hT, hX, hD⟩ := hP
          have A := cnt_a S hL hk k2 d len hT ν n (sy gg) sa
          show ∃ M', zF zT0 (d + 4) 19 _ _ = _ ∧ _
          rw [A]
          exact (cnt_num S hL hNP hk d len hT hX ν hn hD hs hsa hj h1 h2 hv).1 big
        · obtain ⟨hY, hN, e6, hM, hD⟩ := hP
          obtain ⟨r1, A, R1, R2⟩ := cm_a S hL hg hk k2 d len ν hY hN e6 hM hn hgg (e101 hD) sa
          have B := cm_y S hNP hk d len ν hN R1 (zi ((288 + n : Nat) : Int)) (zi (pl k : Int)) (zi (va k)) 0 hs hsa hj h1 h2
          obtain ⟨r', C, c1, c2, c3⟩ := (cm_num S hL hg hNP lt d len ν hY (by rw [fr4_6 R2]; exact e6) R1 hn hD hm3 (zi (sa : Int)) hs h1 hv).1 big
          exact ⟨r', Y, ν, by rw [← C, ← B]; exact A, c1, c2, fr6_4 R2 c3, frN_rf _ _⟩
      · have big : va k ≤ moF sn st (sy gg) j := Int.not_lt.mp big
        have ad : 0 ≤ va k * zP (st (sy gg)) j ∧ va k * zP (st (sy gg)) j ≤ 9899901 := by
          refine ⟨Int.mul_nonneg hv.1 (by omega), ?_⟩
          have := Int.mul_le_mul (show va k ≤ 99 by omega) w.2 (by omega) (show (0 : Int) ≤ 99 by omega)
          omega
        refine Or.inr ⟨va k * zP (st (sy gg)) j, [], j, ad, (fun p hp => by cases hp), hm2, h2, lt, k3, vj, fun d len M ν hP => ?_, fun d len Y ν r hP => ?_⟩
        · obtain ⟨hT, hX, hD⟩ := hP
          have A := cnt_a S hL hk k2 d len hT ν n (sy gg) sa
          obtain ⟨M', B, B1, B2, B3⟩ := (cnt_num S hL hNP hk d len hT hX ν hn hD hs hsa hj h1 h2 hv).2 big
          exact ⟨M', by rw [← B]; exact A, ⟨B1, NX_d hX B3, by rw [addm_0]; exact B2⟩, B3⟩
        · obtain ⟨hY, hN, e6, hM, hD⟩ := hP
          obtain ⟨r1, A, R1, R2⟩ := cm_a S hL hg hk k2 d len ν hY hN e6 hM hn hgg (e101 hD) sa
          have B := cm_y S hNP hk d len ν hN R1 (zi ((288 + n : Nat) : Int)) (zi (pl k : Int)) (zi (va k)) 0 hs hsa hj h1 h2
          have e6' : r1 6 = zi (L : Int) := by rw [fr4_6 R2]; exact e6
          obtain ⟨r', ν', C, c1, c2, c3, c4⟩ := (cm_num S hL hg hNP lt d len ν hY e6' R1 hn hD hm3 (zi (sa : Int)) hs h1 hv).2 big
          exact ⟨r', Y, ν', by rw [← C, ← B]; exact A, ⟨CcY_n hY c3, NY_n hN c3, by rw [fr4_6 c2]; exact e6', c1, c4⟩, fr4_tr R2 c2, c3⟩
    · have h63 : kd ty va k = 63 := by omega
      by_cases m2 : (mkF ln (bkF ln n) (n + 1)).length = 2
      · refine Or.inl ⟨3, k, Nat.le_of_lt hk, by omega, fun d len M ν hP => ?_, fun d len Y ν r hP => ?_⟩
        · obtain ⟨hT, hX, hD⟩ := hP
          exact (cnt_b S hL hk h63 d len hT ν hn hD _ _).2 m2
        · obtain ⟨hY, hN, e6, hM, hD⟩ := hP
          obtain ⟨r', A⟩ := (cm_b S hL hg hk h63 d len ν hY hN e6 hM hn hgg (e101 hD) hm2 (e110 hD) sa).2 m2
          exact ⟨r', Y, ν, A.1, A.2.1, A.2.2.1, A.2.2.2, frN_rf _ _⟩
      · have m1 : (mkF ln (bkF ln n) (n + 1)).length < 2 := by omega
        refine Or.inr ⟨0, [(zP (st (sy gg)) j, moF sn st (sy gg) j)], j, by omega, fun p hp => ?_, by show _ + 1 ≤ 2; omega, h2, lt, k3, vj, fun d len M ν hP => ?_, fun d len Y ν r hP => ?_⟩
        · rw [List.mem_singleton.mp hp]
          exact ⟨w, m⟩
        · obtain ⟨hT, hX, hD⟩ := hP
          obtain ⟨x, A⟩ := (cnt_b S hL hk h63 d len hT ν hn hD (sy gg) sa).1 m1
          obtain ⟨M', B, B1, B2, B3⟩ := cnt_mrk S hL hNP hk d len hT hX ν hn hD hs hsa hj h1 h2 m1 x
          exact ⟨M', by rw [← B]; exact A, ⟨B1, NX_d hX B3, by rw [addm_m]; exact B2⟩, B3⟩
        · obtain ⟨hY, hN, e6, hM, hD⟩ := hP
          obtain ⟨r1, x, A, R1, R2⟩ := (cm_b S hL hg hk h63 d len ν hY hN e6 hM hn hgg (e101 hD) hm2 (e110 hD) sa).1 m1
          have B := cm_y S hNP hk d len ν hN R1 (zi ((288 + n : Nat) : Int)) (zi (pl k : Int)) x 1 hs hsa hj h1 h2
          have e6' : r1 6 = zi (L : Int) := by rw [fr4_6 R2]; exact e6
          obtain ⟨r', Y', ν', C, c1, c2, c3, c4⟩ := cm_mrk S hL hg hNP lt d len ν hY e6' R1 hn hgg eg hD hm3 m1 (zi (sa : Int)) (zi (pl k : Int)) x hs h1
          exact ⟨r', Y', ν', by rw [← C, ← B]; exact A, ⟨CcY_n hY c3, NY_n hN c3, by rw [fr4_6 c2]; exact e6', c1, c4⟩, fr4_tr R2 c2, c3⟩
end CJ
