/-! SEALS: seal, over -/
def zfr (C D : List Nat) (μ μ' : zMu) : Prop := (∀ a, a ∉ C → a ≠ 92 → μ' a = μ a) ∧ ∀ j, j ∉ D → μ' 92 j = μ 92 j
theorem zfr_rf (C D : List Nat) (μ : zMu) : zfr C D μ μ := ⟨fun _ _ _ => rfl, fun _ _ => rfl⟩
theorem zfr_up {C D : List Nat} {μ μ' : zMu} {r i : Nat} {v : Int32} (h : zfr C D μ μ') (hr : r ∈ C) (h92 : r ≠ 92) : zfr C D μ (zup μ' r i v) := by
  refine ⟨fun a ha hn => ?_, fun j hj => ?_⟩
  · rw [zup_ne _ _ _ (show a ≠ r from fun q => ha (by rw [q]; exact hr))]
    exact h.1 a ha hn
  · rw [zup_ne _ _ _ (Ne.symm h92)]
    exact h.2 j hj
theorem zfr_92 {C D : List Nat} {μ μ' : zMu} {i : Nat} {v : Int32} (h : zfr C D μ μ') (hi : i ∈ D) : zfr C D μ (zup μ' 92 i v) := by
  refine ⟨fun a ha hn => ?_, fun j hj => ?_⟩
  · rw [zup_ne _ _ _ hn]
    exact h.1 a ha hn
  · rw [zup_self, upd_ne _ _ (show j ≠ i from fun q => hj (by rw [q]; exact hi))]
    exact h.2 j hj
theorem zup_92 {μ : zMu} {i j : Nat} {v : Int32} : zup μ 92 i v 92 j = if j = i then v else μ 92 j := by rw [zup_self]; rfl
/-- the seals of class (rows 45, 46) and model (92: 52; 126): as many, and the same over the same -/
def Rseal (cx cm : Int32) (rx rm : Nat → Int32) : Prop := cx = cm ∧ 0 ≤ cx.toInt ∧ cx.toInt ≤ 10 ∧ rx = rm ∧ ∀ i : Nat, ∃ n : Nat, n < 1024 ∧ rx i = Int32.ofNat n ∧ (∀ j, n.testBit j = true → (j : Int) < cx.toInt ∧ j ≠ i) ∧ (n ≠ 0 → (i : Int) < cx.toInt)
abbrev RsealM (μ : zMu) : Prop := Rseal (μ 45 0) (μ 92 52) (μ 46) (μ 126)
theorem x_seal (d len : Nat) (μ : zMu) (ν : zNu) : zF zT0 (d + 2) 152 [.ref 1] (zm len μ ν) = if μ 45 0 < 10 then some (.int (μ 45 0 + 1 - 1), zm len (zup μ 45 0 (μ 45 0 + 1)) ν) else some (.int (-1), zm len μ ν) := by
  rw [B_X11_seal]
  simp only [B_X8_add, zbi_ite, zbi_some, B_X11_seal_7]
theorem m_seal (d len : Nat) (μ : zMu) (ν : zNu) : zF zT0 (d + 1) 233 [.ref 92] (zm len μ ν) = if μ 92 52 = 10 then some (.int (-1), zm len (zup μ 92 0 0) ν) else some (.int (μ 92 52 + 1 - 1), zm len (zup (zup μ 92 0 0) 92 52 (μ 92 52 + 1)) ν) := by
  rw [B_X12_seal]
theorem ag_seal (d len : Nat) (μ : zMu) (ν : zNu) (h : RsealM μ) : ∃ (v : Int32) (μ1 μ2 : zMu), zF zT0 (d + 2) 152 [.ref 1] (zm len μ ν) = some (.int v, zm len μ1 ν) ∧ zF zT0 (d + 1) 233 [.ref 92] (zm len μ1 ν) = some (.int v, zm len μ2 ν) ∧ RsealM μ2 ∧ zfr [45] [0, 52] μ μ2 := by
  obtain ⟨h1, h2, h3, h4, h5⟩ := h
  have t10 : (10 : Int32).toInt = 10 := rfl
  have t1 : (1 : Int32).toInt = 1 := rfl
  rw [x_seal]
  by_cases hc : μ 45 0 < 10
  · rw [if_pos hc]
    refine ⟨_, _, zup (zup (zup μ 45 0 (μ 45 0 + 1)) 92 0 0) 92 52 (μ 45 0 + 1), rfl, ?_, ?_, ?_⟩
    · rw [m_seal, if_neg]
      · show some (Value.int (μ 92 52 + 1 - 1), zm len (zup (zup (zup μ 45 0 (μ 45 0 + 1)) 92 0 0) 92 52 (μ 92 52 + 1)) ν) = _
        rw [← h1]
      · show ¬ μ 92 52 = 10
        rw [← h1]
        intro q
        rw [q] at hc
        exact absurd hc (by decide)
    · show Rseal (μ 45 0 + 1) (μ 45 0 + 1) (μ 46) (μ 126)
      rw [i32_lt] at hc
      have e : (μ 45 0 + 1).toInt = (μ 45 0).toInt + 1 := by rw [i32_add] <;> omega
      refine ⟨rfl, by omega, by omega, h4, fun i => ?_⟩
      obtain ⟨n, g1, g2, g3, g4⟩ := h5 i
      exact ⟨n, g1, g2, fun j hj => ⟨by have := (g3 j hj).1; omega, (g3 j hj).2⟩, fun q => by have := g4 q; omega⟩
    · exact zfr_92 (zfr_92 (zfr_up (zfr_rf _ _ _) (by decide) (by decide)) (by decide)) (by decide)
  · rw [if_neg hc]
    refine ⟨_, _, zup μ 92 0 0, rfl, ?_, ?_, ?_⟩
    · rw [m_seal, if_pos]
      rw [← h1]
      rw [i32_lt] at hc
      rw [i32_eq]
      omega
    · exact ⟨h1, h2, h3, h4, h5⟩
    · exact zfr_92 (zfr_rf _ _ _) (by decide)
theorem zbi_none (f : Int32 → zM → zR) : zbi none f = none := rfl
theorem zbl_none (f : Int64 → zM → zR) : zbl none f = none := rfl
theorem zbv_none (f : zM → zR) : zbv none f = none := rfl
theorem b01_0 : ((0 : Int32) = 0 ∨ (0 : Int32) = 1) = True := by simp
theorem b01_1 : ((1 : Int32) = 0 ∨ (1 : Int32) = 1) = True := by simp
theorem i32_and1 (z : Int32) : z &&& 1 = 0 ∨ z &&& 1 = 1 := by
  have h := BitVec.and_one_eq_setWidth_ofBool_getLsbD (x := z.toBitVec)
  have e : (z &&& 1).toBitVec = z.toBitVec &&& 1#32 := rfl
  rw [h] at e
  cases hb : z.toBitVec.getLsbD 0 with
  | false => left; rw [hb] at e; exact Int32.toBitVec_inj.mp e
  | true => right; rw [hb] at e; exact Int32.toBitVec_inj.mp e
theorem i32_nat_of {a : Int32} (h : 0 ≤ a.toInt) : a = Int32.ofNat a.toInt.toNat := by
  rw [i32_eq]
  have h2 := i32_hi a
  rw [Int32.toInt_ofNat_of_lt (by omega)]
  omega
theorem i32_ofNat_or (a b : Nat) : Int32.ofNat a ||| Int32.ofNat b = Int32.ofNat (a ||| b) := by
  apply Int32.toBitVec_inj.mp
  show BitVec.ofNat 32 a ||| BitVec.ofNat 32 b = BitVec.ofNat 32 (a ||| b)
  exact BitVec.ofNat_or.symm
theorem i32_shl_small : ∀ k : Nat, k < 31 → (1 : Int32) <<< (Int32.ofNat k &&& 31) = Int32.ofNat (2 ^ k) := by decide +kernel
theorem x_over (d len : Nat) (μ : zMu) (ν : zNu) (a b : Int32) : zF zT0 (d + 4) 153 [.ref 1, .int a, .int b] (zm len μ ν) = if 0 ≤ a ∧ a ≤ μ 45 0 - 1 then (if 0 ≤ b ∧ b ≤ μ 45 0 - 1 then (if a = b then some (.int 0, zm len μ ν) else if 0 ≤ a.toInt ∧ a.toInt < ((10 : Nat) : Int) then (if ((μ 46 a.toNatClampNeg >>> (b &&& 31)) &&& 1) = 0 then some (.int 1, zm len (zup μ 46 a.toNatClampNeg (μ 46 a.toNatClampNeg ||| (1 <<< (b &&& 31)))) ν) else some (.int 0, zm len μ ν)) else none) else some (.int 0, zm len μ ν)) else some (.int 0, zm len μ ν) := by
  rw [B_X11_over]
  simp only [B_X8_lay, F_X8_isSealing, zbi_some, zbi_none, B_X8_lay_5, zb_ite0, zbi_ite, B_X8_lay_13, B_X11_over_9, b01_0, b01_1, if_true]
  split
  · split
    · split
      · rfl
      · split
        · split <;> rfl
        · rfl
    · rfl
  · rfl
theorem m_over (d len : Nat) (μ : zMu) (ν : zNu) (a b : Int32) : zF zT0 (d + 2) 234 [.ref 92, .int a, .int b] (zm len μ ν) = if 0 ≤ a ∧ a < μ 92 52 then (if 0 ≤ b ∧ b < μ 92 52 then (if a = b then some (.int 0, zm len (zup μ 92 0 0) ν) else if 0 ≤ a.toInt ∧ a.toInt < ((10 : Nat) : Int) then (if ((μ 126 a.toNatClampNeg >>> (b &&& 31)) &&& 1) = 1 then some (.int 0, zm len (zup μ 92 0 0) ν) else some (.int 1, zm len (zup (zup μ 92 0 0) 126 a.toNatClampNeg (μ 126 a.toNatClampNeg ||| (1 <<< (b &&& 31)))) ν)) else none) else some (.int 0, zm len (zup μ 92 0 0) ν)) else some (.int 0, zm len (zup μ 92 0 0) ν) := by
  rw [B_X12_over]
  simp only [F_X12_isSeal, zbi_some, zb_ite0, zbi_ite, B_X12_over_10, B_X12_over_18]
  have e : (zup μ 92 0 0) 92 52 = μ 92 52 := rfl
  have e2 : (zup μ 92 0 0) 126 = μ 126 := rfl
  rw [e, e2]
  split
  · split
    · split
      · rfl
      · split
        · split <;> rfl
        · rfl
    · rfl
  · rfl
theorem ag_over (d len : Nat) (μ : zMu) (ν : zNu) (a b : Int32) (h : RsealM μ) : ∃ (v : Int32) (μ1 μ2 : zMu), zF zT0 (d + 4) 153 [.ref 1, .int a, .int b] (zm len μ ν) = some (.int v, zm len μ1 ν) ∧ zF zT0 (d + 2) 234 [.ref 92, .int a, .int b] (zm len μ1 ν) = some (.int v, zm len μ2 ν) ∧ RsealM μ2 ∧ zfr [46, 126] [0] μ μ2 := by
  obtain ⟨h1, h2, h3, h4, h5⟩ := h
  have t0 : (0 : Int32).toInt = 0 := rfl
  have no : ∃ (μ1 μ2 : zMu), some (Value.int 0, zm len μ ν) = some (Value.int 0, zm len μ1 ν) ∧ μ1 = μ ∧ μ2 = zup μ 92 0 0 ∧ RsealM μ2 ∧ zfr [46, 126] [0] μ μ2 := ⟨μ, zup μ 92 0 0, rfl, rfl, rfl, ⟨h1, h2, h3, h4, h5⟩, zfr_92 (zfr_rf _ _ _) (by decide)⟩
  simp only [x_over, i32_pred h2]
  by_cases ha : 0 ≤ a ∧ a < μ 45 0
  · rw [if_pos ha]
    by_cases hb : 0 ≤ b ∧ b < μ 45 0
    · rw [if_pos hb]
      by_cases hab : a = b
      · rw [if_pos hab]
        refine ⟨0, μ, zup μ 92 0 0, rfl, ?_, ⟨h1, h2, h3, h4, h5⟩, zfr_92 (zfr_rf _ _ _) (by decide)⟩
        rw [m_over, ← h1, if_pos ha, if_pos hb, if_pos hab]
      · rw [if_neg hab]
        have ha1 := ha.1
        have ha2 := ha.2
        have hb1 := hb.1
        have hb2 := hb.2
        rw [i32_le] at ha1 hb1
        rw [i32_lt] at ha2 hb2
        have hbd : 0 ≤ a.toInt ∧ a.toInt < ((10 : Nat) : Int) := by omega
        rw [if_pos hbd]
        rcases i32_and1 (μ 46 a.toNatClampNeg >>> (b &&& 31)) with hz | hz
        · rw [if_pos hz]
          refine ⟨1, _, zup (zup (zup μ 46 a.toNatClampNeg (μ 46 a.toNatClampNeg ||| (1 <<< (b &&& 31)))) 92 0 0) 126 a.toNatClampNeg (μ 46 a.toNatClampNeg ||| (1 <<< (b &&& 31))), rfl, ?_, ?_, ?_⟩
          · rw [m_over]
            have e1 : (zup μ 46 a.toNatClampNeg (μ 46 a.toNatClampNeg ||| (1 <<< (b &&& 31)))) 92 52 = μ 92 52 := rfl
            have e2 : (zup μ 46 a.toNatClampNeg (μ 46 a.toNatClampNeg ||| (1 <<< (b &&& 31)))) 126 = μ 126 := rfl
            rw [e1, e2, ← h1, ← h4, if_pos ha, if_pos hb, if_neg hab, if_pos hbd, hz, if_neg (by decide)]
          · show Rseal (μ 45 0) (μ 92 52) (upd (μ 46) a.toNatClampNeg (μ 46 a.toNatClampNeg ||| (1 <<< (b &&& 31)))) (upd (μ 126) a.toNatClampNeg (μ 46 a.toNatClampNeg ||| (1 <<< (b &&& 31))))
            refine ⟨h1, h2, h3, by rw [h4], fun i => ?_⟩
            by_cases hi : i = a.toNatClampNeg
            · subst hi
              obtain ⟨n, g1, g2, g3, g4⟩ := h5 a.toNatClampNeg
              rw [upd_eq, g2, i32_nat_of hb1, i32_shl_small _ (by omega), i32_ofNat_or]
              refine ⟨n ||| 2 ^ b.toInt.toNat, ?_, rfl, fun j hj => ?_, fun _ => by rw [i32_nat]; omega⟩
              · exact Nat.or_lt_two_pow (n := 10) g1 (Nat.pow_lt_pow_right (by decide) (by omega))
              · rw [Nat.testBit_or, Bool.or_eq_true] at hj
                rcases hj with hj | hj
                · exact g3 j hj
                · rw [Nat.testBit_two_pow] at hj
                  have hjb : b.toInt.toNat = j := by simpa using hj
                  refine ⟨by omega, fun q => hab ?_⟩
                  rw [i32_eq, i32_nat] at *
                  omega
            · rw [upd_ne _ _ hi]
              exact h5 i
          · exact zfr_up (zfr_92 (zfr_up (zfr_rf _ _ _) (by decide) (by decide)) (by decide)) (by decide) (by decide)
        · rw [hz, if_neg (by decide)]
          refine ⟨0, μ, zup μ 92 0 0, rfl, ?_, ⟨h1, h2, h3, h4, h5⟩, zfr_92 (zfr_rf _ _ _) (by decide)⟩
          rw [m_over, ← h1, ← h4, if_pos ha, if_pos hb, if_neg hab, if_pos hbd, hz, if_pos rfl]
    · rw [if_neg hb]
      refine ⟨0, μ, zup μ 92 0 0, rfl, ?_, ⟨h1, h2, h3, h4, h5⟩, zfr_92 (zfr_rf _ _ _) (by decide)⟩
      rw [m_over, ← h1, if_pos ha, if_neg hb]
  · rw [if_neg ha]
    refine ⟨0, μ, zup μ 92 0 0, rfl, ?_, ⟨h1, h2, h3, h4, h5⟩, zfr_92 (zfr_rf _ _ _) (by decide)⟩
    rw [m_over, ← h1, if_neg ha]
