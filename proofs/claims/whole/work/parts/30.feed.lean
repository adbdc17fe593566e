/-! FEED -/
theorem ch_byte (w : BitVec 32) : (((w &&& 255#32) % 65536#32).setWidth 16).setWidth 32 = w &&& 255#32 := by
  apply BitVec.eq_of_toNat_eq
  have h : (w &&& 255#32).toNat ≤ 255 := by rw [BitVec.toNat_and]; exact Nat.and_le_right
  rw [BitVec.toNat_setWidth, BitVec.toNat_setWidth, BitVec.toNat_umod]
  have e : (65536#32).toNat = 65536 := rfl
  rw [e]
  omega
theorem bv_byte (y : BitVec 32) (s : Nat) (hs : s ≤ 24) : y.sshiftRight s &&& 255#32 = y >>> s &&& 255#32 := by
  apply BitVec.eq_of_getLsbD_eq
  intro i hi
  rw [BitVec.getLsbD_and, BitVec.getLsbD_and, BitVec.getLsbD_sshiftRight, BitVec.getLsbD_ushiftRight]
  by_cases h8 : i < 8
  · have h1 : s + i < 32 := by omega
    have h2 : ¬ 32 ≤ i := by omega
    rw [if_pos h1]
    simp [hi, h2]
  · have : (255#32).getLsbD i = false := by
      rw [BitVec.getLsbD_ofNat, Nat.testBit_lt_two_pow (Nat.lt_of_lt_of_le (show 255 < 2 ^ 8 by decide) (Nat.pow_le_pow_right (by decide) (by omega)))]
      simp
    rw [this, Bool.and_false, Bool.and_false]
def zbyte (x s : Int32) : Int32 := (x >>> (s &&& 31)) &&& 255
theorem i32_ch (v : Int32) : znar 4 (((v &&& 255).toUInt32 % 65536).toInt32) = v &&& 255 := by
  rw [show znar 4 (((v &&& 255).toUInt32 % 65536).toInt32) = vp_nar .char (((v &&& 255).toUInt32 % 65536).toInt32) from rfl, vp_nar_char]
  apply Int32.toBitVec_inj.mp
  exact ch_byte v.toBitVec
theorem zbyte_x24 (x : Int32) : znar 4 (((((x).toUInt32 >>> ((24 : Int32).toUInt32 &&& Int32.toUInt32 31)).toInt32 &&& (255 : Int32))).toUInt32 % 65536).toInt32 = zbyte x 24 := by
  rw [i32_ch]
  apply Int32.toBitVec_inj.mp
  exact (bv_byte x.toBitVec 24 (by decide)).symm
theorem zbyte_x16 (x : Int32) : znar 4 (((((x).toUInt32 >>> ((16 : Int32).toUInt32 &&& Int32.toUInt32 31)).toInt32 &&& (255 : Int32))).toUInt32 % 65536).toInt32 = zbyte x 16 := by
  rw [i32_ch]
  apply Int32.toBitVec_inj.mp
  exact (bv_byte x.toBitVec 16 (by decide)).symm
theorem zbyte_x8 (x : Int32) : znar 4 (((((x).toUInt32 >>> ((8 : Int32).toUInt32 &&& Int32.toUInt32 31)).toInt32 &&& (255 : Int32))).toUInt32 % 65536).toInt32 = zbyte x 8 := by
  rw [i32_ch]
  apply Int32.toBitVec_inj.mp
  exact (bv_byte x.toBitVec 8 (by decide)).symm
theorem zbyte_x0 (x : Int32) : znar 4 (((((x).toUInt32 >>> ((0 : Int32).toUInt32 &&& Int32.toUInt32 31)).toInt32 &&& (255 : Int32))).toUInt32 % 65536).toInt32 = zbyte x 0 := by
  rw [i32_ch]
  apply Int32.toBitVec_inj.mp
  exact (bv_byte x.toBitVec 0 (by decide)).symm
theorem zbyte_in (x s : Int32) : 0 ≤ (zbyte x s).toInt ∧ (zbyte x s).toInt ≤ 255 := by
  have h : (zbyte x s).toBitVec.toNat ≤ 255 := by
    show ((x >>> (s &&& 31)).toBitVec &&& 255#32).toNat ≤ 255
    rw [BitVec.toNat_and]
    exact Nat.and_le_right
  have e : (zbyte x s).toInt = (zbyte x s).toBitVec.toInt := rfl
  rw [e, BitVec.toInt_eq_toNat_of_lt (by omega)]
  omega
/-- four bytes of x, laid at n -/
def zb4 (f : Nat → Int32) (n x : Int32) : Nat → Int32 := upd (upd (upd (upd f n.toNatClampNeg (zbyte x 24)) (n + 1).toNatClampNeg (zbyte x 16)) (n + 1 + 1).toNatClampNeg (zbyte x 8)) (n + 1 + 1 + 1).toNatClampNeg (zbyte x 0)
theorem zb4_in {f : Nat → Int32} (h : zin2 f 0 255) (n x : Int32) : zin2 (zb4 f n x) 0 255 := zin2_upd (zin2_upd (zin2_upd (zin2_upd h (zbyte_in _ _).1 (zbyte_in _ _).2) (zbyte_in _ _).1 (zbyte_in _ _).2) (zbyte_in _ _).1 (zbyte_in _ _).2) (zbyte_in _ _).1 (zbyte_in _ _).2
theorem i32_add1 {a : Int32} (h : a.toInt < 2147483647) : (a + 1).toInt = a.toInt + 1 := by
  have t1 : (1 : Int32).toInt = 1 := rfl
  have := i32_lo a
  rw [i32_add] <;> omega
theorem an_step (call : zC) (len : Nat) (μ : zMu) (ν : zNu) (x s s' b : Int32) (hs : ¬ s < 0) (hb : znar 4 (((((x).toUInt32 >>> ((s).toUInt32 &&& Int32.toUInt32 31)).toInt32 &&& (255 : Int32))).toUInt32 % 65536).toInt32 = b) (hs' : s + (-8 : Int32) = s') (h0 : 0 ≤ (μ 6 1).toInt) (h1 : (μ 6 1).toInt < 800) : zE zc_X10_appendNumber call 3 [.ref 6, .int x, .int s] [] (zm len μ ν) = zE zc_X10_appendNumber call 3 [.ref 6, .int x, .int s'] [] (zm len (zup (zup μ 7 (μ 6 1).toNatClampNeg b) 6 1 (μ 6 1 + 1)) ν) := by
  have t8 : (800 : Int32).toInt = 800 := rfl
  rw [B_X10_appendNumber_3, if_neg hs, if_neg (by rw [i32_le]; omega), if_pos (by omega), hb, hs']
theorem F_an (d len : Nat) (μ : zMu) (ν : zNu) (x : Int32) (h0 : 0 ≤ (μ 6 1).toInt) (h1 : (μ 6 1).toInt ≤ 796) : ∃ μ' : zMu, zF zT0 (d + 1) 118 [.ref 6, .int x] (zm len μ ν) = some (.null, zm len μ' ν) ∧ μ' 7 = zb4 (μ 7) (μ 6 1) x ∧ μ' 6 1 = μ 6 1 + 1 + 1 + 1 + 1 ∧ (∀ j, j ≠ 1 → μ' 6 j = μ 6 j) ∧ ∀ a, a ≠ 6 → a ≠ 7 → μ' a = μ a := by
  have e1 := i32_add1 (a := μ 6 1) (by omega)
  have e2 := i32_add1 (a := μ 6 1 + 1) (by omega)
  have e3 := i32_add1 (a := μ 6 1 + 1 + 1) (by omega)
  let m1 : zMu := zup (zup μ 7 (μ 6 1).toNatClampNeg (zbyte x 24)) 6 1 (μ 6 1 + 1)
  let m2 : zMu := zup (zup m1 7 (μ 6 1 + 1).toNatClampNeg (zbyte x 16)) 6 1 (μ 6 1 + 1 + 1)
  let m3 : zMu := zup (zup m2 7 (μ 6 1 + 1 + 1).toNatClampNeg (zbyte x 8)) 6 1 (μ 6 1 + 1 + 1 + 1)
  let m4 : zMu := zup (zup m3 7 (μ 6 1 + 1 + 1 + 1).toNatClampNeg (zbyte x 0)) 6 1 (μ 6 1 + 1 + 1 + 1 + 1)
  have q1 : m1 6 1 = μ 6 1 + 1 := rfl
  have q2 : m2 6 1 = μ 6 1 + 1 + 1 := rfl
  have q3 : m3 6 1 = μ 6 1 + 1 + 1 + 1 := rfl
  have s1 := an_step (zF zT0 d) len μ ν x 24 16 _ (by decide) (zbyte_x24 x) (by decide) h0 (by omega)
  have s2 := an_step (zF zT0 d) len m1 ν x 16 8 _ (by decide) (zbyte_x16 x) (by decide) (by rw [q1]; omega) (by rw [q1]; omega)
  have s3 := an_step (zF zT0 d) len m2 ν x 8 0 _ (by decide) (zbyte_x8 x) (by decide) (by rw [q2]; omega) (by rw [q2]; omega)
  have s4 := an_step (zF zT0 d) len m3 ν x 0 (-8) _ (by decide) (zbyte_x0 x) (by decide) (by rw [q3]; omega) (by rw [q3]; omega)
  refine ⟨m4, ?_, rfl, rfl, ?_, ?_⟩
  · rw [B_X10_appendNumber]
    show zE zc_X10_appendNumber (zF zT0 d) 3 [.ref 6, .int x, .int 24] [] (zm len μ ν) = _
    refine s1.trans (s2.trans (s3.trans (s4.trans ?_)))
    rw [B_X10_appendNumber_3, if_pos (by decide)]
    rfl
  · intro j hj
    show upd (upd (upd (upd (μ 6) 1 _) 1 _) 1 _) 1 _ j = _
    rw [upd_ne _ _ hj, upd_ne _ _ hj, upd_ne _ _ hj, upd_ne _ _ hj]
  · intro a h6 h7
    show zup (zup m3 7 _ _) 6 1 _ a = _
    rw [zup_ne _ _ _ h6, zup_ne _ _ _ h7]
    show zup (zup m2 7 _ _) 6 1 _ a = _
    rw [zup_ne _ _ _ h6, zup_ne _ _ _ h7]
    show zup (zup m1 7 _ _) 6 1 _ a = _
    rw [zup_ne _ _ _ h6, zup_ne _ _ _ h7]
    show zup (zup μ 7 _ _) 6 1 _ a = _
    rw [zup_ne _ _ _ h6, zup_ne _ _ _ h7]
theorem pu_step (call : zC) (len : Nat) (μ : zMu) (ν : zNu) (x s s' : Int32) (hs : ¬ s < 0) (hs' : s + (-8 : Int32) = s') (h0 : 0 ≤ (μ 92 6).toInt) (h1 : (μ 92 6).toInt < 800) : zE zc_X12_puts call 3 [.ref 92, .int x, .int s] [] (zm len μ ν) = zE zc_X12_puts call 3 [.ref 92, .int x, .int s'] [] (zm len (zup (zup μ 96 (μ 92 6).toNatClampNeg (zbyte x s)) 92 6 (μ 92 6 + 1)) ν) := by
  rw [B_X12_puts_3, if_neg hs, if_pos (by omega), hs']
  rfl
theorem F_pu (d len : Nat) (μ : zMu) (ν : zNu) (x : Int32) (h0 : 0 ≤ (μ 92 6).toInt) (h1 : (μ 92 6).toInt ≤ 796) : ∃ μ' : zMu, zF zT0 (d + 1) 193 [.ref 92, .int x] (zm len μ ν) = some (.null, zm len μ' ν) ∧ μ' 96 = zb4 (μ 96) (μ 92 6) x ∧ μ' 92 6 = μ 92 6 + 1 + 1 + 1 + 1 ∧ (∀ j, j ≠ 6 → μ' 92 j = μ 92 j) ∧ ∀ a, a ≠ 92 → a ≠ 96 → μ' a = μ a := by
  have e1 := i32_add1 (a := μ 92 6) (by omega)
  have e2 := i32_add1 (a := μ 92 6 + 1) (by omega)
  have e3 := i32_add1 (a := μ 92 6 + 1 + 1) (by omega)
  let m1 : zMu := zup (zup μ 96 (μ 92 6).toNatClampNeg (zbyte x 24)) 92 6 (μ 92 6 + 1)
  let m2 : zMu := zup (zup m1 96 (μ 92 6 + 1).toNatClampNeg (zbyte x 16)) 92 6 (μ 92 6 + 1 + 1)
  let m3 : zMu := zup (zup m2 96 (μ 92 6 + 1 + 1).toNatClampNeg (zbyte x 8)) 92 6 (μ 92 6 + 1 + 1 + 1)
  let m4 : zMu := zup (zup m3 96 (μ 92 6 + 1 + 1 + 1).toNatClampNeg (zbyte x 0)) 92 6 (μ 92 6 + 1 + 1 + 1 + 1)
  have q1 : m1 92 6 = μ 92 6 + 1 := rfl
  have q2 : m2 92 6 = μ 92 6 + 1 + 1 := rfl
  have q3 : m3 92 6 = μ 92 6 + 1 + 1 + 1 := rfl
  have s1 := pu_step (zF zT0 d) len μ ν x 24 16 (by decide) (by decide) h0 (by omega)
  have s2 := pu_step (zF zT0 d) len m1 ν x 16 8 (by decide) (by decide) (by rw [q1]; omega) (by rw [q1]; omega)
  have s3 := pu_step (zF zT0 d) len m2 ν x 8 0 (by decide) (by decide) (by rw [q2]; omega) (by rw [q2]; omega)
  have s4 := pu_step (zF zT0 d) len m3 ν x 0 (-8) (by decide) (by decide) (by rw [q3]; omega) (by rw [q3]; omega)
  refine ⟨m4, ?_, rfl, rfl, ?_, ?_⟩
  · rw [B_X12_puts]
    show zE zc_X12_puts (zF zT0 d) 3 [.ref 92, .int x, .int 24] [] (zm len μ ν) = _
    refine s1.trans (s2.trans (s3.trans (s4.trans ?_)))
    rw [B_X12_puts_3, if_pos (by decide)]
    rfl
  · intro j hj
    show upd (upd (upd (upd (μ 92) 6 _) 6 _) 6 _) 6 _ j = _
    rw [upd_ne _ _ hj, upd_ne _ _ hj, upd_ne _ _ hj, upd_ne _ _ hj]
  · intro a h6 h7
    show zup (zup m3 96 _ _) 92 6 _ a = _
    rw [zup_ne _ _ _ h6, zup_ne _ _ _ h7]
    show zup (zup m2 96 _ _) 92 6 _ a = _
    rw [zup_ne _ _ _ h6, zup_ne _ _ _ h7]
    show zup (zup m1 96 _ _) 92 6 _ a = _
    rw [zup_ne _ _ _ h6, zup_ne _ _ _ h7]
    show zup (zup μ 96 _ _) 92 6 _ a = _
    rw [zup_ne _ _ _ h6, zup_ne _ _ _ h7]
theorem i32_add4 {a : Int32} (h : a.toInt ≤ 1000) : (a + 1 + 1 + 1 + 1).toInt = a.toInt + 4 := by
  have e1 := i32_add1 (a := a) (by omega)
  have e2 := i32_add1 (a := a + 1) (by omega)
  have e3 := i32_add1 (a := a + 1 + 1) (by omega)
  have e4 := i32_add1 (a := a + 1 + 1 + 1) (by omega)
  omega
theorem ag_feed (d len : Nat) (μ : zMu) (ν : zNu) (a b c e f : Int32) (h : RtxtM μ) : ∃ (v : Int32) (μ1 μ2 : zMu), zF zT0 (d + 8) 141 [.ref 1, .int a, .int b, .int c, .int e, .int f] (zm len μ ν) = some (.int v, zm len μ1 ν) ∧ zF zT0 (d + 8) 194 [.ref 92, .int a, .int b, .int c, .int e, .int f] (zm len μ1 ν) = some (.int v, zm len μ2 ν) ∧ RtxtM μ2 ∧ zfr [6, 7, 96] [0, 6] μ μ2 ∧ ∀ j, j ≠ 1 → μ2 6 j = μ 6 j := by
  obtain ⟨g1, g2, g3, g4, g5⟩ := h
  have t20 : (20 : Int32).toInt = 20 := rfl
  have t800 : (800 : Int32).toInt = 800 := rfl
  have t780 : (780 : Int32).toInt = 780 := rfl
  have e20 : (μ 6 1 + 20).toInt = (μ 6 1).toInt + 20 := by rw [i32_add] <;> omega
  rw [B_X11_feed]
  simp only [B_X10_append]
  by_cases hc : (μ 6 1).toInt ≤ 780
  · rw [if_pos (by rw [i32_le]; omega)]
    obtain ⟨x1, p1, p2, p3, p4, p5⟩ := F_an (d + 5) len μ ν a (by omega) (by omega)
    have k1 : (x1 6 1).toInt = (μ 6 1).toInt + 4 := by rw [p3, i32_add4 (by omega)]
    obtain ⟨x2, r1, r2, r3, r4, r5⟩ := F_an (d + 5) len x1 ν b (by omega) (by omega)
    have k2 : (x2 6 1).toInt = (μ 6 1).toInt + 8 := by rw [r3, i32_add4 (by omega)]; omega
    obtain ⟨x3, s1, s2, s3, s4, s5⟩ := F_an (d + 5) len x2 ν c (by omega) (by omega)
    have k3 : (x3 6 1).toInt = (μ 6 1).toInt + 12 := by rw [s3, i32_add4 (by omega)]; omega
    obtain ⟨x4, u1, u2, u3, u4, u5⟩ := F_an (d + 5) len x3 ν e (by omega) (by omega)
    have k4 : (x4 6 1).toInt = (μ 6 1).toInt + 16 := by rw [u3, i32_add4 (by omega)]; omega
    obtain ⟨x5, v1, v2, v3, v4, v5⟩ := F_an (d + 5) len x4 ν f (by omega) (by omega)
    have k5 : (x5 6 1).toInt = (μ 6 1).toInt + 20 := by rw [v3, i32_add4 (by omega)]; omega
    simp only [p1, r1, s1, u1, v1, zbv_some, zbi_some, B_X10_append_20, B_X10_append_25, B_X10_append_30, B_X10_append_36, B_X10_append_42, B_X11_feed_14]
    have X : ∀ r, r ≠ 6 → r ≠ 7 → x5 r = μ r := fun r h6 h7 => by rw [v5 r h6 h7, u5 r h6 h7, s5 r h6 h7, r5 r h6 h7, p5 r h6 h7]
    let w0 : zMu := zup x5 92 0 0
    have W6 : w0 92 6 = μ 6 1 := by show x5 92 6 = _; rw [X 92 (by decide) (by decide), ← g1]
    have W96 : w0 96 = μ 7 := by show x5 96 = _; rw [X 96 (by decide) (by decide), ← g4]
    obtain ⟨y1, a1, a2, a3, a4, a5⟩ := F_pu (d + 6) len w0 ν a (by rw [W6]; omega) (by rw [W6]; omega)
    rw [W6] at a2 a3
    rw [W96] at a2
    have l1 : y1 92 6 = x1 6 1 := by rw [a3, p3]
    have n1 : y1 96 = x1 7 := by rw [a2, p2]
    obtain ⟨y2, b1, b2, b3, b4, b5⟩ := F_pu (d + 6) len y1 ν b (by rw [l1]; omega) (by rw [l1]; omega)
    have l2 : y2 92 6 = x2 6 1 := by rw [b3, r3, l1]
    have n2 : y2 96 = x2 7 := by rw [b2, r2, l1, n1]
    obtain ⟨y3, c1, c2, c3, c4, c5⟩ := F_pu (d + 6) len y2 ν c (by rw [l2]; omega) (by rw [l2]; omega)
    have l3 : y3 92 6 = x3 6 1 := by rw [c3, s3, l2]
    have n3 : y3 96 = x3 7 := by rw [c2, s2, l2, n2]
    obtain ⟨y4, e1, e2, e3, e4, e5⟩ := F_pu (d + 6) len y3 ν e (by rw [l3]; omega) (by rw [l3]; omega)
    have l4 : y4 92 6 = x4 6 1 := by rw [e3, u3, l3]
    have n4 : y4 96 = x4 7 := by rw [e2, u2, l3, n3]
    obtain ⟨y5, f1, f2, f3, f4, f5⟩ := F_pu (d + 6) len y4 ν f (by rw [l4]; omega) (by rw [l4]; omega)
    have l5 : y5 92 6 = x5 6 1 := by rw [f3, v3, l4]
    have n5 : y5 96 = x5 7 := by rw [f2, v2, l4, n4]
    have Y : ∀ r, r ≠ 92 → r ≠ 96 → y5 r = x5 r := fun r h6 h7 => by
      rw [f5 r h6 h7, e5 r h6 h7, c5 r h6 h7, b5 r h6 h7, a5 r h6 h7]
      exact zup_ne _ _ _ h6
    refine ⟨x5 6 1, x5, y5, rfl, ?_, ?_, ?_, ?_⟩
    · rw [B_X12_feed]
      have hm : x5 92 6 ≤ 780 := by
        have : x5 92 6 = μ 6 1 := W6
        rw [this, i32_le]
        omega
      simp only [if_pos hm, show zup x5 92 0 0 = w0 from rfl, a1, b1, c1, e1, f1, zbv_some, B_X12_feed_22, B_X12_feed_27, B_X12_feed_32, B_X12_feed_38, B_X12_feed_44, l5]
    · show Rtxt (y5 6 1) (y5 92 6) (y5 7) (y5 96)
      rw [Y 6 (by decide) (by decide), Y 7 (by decide) (by decide), l5, n5]
      refine ⟨rfl, by omega, by omega, rfl, ?_⟩
      rw [v2, u2, s2, r2, p2]
      exact zb4_in (zb4_in (zb4_in (zb4_in (zb4_in g5 _ _) _ _) _ _) _ _) _ _
    · refine ⟨fun r hr h92 => ?_, fun j hj => ?_⟩
      · have h6 : r ≠ 6 := fun q => hr (by rw [q]; decide)
        have h7 : r ≠ 7 := fun q => hr (by rw [q]; decide)
        have h96 : r ≠ 96 := fun q => hr (by rw [q]; decide)
        rw [Y r h92 h96, X r h6 h7]
      · have hj0 : j ≠ 0 := fun q => hj (by rw [q]; decide)
        have hj6 : j ≠ 6 := fun q => hj (by rw [q]; decide)
        rw [f4 j hj6, e4 j hj6, c4 j hj6, b4 j hj6, a4 j hj6]
        show upd (x5 92) 0 0 j = _
        rw [upd_ne _ _ hj0, X 92 (by decide) (by decide)]
    · intro j hj
      rw [Y 6 (by decide) (by decide), v4 j hj, u4 j hj, s4 j hj, r4 j hj, p4 j hj]
  · rw [if_neg (by rw [i32_le]; omega)]
    simp only [zbi_some, B_X11_feed_14]
    refine ⟨-1, μ, zup μ 92 0 0, rfl, ?_, ⟨g1, g2, g3, g4, g5⟩, zfr_92 (zfr_rf _ _ _) (by decide), fun j _ => rfl⟩
    rw [B_X12_feed]
    simp only [if_neg (show ¬ μ 92 6 ≤ 780 by rw [← g1, i32_le]; omega)]
