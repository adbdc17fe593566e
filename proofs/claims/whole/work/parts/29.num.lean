/-! NUMBERS: good, step -/
/-- the product of the first n -/
def zP (g : Nat → Int) : Nat → Int
  | 0 => 1
  | n + 1 => zP g n * g n
theorem zP_congr {g h : Nat → Int} : ∀ {n : Nat}, (∀ j, j < n → g j = h j) → zP g n = zP h n
  | 0, _ => rfl
  | n + 1, e => by
    show zP g n * g n = zP h n * h n
    rw [zP_congr (fun j hj => e j (by omega)), e n (by omega)]
theorem zP_pos {g : Nat → Int} : ∀ {n : Nat}, (∀ j, j < n → 1 ≤ g j) → 1 ≤ zP g n
  | 0, _ => Int.le_refl 1
  | n + 1, e => by
    show 1 ≤ zP g n * g n
    have h1 : 1 ≤ zP g n := zP_pos (fun j hj => e j (by omega))
    have h2 : 1 ≤ g n := e n (by omega)
    have h3 : 1 * 1 ≤ zP g n * g n := Int.mul_le_mul h1 h2 (by decide) (by omega)
    omega
theorem zP_mono {g : Nat → Int} {m : Nat} : ∀ {n : Nat}, (∀ j, j < n → 1 ≤ g j) → m ≤ n → zP g m ≤ zP g n
  | 0, _, h => by
    have : m = 0 := by omega
    subst this
    exact Int.le_refl _
  | n + 1, e, h => by
    by_cases hm : m = n + 1
    · subst hm
      exact Int.le_refl _
    · have h0 : zP g m ≤ zP g n := zP_mono (fun j hj => e j (by omega)) (by omega)
      have h1 : 1 ≤ zP g n := zP_pos (fun j hj => e j (by omega))
      have h2 : zP g n * 1 ≤ zP g n * g n := Int.mul_le_mul_of_nonneg_left (e n (by omega)) (by omega)
      show zP g m ≤ zP g n * g n
      omega
theorem zP_le {g : Nat → Int} : ∀ {n : Nat}, (∀ j, j < n → 1 ≤ g j ∧ g j ≤ 60) → zP g n ≤ (60 ^ n : Nat)
  | 0, _ => Int.le_refl 1
  | n + 1, e => by
    have h0 : zP g n ≤ (60 ^ n : Nat) := zP_le (fun j hj => e j (by omega))
    have h1 : 1 ≤ zP g n := zP_pos (fun j hj => (e j (by omega)).1)
    have h2 := (e n (by omega)).2
    show zP g n * g n ≤ (60 ^ (n + 1) : Nat)
    have h3 : zP g n * g n ≤ (60 ^ n : Nat) * 60 := Int.mul_le_mul h0 h2 (by have := (e n (by omega)).1; omega) (by omega)
    have h4 : ((60 ^ (n + 1) : Nat) : Int) = (60 ^ n : Nat) * 60 := by rw [Nat.pow_succ]; omega
    omega
def Rnum (r3 r93 r4 r94 r5 r95 : Nat → Int32) : Prop := r3 = r93 ∧ r5 = r95 ∧ zin2 r5 0 3 ∧ (∀ s : Nat, s < 4 → 2 ≤ (r3 s).toInt ∧ (r3 s).toInt ≤ 6) ∧ (∀ s i : Nat, s < 4 → (i : Int) + 1 < (r3 s).toInt → r4 (6 * s + i) = r94 (5 * s + i) ∧ 2 ≤ (r4 (6 * s + i)).toInt ∧ (r4 (6 * s + i)).toInt ≤ 60) ∧ ∀ s : Nat, s < 4 → zP (fun j => (r94 (5 * s + j)).toInt) ((r3 s).toInt.toNat - 1) ≤ 99999
abbrev RnumM (μ : zMu) : Prop := Rnum (μ 3) (μ 93) (μ 4) (μ 94) (μ 5) (μ 95)
theorem idx6 {a b : Int32} (h1 : 0 ≤ a.toInt) (h2 : a.toInt ≤ 1000) (h3 : 0 ≤ b.toInt) (h4 : b.toInt ≤ 1000) : (a * 6 + b).toInt = 6 * a.toInt + b.toInt := by
  have t : (6 : Int32).toInt = 6 := rfl
  have e : (a * 6).toInt = a.toInt * 6 := by rw [i32_mul (by rw [t]; omega) (by rw [t]; omega), t]
  rw [i32_add] <;> omega
theorem x_small_loop (d len : Nat) (μ : zMu) (ν : zNu) (s i st last : Int32) (hs : 0 ≤ s.toInt ∧ s.toInt < 4) (hl : -1 ≤ last.toInt ∧ last.toInt ≤ 4) (g : Nat → Int) (hg : ∀ j : Nat, (j : Int) ≤ last.toInt → g j = (if (j : Int) = i.toInt then st else μ 4 (6 * s.toInt.toNat + j)).toInt) (h1 : ∀ j : Nat, (j : Int) ≤ last.toInt → 1 ≤ g j ∧ g j ≤ 60) : ∀ (k : Nat) (w j : Int32), 0 ≤ j.toInt → j.toInt + k = last.toInt + 1 → w.toInt = zP g j.toInt.toNat → w.toInt ≤ 99999 → zE zc_X5_staysSmall (zF zT0 (d + 1)) 20 [.ref 2, .int s, .int i, .int st, .int last, .int w, .int j] [] (zm len μ ν) = some (.int (zb (zP g (last.toInt + 1).toNat ≤ 99999)), zm len μ ν) := by
  intro k
  have t9 : (99999 : Int32).toInt = 99999 := rfl
  have t1 : (1 : Int32).toInt = 1 := rfl
  induction k with
  | zero =>
    intro w j h0 hk hw hle
    have e : (last.toInt + 1).toNat = j.toInt.toNat := by omega
    rw [B_X5_staysSmall_20, if_pos (by rw [i32_lt]; omega), zb_true (by rw [e, ← hw]; exact hle)]
  | succ k ih =>
    intro w j h0 hk hw hle
    have hjl : j.toInt ≤ last.toInt := by omega
    have hj1 : (j + 1).toInt = j.toInt + 1 := by rw [i32_add] <;> omega
    have hg1 := h1 j.toInt.toNat (by omega)
    have hgj := hg j.toInt.toNat (by omega)
    have hw1 : 1 ≤ w.toInt := by rw [hw]; exact zP_pos (fun q hq => (h1 q (by omega)).1)
    have key : ∀ v : Int32, v.toInt = g j.toInt.toNat → zE zc_X5_staysSmall (zF zT0 (d + 1)) 50 [.ref 2, .int s, .int i, .int st, .int last, .int w, .int j] [.int v, .int w] (zm len μ ν) = some (.int (zb (zP g (last.toInt + 1).toNat ≤ 99999)), zm len μ ν) := by
      intro v hv
      have hb1 : w.toInt * v.toInt ≤ 99999 * 60 := Int.mul_le_mul hle (by omega) (by omega) (by omega)
      have hb0 : 0 ≤ w.toInt * v.toInt := Int.mul_nonneg (by omega) (by omega)
      have hm : (w * v).toInt = w.toInt * v.toInt := by rw [i32_mul] <;> omega
      have hS : zP g (j.toInt.toNat + 1) = w.toInt * v.toInt := by
        show zP g _ * g _ = _
        rw [← hw, hv]
      rw [B_X5_staysSmall_50]
      by_cases hc : w * v ≤ 99999
      · rw [if_pos hc]
        rw [i32_le, hm] at hc
        exact ih (w * v) (j + 1) (by omega) (by omega) (by rw [hm, hj1, show (j.toInt + 1).toNat = j.toInt.toNat + 1 by omega, hS]) (by rw [hm]; omega)
      · rw [if_neg hc]
        rw [i32_le, hm] at hc
        have hmono : zP g (j.toInt.toNat + 1) ≤ zP g (last.toInt + 1).toNat := zP_mono (fun q hq => (h1 q (by omega)).1) (by omega)
        rw [zb_false (by omega)]
    rw [B_X5_staysSmall_20, if_neg (by rw [i32_lt]; omega)]
    by_cases hji : j = i
    · rw [if_pos hji]
      exact key st (by rw [hgj, if_pos (by rw [← hji]; omega)])
    · rw [if_neg hji]
      have hx : (s * 6 + j).toInt = 6 * s.toInt + j.toInt := idx6 (by omega) (by omega) (by omega) (by omega)
      simp only [B_X5_slot, zbi_some, B_X5_staysSmall_49]
      rw [if_pos (by omega)]
      refine key _ ?_
      rw [hgj, if_neg (by intro q; apply hji; rw [i32_eq]; omega), i32_nat, hx]
      congr 2
      omega
theorem F_small (d len : Nat) (μ : zMu) (ν : zNu) (s i st : Int32) (hs : 0 ≤ s.toInt ∧ s.toInt < 4) (hi : 0 ≤ i.toInt ∧ i.toInt ≤ 4) (hn : 2 ≤ (μ 3 s.toNatClampNeg).toInt ∧ (μ 3 s.toNatClampNeg).toInt ≤ 6) (g : Nat → Int) (n : Nat) (hn2 : (n : Int) = max ((μ 3 s.toNatClampNeg).toInt - 1) (i.toInt + 1)) (hg : ∀ j : Nat, j < n → g j = (if (j : Int) = i.toInt then st else μ 4 (6 * s.toInt.toNat + j)).toInt) (h1 : ∀ j : Nat, j < n → 1 ≤ g j ∧ g j ≤ 60) : zF zT0 (d + 2) 65 [.ref 2, .int s, .int i, .int st] (zm len μ ν) = some (.int (zb (zP g n ≤ 99999)), zm len μ ν) := by
  have t2 : (2 : Int32).toInt = 2 := rfl
  have t1 : (1 : Int32).toInt = 1 := rfl
  have t0 : (0 : Int32).toInt = 0 := rfl
  have hd : (μ 3 s.toNatClampNeg - 2).toInt = (μ 3 s.toNatClampNeg).toInt - 2 := by rw [i32_sub] <;> omega
  rw [B_X5_staysSmall]
  simp only [if_pos (show 0 ≤ s.toInt ∧ s.toInt < ((4 : Nat) : Int) from hs)]
  have hlast : (if μ 3 s.toNatClampNeg - 2 < i then i else μ 3 s.toNatClampNeg - 2).toInt = n - 1 := by
    split
    · rename_i h
      rw [i32_lt, hd] at h
      omega
    · rename_i h
      rw [i32_lt, hd] at h
      omega
  have e := x_small_loop d len μ ν s i st (if μ 3 s.toNatClampNeg - 2 < i then i else μ 3 s.toNatClampNeg - 2) hs (by rw [hlast]; omega) g (fun j hj => hg j (by omega)) (fun j hj => h1 j (by omega)) n 1 0 (by omega) (by omega) rfl (by omega)
  rw [e, hlast, show ((n : Int) - 1 + 1).toNat = n by omega]
theorem m_worth_loop (call : zC) (len : Nat) (μ : zMu) (ν : zNu) (s n : Int32) (hs : 0 ≤ s.toInt ∧ s.toInt < 4) (hn : 0 ≤ n.toInt ∧ n.toInt ≤ 5) (h1 : ∀ j : Nat, (j : Int) < n.toInt → 1 ≤ (μ 94 (5 * s.toInt.toNat + j)).toInt ∧ (μ 94 (5 * s.toInt.toNat + j)).toInt ≤ 60) : ∀ (k : Nat) (w : Int64) (v : Value) (j : Int32), 0 ≤ j.toInt → j.toInt + k = n.toInt → w.toInt = zP (fun j => (μ 94 (5 * s.toInt.toNat + j)).toInt) j.toInt.toNat → ∃ r : Int64, zE zc_X12_worthOf call 5 [.ref 92, .int s, .int n, .long w, v, .int j] [] (zm len μ ν) = some (.long r, zm len μ ν) ∧ r.toInt = zP (fun j => (μ 94 (5 * s.toInt.toNat + j)).toInt) n.toInt.toNat := by
  intro k
  have t1 : (1 : Int32).toInt = 1 := rfl
  induction k with
  | zero =>
    intro w v j h0 hk hw
    rw [B_X12_worthOf_5, if_pos (by rw [i32_le]; omega)]
    exact ⟨w, rfl, by rw [hw, show j.toInt.toNat = n.toInt.toNat by omega]⟩
  | succ k ih =>
    intro w v j h0 hk hw
    have hj1 : (j + 1).toInt = j.toInt + 1 := by rw [i32_add] <;> omega
    have hx : (5 * s + j).toInt = 5 * s.toInt + j.toInt := idx5 (by omega) (by omega) (by omega) (by omega)
    have hi : (5 * s + j).toNatClampNeg = 5 * s.toInt.toNat + j.toInt.toNat := by rw [i32_nat, hx]; omega
    have hb := h1 j.toInt.toNat (by omega)
    have hw1 : 1 ≤ w.toInt := by rw [hw]; exact zP_pos (fun q hq => (h1 q (by omega)).1)
    have hw2 : w.toInt ≤ (60 ^ j.toInt.toNat : Nat) := by rw [hw]; exact zP_le (fun q hq => h1 q (by omega))
    have hw3 : 60 ^ j.toInt.toNat ≤ 60 ^ 5 := Nat.pow_le_pow_right (by decide) (by omega)
    have hw4 : (60 ^ 5 : Nat) = 777600000 := rfl
    rw [B_X12_worthOf_5, if_neg (by rw [i32_le]; omega), if_pos (by omega), hi]
    have hm1 : w.toInt * (μ 94 (5 * s.toInt.toNat + j.toInt.toNat)).toInt ≤ 777600000 * 60 := Int.mul_le_mul (by omega) hb.2 (by omega) (by omega)
    have hm0 : 0 ≤ w.toInt * (μ 94 (5 * s.toInt.toNat + j.toInt.toNat)).toInt := Int.mul_nonneg (by omega) (by omega)
    refine ih _ _ (j + 1) (by omega) (by omega) ?_
    rw [i64_mul (by rw [i64_of]; omega) (by rw [i64_of]; omega), i64_of, hj1, show (j.toInt + 1).toNat = j.toInt.toNat + 1 by omega, hw]
    rfl
theorem F_worth (d len : Nat) (μ : zMu) (ν : zNu) (s n : Int32) (hs : 0 ≤ s.toInt ∧ s.toInt < 4) (hn : 0 ≤ n.toInt ∧ n.toInt ≤ 5) (h1 : ∀ j : Nat, (j : Int) < n.toInt → 1 ≤ (μ 94 (5 * s.toInt.toNat + j)).toInt ∧ (μ 94 (5 * s.toInt.toNat + j)).toInt ≤ 60) : ∃ r : Int64, zF zT0 (d + 1) 188 [.ref 92, .int s, .int n] (zm len μ ν) = some (.long r, zm len μ ν) ∧ r.toInt = zP (fun j => (μ 94 (5 * s.toInt.toNat + j)).toInt) n.toInt.toNat := by
  have t0 : (0 : Int32).toInt = 0 := rfl
  rw [B_X12_worthOf]
  exact m_worth_loop _ len μ ν s n hs hn h1 n.toInt.toNat 1 zU 0 (by omega) (by omega) rfl
