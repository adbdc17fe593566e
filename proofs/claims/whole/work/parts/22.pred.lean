/-! PREDICATES: the small questions of both sides, as conditions -/
theorem zb_ite0 {c : Prop} [Decidable c] {α : Type} (A B : α) : (if zb c = 0 then A else B) = if c then B else A := by
  by_cases h : c
  · rw [if_pos h, zb_true h, if_neg (by decide)]
  · rw [if_neg h, zb_false h, if_pos rfl]
theorem zb_or {c : Prop} [Decidable c] {α : Type} (A B : α) : (if zb c = 0 ∨ zb c = 1 then A else B) = A := if_pos (zb_01 c)
theorem some_zb {c : Prop} [Decidable c] (M : zM) : (if c then some (Value.int 1, M) else some (Value.int 0, M)) = some (Value.int (zb c), M) := by
  by_cases h : c
  · rw [if_pos h, zb_true h]
  · rw [if_neg h, zb_false h]
theorem i32_nlt {a b : Int32} : ¬ a < b ↔ b ≤ a := by rw [i32_lt, i32_le]; omega
theorem i32_nle {a b : Int32} : ¬ a ≤ b ↔ b < a := by rw [i32_lt, i32_le]; omega
theorem some_in (x lo hi : Int32) (M : zM) : (if x < lo then some (Value.int 0, M) else (if hi < x then some (Value.int 0, M) else some (Value.int 1, M))) = some (Value.int (zb (lo ≤ x ∧ x ≤ hi)), M) := by
  by_cases h1 : x < lo
  · rw [if_pos h1, zb_false (fun q => by rw [i32_lt] at h1; rw [i32_le] at q; omega)]
  · rw [if_neg h1]
    by_cases h2 : hi < x
    · rw [if_pos h2, zb_false (fun q => by rw [i32_lt] at h2; have := q.2; rw [i32_le] at this; omega)]
    · rw [if_neg h2, zb_true ⟨i32_nlt.mp h1, i32_nlt.mp h2⟩]
theorem some_in2 (x hi : Int32) (M : zM) : (if x < 0 then some (Value.int 0, M) else (if hi ≤ x then some (Value.int 0, M) else some (Value.int 1, M))) = some (Value.int (zb (0 ≤ x ∧ x < hi)), M) := by
  by_cases h1 : x < 0
  · rw [if_pos h1, zb_false (fun q => i32_nlt.mpr q.1 h1)]
  · rw [if_neg h1]
    by_cases h2 : hi ≤ x
    · rw [if_pos h2, zb_false (fun q => i32_nle.mpr q.2 h2)]
    · rw [if_neg h2, zb_true ⟨i32_nlt.mp h1, i32_nle.mp h2⟩]
theorem i32_0 : (0 : Int32).toInt = 0 := rfl
theorem i32_pred {c x : Int32} (h : 0 ≤ c.toInt) : x ≤ c - 1 ↔ x < c := by
  have h1 : (1 : Int32).toInt = 1 := rfl
  have h2 := i32_hi c
  have e : (c - 1).toInt = c.toInt - 1 := by rw [i32_sub] <;> omega
  rw [i32_le, i32_lt, e]
  omega
section PRED
variable (d len : Nat) (μ : zMu) (ν : zNu)
theorem F_within (x lo hi : Int32) : zF zT0 (d + 1) 175 [.int x, .int lo, .int hi] (zm len μ ν) = some (.int (zb (lo ≤ x ∧ x ≤ hi)), zm len μ ν) := by
  rw [B_X11_within]; exact some_in x lo hi _
theorem F_isIn (x lo hi : Int32) : zF zT0 (d + 1) 184 [.ref 92, .int x, .int lo, .int hi] (zm len μ ν) = some (.int (zb (lo ≤ x ∧ x ≤ hi)), zm len μ ν) := by
  rw [B_X12_isIn]; exact some_in x lo hi _
theorem F_X11_isGood (x : Int32) : zF zT0 (d + 2) 176 [.int x] (zm len μ ν) = some (.int (zb (0 ≤ x ∧ x ≤ 7)), zm len μ ν) := by
  rw [B_X11_isGood]; simp only [F_within, zbi_some, B_X11_isGood_7, zb_or]
theorem F_X11_isYear (x : Int32) : zF zT0 (d + 2) 177 [.int x] (zm len μ ν) = some (.int (zb (0 ≤ x ∧ x ≤ 99)), zm len μ ν) := by
  rw [B_X11_isYear]; simp only [F_within, zbi_some, B_X11_isYear_7, zb_or]
theorem F_X11_isSide (x : Int32) : zF zT0 (d + 2) 178 [.int x] (zm len μ ν) = some (.int (zb (1 ≤ x ∧ x ≤ 999)), zm len μ ν) := by
  rw [B_X11_isSide]; simp only [F_within, zbi_some, B_X11_isSide_8, zb_or]
theorem F_X5_isSystem (x : Int32) : zF zT0 (d + 2) 62 [.int x] (zm len μ ν) = some (.int (zb (0 ≤ x ∧ x ≤ 3)), zm len μ ν) := by
  rw [B_X5_isSystem]; simp only [F_within, zbi_some, B_X5_isSystem_6, zb_or]
theorem F_X0_isBall (x : Int32) : zF zT0 (d + 2) 1 [.int x] (zm len μ ν) = some (.int (zb (0 ≤ x ∧ x ≤ 7)), zm len μ ν) := by
  rw [B_X0_isBall]; simp only [F_within, zbi_some, B_X0_isBall_7, zb_or]
theorem F_X0_isKind (x : Int32) : zF zT0 (d + 2) 2 [.int x] (zm len μ ν) = some (.int (zb (0 ≤ x ∧ x ≤ 4)), zm len μ ν) := by
  rw [B_X0_isKind]; simp only [F_within, zbi_some, B_X0_isKind_6, zb_or]
theorem F_X9_has (x : Int32) : zF zT0 (d + 2) 111 [.ref 27, .int x] (zm len μ ν) = some (.int (zb (0 ≤ x ∧ x ≤ 11)), zm len μ ν) := by
  rw [B_X9_has]; simp only [F_within, zbi_some, B_X9_has_7, zb_or]
theorem F_X6_has (x : Int32) : zF zT0 (d + 2) 73 [.ref 67, .int x] (zm len μ ν) = some (.int (zb (0 ≤ x ∧ x ≤ (μ 67 1) - 1)), zm len μ ν) := by
  rw [B_X6_has]; simp only [F_within, zbi_some, B_X6_has_11, zb_or]
theorem F_X8_isSealing (x : Int32) : zF zT0 (d + 2) 98 [.ref 45, .int x] (zm len μ ν) = some (.int (zb (0 ≤ x ∧ x ≤ (μ 45 0) - 1)), zm len μ ν) := by
  rw [B_X8_isSealing]; simp only [F_within, zbi_some, B_X8_isSealing_11, zb_or]
theorem F_X12_isSystem (x : Int32) : zF zT0 (d + 2) 185 [.ref 92, .int x] (zm len μ ν) = some (.int (zb (0 ≤ x ∧ x ≤ 3)), zm len μ ν) := by
  rw [B_X12_isSystem]; simp only [F_isIn, zbi_some, B_X12_isSystem_7, zb_or]
theorem F_X12_isGood (x : Int32) : zF zT0 (d + 2) 186 [.ref 92, .int x] (zm len μ ν) = some (.int (zb (0 ≤ x ∧ x ≤ 7)), zm len μ ν) := by
  rw [B_X12_isGood]; simp only [F_isIn, zbi_some, B_X12_isGood_8, zb_or]
theorem F_X12_isYear (x : Int32) : zF zT0 (d + 2) 187 [.ref 92, .int x] (zm len μ ν) = some (.int (zb (0 ≤ x ∧ x ≤ 99)), zm len μ ν) := by
  rw [B_X12_isYear]; simp only [F_isIn, zbi_some, B_X12_isYear_8, zb_or]
theorem F_X12_isBall (x : Int32) : zF zT0 (d + 2) 223 [.ref 92, .int x] (zm len μ ν) = some (.int (zb (0 ≤ x ∧ x ≤ 7)), zm len μ ν) := by
  rw [B_X12_isBall]; simp only [F_isIn, zbi_some, B_X12_isBall_8, zb_or]
theorem F_X12_isKind (x : Int32) : zF zT0 (d + 2) 224 [.ref 92, .int x] (zm len μ ν) = some (.int (zb (0 ≤ x ∧ x ≤ 4)), zm len μ ν) := by
  rw [B_X12_isKind]; simp only [F_isIn, zbi_some, B_X12_isKind_7, zb_or]
theorem F_X12_isHerd (x : Int32) : zF zT0 (d + 2) 271 [.ref 92, .int x] (zm len μ ν) = some (.int (zb (0 ≤ x ∧ x ≤ 9999)), zm len μ ν) := by
  rw [B_X12_isHerd]; simp only [F_isIn, zbi_some, B_X12_isHerd_9, zb_or]
theorem F_X12_isSide (x : Int32) : zF zT0 (d + 2) 290 [.ref 92, .int x] (zm len μ ν) = some (.int (zb (1 ≤ x ∧ x ≤ 999)), zm len μ ν) := by
  rw [B_X12_isSide]; simp only [F_isIn, zbi_some, B_X12_isSide_9, zb_or]
theorem F_X12_isSeal (x : Int32) : zF zT0 (d + 1) 232 [.ref 92, .int x] (zm len μ ν) = some (.int (zb (0 ≤ x ∧ x < μ 92 52)), zm len μ ν) := by
  rw [B_X12_isSeal]; exact some_in2 x _ _
theorem F_X12_isFragment (x : Int32) : zF zT0 (d + 1) 242 [.ref 92, .int x] (zm len μ ν) = some (.int (zb (0 ≤ x ∧ x < μ 92 56)), zm len μ ν) := by
  rw [B_X12_isFragment]; exact some_in2 x _ _
theorem F_X12_isPerson (x : Int32) : zF zT0 (d + 1) 250 [.ref 92, .int x] (zm len μ ν) = some (.int (zb (0 ≤ x ∧ x < μ 92 62)), zm len μ ν) := by
  rw [B_X12_isPerson]; exact some_in2 x _ _
theorem F_X12_isFlock (x : Int32) : zF zT0 (d + 1) 274 [.ref 92, .int x] (zm len μ ν) = some (.int (zb (0 ≤ x ∧ x < μ 92 85)), zm len μ ν) := by
  rw [B_X12_isFlock]; exact some_in2 x _ _
theorem F_X12_isLoan (x : Int32) : zF zT0 (d + 1) 283 [.ref 92, .int x] (zm len μ ν) = some (.int (zb (0 ≤ x ∧ x < μ 92 96)), zm len μ ν) := by
  rw [B_X12_isLoan]; exact some_in2 x _ _
end PRED
