/-! TABLET read: its LINES and BLOCKS, as numbers -/
/-- sort, GOOD, lost (0 or 1), what is told, its marks (worth, most) -/
abbrev Ln : Type := Int × Int × Int × Int × List (Int × Int)
def obF (ln : Nat → Ln) : Nat → Int → Int
  | 0, _ => -1
  | n + 1, g => if g = (ln n).2.1 then (if (ln n).1 = 2 then -1 else (if obF ln n g = -1 then (n : Int) else obF ln n g)) else obF ln n g
def bkF (ln : Nat → Ln) (i : Nat) : Nat := if obF ln i (ln i).2.1 = -1 then i else (obF ln i (ln i).2.1).toNat
def mkF (ln : Nat → Ln) (b : Nat) : Nat → List (Nat × Int × Int)
  | 0 => []
  | n + 1 => mkF ln b n ++ (if bkF ln n = b then (ln n).2.2.2.2.map (fun p => (n, p)) else [])
def loF (ln : Nat → Ln) (b : Nat) : Nat → Int
  | 0 => -1
  | n + 1 => if bkF ln n = b ∧ (ln n).2.2.1 = 1 then (n : Int) else loF ln b n
def sgF (s v : Int) : Int := if s = 0 then v else -v
def toF (ln : Nat → Ln) (b : Nat) : Nat → Int
  | 0 => 0
  | n + 1 => if bkF ln n = b then toF ln b n + sgF (ln n).1 (ln n).2.2.2.1 else toF ln b n
def clF (ln : Nat → Ln) (b : Nat) : Nat → Int
  | 0 => 0
  | n + 1 => if bkF ln n = b ∧ (ln n).1 = 2 then 1 else clF ln b n
theorem obF_r (ln : Nat → Ln) : ∀ (n : Nat) (g : Int), -1 ≤ obF ln n g ∧ obF ln n g < n
  | 0, _ => ⟨by show (-1 : Int) ≤ -1; omega, by show (-1 : Int) < ((0 : Nat) : Int); omega⟩
  | n + 1, g => by
    have h := obF_r ln n g
    show -1 ≤ (if g = (ln n).2.1 then (if (ln n).1 = 2 then -1 else (if obF ln n g = -1 then (n : Int) else obF ln n g)) else obF ln n g) ∧ (if g = (ln n).2.1 then (if (ln n).1 = 2 then -1 else (if obF ln n g = -1 then (n : Int) else obF ln n g)) else obF ln n g) < ((n + 1 : Nat) : Int)
    split
    · split
      · omega
      · split <;> omega
    · omega
theorem bkF_le (ln : Nat → Ln) (i : Nat) : bkF ln i ≤ i := by
  unfold bkF
  have := obF_r ln i (ln i).2.1
  split <;> omega
theorem bkF_i (ln : Nat → Ln) (i : Nat) : (bkF ln i : Int) = if obF ln i (ln i).2.1 = -1 then (i : Int) else obF ln i (ln i).2.1 := by
  unfold bkF
  have := obF_r ln i (ln i).2.1
  split <;> omega
theorem obF_S (ln : Nat → Ln) (n : Nat) (g : Int) : obF ln (n + 1) g = if g = (ln n).2.1 then (if (ln n).1 = 2 then -1 else (bkF ln n : Int)) else obF ln n g := by
  rw [bkF_i]
  show (if g = (ln n).2.1 then (if (ln n).1 = 2 then -1 else (if obF ln n g = -1 then (n : Int) else obF ln n g)) else obF ln n g) = _
  by_cases h : g = (ln n).2.1
  · rw [if_pos h, if_pos h, h]
  · rw [if_neg h, if_neg h]
theorem obF_c {ln ln' : Nat → Ln} : ∀ n : Nat, (∀ i, i < n → ln i = ln' i) → ∀ g, obF ln n g = obF ln' n g
  | 0, _, _ => rfl
  | n + 1, h, g => by
    have e := obF_c n (fun i hi => h i (by omega)) g
    show (if g = (ln n).2.1 then (if (ln n).1 = 2 then -1 else (if obF ln n g = -1 then (n : Int) else obF ln n g)) else obF ln n g) = (if g = (ln' n).2.1 then (if (ln' n).1 = 2 then -1 else (if obF ln' n g = -1 then (n : Int) else obF ln' n g)) else obF ln' n g)
    rw [e, h n (by omega)]
theorem bkF_c {ln ln' : Nat → Ln} {i : Nat} (h : ∀ j, j < i → ln j = ln' j) (hg : (ln i).2.1 = (ln' i).2.1) : bkF ln i = bkF ln' i := by
  unfold bkF
  rw [hg, obF_c i h]
theorem bkF_cc {ln ln' : Nat → Ln} {n : Nat} (h : ∀ j, j < n → ln j = ln' j) {i : Nat} (hi : i < n) : bkF ln i = bkF ln' i := bkF_c (fun j hj => h j (by omega)) (by rw [h i hi])
theorem mkF_c {ln ln' : Nat → Ln} (b : Nat) : ∀ n : Nat, (∀ i, i < n → ln i = ln' i) → mkF ln b n = mkF ln' b n
  | 0, _ => rfl
  | n + 1, h => by
    show mkF ln b n ++ (if bkF ln n = b then (ln n).2.2.2.2.map (fun p => (n, p)) else []) = mkF ln' b n ++ (if bkF ln' n = b then (ln' n).2.2.2.2.map (fun p => (n, p)) else [])
    rw [mkF_c b n (fun i hi => h i (by omega)), bkF_cc h (Nat.lt_succ_self n), h n (by omega)]
theorem loF_c {ln ln' : Nat → Ln} (b : Nat) : ∀ n : Nat, (∀ i, i < n → ln i = ln' i) → loF ln b n = loF ln' b n
  | 0, _ => rfl
  | n + 1, h => by
    show (if bkF ln n = b ∧ (ln n).2.2.1 = 1 then (n : Int) else loF ln b n) = (if bkF ln' n = b ∧ (ln' n).2.2.1 = 1 then (n : Int) else loF ln' b n)
    rw [loF_c b n (fun i hi => h i (by omega)), bkF_cc h (Nat.lt_succ_self n), h n (by omega)]
theorem toF_c {ln ln' : Nat → Ln} (b : Nat) : ∀ n : Nat, (∀ i, i < n → ln i = ln' i) → toF ln b n = toF ln' b n
  | 0, _ => rfl
  | n + 1, h => by
    show (if bkF ln n = b then toF ln b n + sgF (ln n).1 (ln n).2.2.2.1 else toF ln b n) = (if bkF ln' n = b then toF ln' b n + sgF (ln' n).1 (ln' n).2.2.2.1 else toF ln' b n)
    rw [toF_c b n (fun i hi => h i (by omega)), bkF_cc h (Nat.lt_succ_self n), h n (by omega)]
theorem clF_c {ln ln' : Nat → Ln} (b : Nat) : ∀ n : Nat, (∀ i, i < n → ln i = ln' i) → clF ln b n = clF ln' b n
  | 0, _ => rfl
  | n + 1, h => by
    show (if bkF ln n = b ∧ (ln n).1 = 2 then 1 else clF ln b n) = (if bkF ln' n = b ∧ (ln' n).1 = 2 then 1 else clF ln' b n)
    rw [clF_c b n (fun i hi => h i (by omega)), bkF_cc h (Nat.lt_succ_self n), h n (by omega)]
theorem mkF_0 (ln : Nat → Ln) (b : Nat) : ∀ n : Nat, n ≤ b → mkF ln b n = []
  | 0, _ => rfl
  | n + 1, h => by
    have := bkF_le ln n
    show mkF ln b n ++ (if bkF ln n = b then (ln n).2.2.2.2.map (fun p => (n, p)) else []) = []
    rw [mkF_0 ln b n (by omega), if_neg (by omega)]
    rfl
theorem loF_0 (ln : Nat → Ln) (b : Nat) : ∀ n : Nat, n ≤ b → loF ln b n = -1
  | 0, _ => rfl
  | n + 1, h => by
    have := bkF_le ln n
    show (if bkF ln n = b ∧ (ln n).2.2.1 = 1 then (n : Int) else loF ln b n) = -1
    rw [loF_0 ln b n (by omega), if_neg (fun q => by omega)]
theorem toF_0 (ln : Nat → Ln) (b : Nat) : ∀ n : Nat, n ≤ b → toF ln b n = 0
  | 0, _ => rfl
  | n + 1, h => by
    have := bkF_le ln n
    show (if bkF ln n = b then toF ln b n + sgF (ln n).1 (ln n).2.2.2.1 else toF ln b n) = 0
    rw [toF_0 ln b n (by omega), if_neg (by omega)]
theorem clF_0 (ln : Nat → Ln) (b : Nat) : ∀ n : Nat, n ≤ b → clF ln b n = 0
  | 0, _ => rfl
  | n + 1, h => by
    have := bkF_le ln n
    show (if bkF ln n = b ∧ (ln n).1 = 2 then 1 else clF ln b n) = 0
    rw [clF_0 ln b n (by omega), if_neg (fun q => by omega)]
theorem loF_r (ln : Nat → Ln) (b : Nat) : ∀ n : Nat, -1 ≤ loF ln b n ∧ loF ln b n < n
  | 0 => ⟨by show (-1 : Int) ≤ -1; omega, by show (-1 : Int) < ((0 : Nat) : Int); omega⟩
  | n + 1 => by
    have h := loF_r ln b n
    show -1 ≤ (if bkF ln n = b ∧ (ln n).2.2.1 = 1 then (n : Int) else loF ln b n) ∧ (if bkF ln n = b ∧ (ln n).2.2.1 = 1 then (n : Int) else loF ln b n) < ((n + 1 : Nat) : Int)
    split <;> omega
/-- the block that stands open is one -/
theorem obF_b (ln : Nat → Ln) : ∀ (n : Nat) (g : Int), obF ln n g ≠ -1 → bkF ln (obF ln n g).toNat = (obF ln n g).toNat ∧ (ln (obF ln n g).toNat).2.1 = g
  | 0, _, h => absurd rfl h
  | n + 1, g, h => by
    rw [obF_S] at h ⊢
    by_cases c : g = (ln n).2.1
    · rw [if_pos c] at h ⊢
      by_cases s : (ln n).1 = 2
      · rw [if_pos s] at h
        exact absurd rfl h
      · rw [if_neg s]
        show bkF ln (bkF ln n) = bkF ln n ∧ (ln (bkF ln n)).2.1 = g
        by_cases z : obF ln n (ln n).2.1 = -1
        · have e : bkF ln n = n := by unfold bkF; rw [if_pos z]
          rw [e, e]
          exact ⟨rfl, c.symm⟩
        · have e : bkF ln n = (obF ln n (ln n).2.1).toNat := by unfold bkF; rw [if_neg z]
          have := obF_b ln n _ z
          rw [e, c]
          exact this
    · rw [if_neg c] at h ⊢
      exact obF_b ln n g h
theorem bkF_b (ln : Nat → Ln) (n : Nat) : bkF ln (bkF ln n) = bkF ln n ∧ (ln (bkF ln n)).2.1 = (ln n).2.1 := by
  by_cases z : obF ln n (ln n).2.1 = -1
  · have e : bkF ln n = n := by unfold bkF; rw [if_pos z]
    rw [e, e]
    exact ⟨rfl, rfl⟩
  · have e : bkF ln n = (obF ln n (ln n).2.1).toNat := by unfold bkF; rw [if_neg z]
    rw [e]
    exact obF_b ln n _ z
