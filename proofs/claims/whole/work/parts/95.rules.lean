/-! RULES: rules() agrees -/
theorem zup_idx {μ : zMu} {r i j a : Nat} {v : Int32} (h : j ≠ i) : zup μ r i v a j = μ a j := by
  by_cases z : a = r
  · rw [z, zup_self, upd_ne _ _ h]
  · rw [zup_ne _ _ _ z]
theorem GX_lo : ∀ (gl : List Gv) (X : zMu) (n m r i : Nat), i < n → GX gl X n m r i = X r i
  | [], _, _, _, _, _, _ => rfl
  | x :: gl, X, n, m, r, i, h => by
    show GX gl _ (n + 1) _ r i = X r i
    rw [GX_lo gl _ (n + 1) _ r i (by omega), zup_idx (by omega), zup_idx (by omega), zup_idx (by omega)]
theorem GX_row : ∀ (gl : List Gv) (X : zMu) (n m r : Nat), r ≠ 63 → r ≠ 64 → r ≠ 65 → GX gl X n m r = X r
  | [], _, _, _, _, _, _, _ => rfl
  | x :: gl, X, n, m, r, h1, h2, h3 => by
    show GX gl _ (n + 1) _ r = X r
    rw [GX_row gl _ (n + 1) _ r h1 h2 h3, zup_ne _ _ _ h3, zup_ne _ _ _ h2, zup_ne _ _ _ h1]
theorem GY_lo : ∀ (gl : List Gv) (Y : zMu) (l m r i : Nat), i < l → GY gl Y l m r i = Y r i
  | [], _, _, _, _, _, _ => rfl
  | x :: gl, Y, l, m, r, i, h => by
    show GY gl _ (l + 1) _ r i = Y r i
    rw [GY_lo gl _ (l + 1) _ r i (by omega), zup_idx (by omega), zup_idx (by omega), zup_idx (by omega), zup_idx (by omega)]
theorem GY_row : ∀ (gl : List Gv) (Y : zMu) (l m r : Nat), r ≠ 139 → r ≠ 140 → r ≠ 141 → r ≠ 142 → GY gl Y l m r = Y r
  | [], _, _, _, _, _, _, _, _ => rfl
  | x :: gl, Y, l, m, r, h1, h2, h3, h4 => by
    show GY gl _ (l + 1) _ r = Y r
    rw [GY_row gl _ (l + 1) _ r h1 h2 h3 h4, zup_ne _ _ _ h4, zup_ne _ _ _ h1, zup_ne _ _ _ h3, zup_ne _ _ _ h2]
theorem G_rows : ∀ (gl : List Gv) (X Y : zMu) (n m l : Nat), GV gl → ∀ j, j < gl.length → ∃ (x : Gv) (fr : Nat) (pre post : List (Int × Int)), gco gl = pre ++ ((x.2.1 ++ x.2.2) ++ post) ∧ fr = m + pre.length ∧ ((0 ≤ x.1 ∧ x.1 ≤ 7) ∧ SumT x.2.1 ∧ (x.2.2 = [] ∨ CTo 0 x.2.2)) ∧ (GX gl X n m 63 (n + j) = zi x.1 ∧ GX gl X n m 64 (n + j) = zi ((fr + x.2.1.length : Nat) : Int) ∧ GX gl X n m 65 (n + j) = zi ((fr + x.2.1.length + x.2.2.length : Nat) : Int)) ∧ (j = 0 → fr = m) ∧ (j ≠ 0 → GX gl X n m 65 (n + j - 1) = zi (fr : Int)) ∧ (GY gl Y l m 139 (l + j) = zi x.1 ∧ GY gl Y l m 140 (l + j) = zi (fr : Int) ∧ GY gl Y l m 141 (l + j) = zi ((fr + x.2.1.length : Nat) : Int) ∧ GY gl Y l m 142 (l + j) = zi ((fr + x.2.1.length + x.2.2.length : Nat) : Int))
  | [], _, _, _, _, _, _, j, h => absurd h (Nat.not_lt_zero j)
  | x :: gl, X, Y, n, m, l, hV, j, h => by
    obtain ⟨hx, hV⟩ := hV
    by_cases z : j = 0
    · subst z
      refine ⟨x, m, [], gco gl, rfl, rfl, hx, ⟨?_, ?_, ?_⟩, fun _ => rfl, fun w => absurd rfl w, ?_, ?_, ?_, ?_⟩
      · show GX gl _ (n + 1) _ 63 n = _
        rw [GX_lo gl _ (n + 1) _ 63 n (by omega), zup_ne _ _ _ (by decide), zup_ne _ _ _ (by decide), zup_self, upd_eq]
      · show GX gl _ (n + 1) _ 64 n = _
        rw [GX_lo gl _ (n + 1) _ 64 n (by omega), zup_ne _ _ _ (by decide), zup_self, upd_eq]
      · show GX gl _ (n + 1) _ 65 n = _
        rw [GX_lo gl _ (n + 1) _ 65 n (by omega), zup_self, upd_eq]
      · show GY gl _ (l + 1) _ 139 l = _
        rw [GY_lo gl _ (l + 1) _ 139 l (by omega), zup_ne _ _ _ (by decide), zup_self, upd_eq]
      · show GY gl _ (l + 1) _ 140 l = _
        rw [GY_lo gl _ (l + 1) _ 140 l (by omega), zup_ne _ _ _ (by decide), zup_ne _ _ _ (by decide), zup_ne _ _ _ (by decide), zup_self, upd_eq]
      · show GY gl _ (l + 1) _ 141 l = _
        rw [GY_lo gl _ (l + 1) _ 141 l (by omega), zup_ne _ _ _ (by decide), zup_ne _ _ _ (by decide), zup_self, upd_eq]
      · show GY gl _ (l + 1) _ 142 l = _
        rw [GY_lo gl _ (l + 1) _ 142 l (by omega), zup_self, upd_eq]
    · obtain ⟨i, rfl⟩ : ∃ i, j = i + 1 := ⟨j - 1, by omega⟩
      have h : i + 1 < gl.length + 1 := h
      obtain ⟨y, fr, pre, post, e1, e2, e3, ⟨e4, e5, e6⟩, e7, e8, e9, e10, e11, e12⟩ := G_rows gl (zup (zup (zup X 63 n (zi x.1)) 64 n (zi ((m + x.2.1.length : Nat) : Int))) 65 n (zi ((m + x.2.1.length + x.2.2.length : Nat) : Int))) (zup (zup (zup (zup Y 140 l (zi (m : Int))) 141 l (zi ((m + x.2.1.length : Nat) : Int))) 139 l (zi x.1)) 142 l (zi ((m + x.2.1.length + x.2.2.length : Nat) : Int))) (n + 1) (m + x.2.1.length + x.2.2.length) (l + 1) hV i (by omega)
      rw [show n + 1 + i = n + (i + 1) by omega] at e4 e5 e6
      rw [show l + 1 + i = l + (i + 1) by omega] at e9 e10 e11 e12
      refine ⟨y, fr, (x.2.1 ++ x.2.2) ++ pre, post, ?_, ?_, e3, ⟨e4, e5, e6⟩, fun w => absurd w z, fun _ => ?_, e9, e10, e11, e12⟩
      · show (x.2.1 ++ x.2.2) ++ gco gl = _
        rw [e1, List.append_assoc (x.2.1 ++ x.2.2)]
      · rw [e2, List.length_append, List.length_append]
        omega
      · show GX gl _ (n + 1) _ 65 (n + (i + 1) - 1) = _
        by_cases y0 : i = 0
        · rw [e7 y0, y0, show n + (0 + 1) - 1 = n by omega, GX_lo gl _ (n + 1) _ 65 n (by omega), zup_self, upd_eq]
        · have := e8 y0
          rw [show n + 1 + i - 1 = n + (i + 1) - 1 by omega] at this
          exact this
theorem RunL_Wf (op arg : Nat → Int) : ∀ (cs : List (Int × Int)) (fr h h' : Nat) (T T' : Nat → Nat), RunL cs h T h' T' → (∀ i, i < cs.length → cs[i]? = some (op (fr + i), arg (fr + i))) → ∃ (H : Nat → Nat) (TT : Nat → Nat → Nat), H fr = h ∧ TT fr = T ∧ H (fr + cs.length) = h' ∧ TT (fr + cs.length) = T' ∧ ∀ k, fr ≤ k → k < fr + cs.length → Tst (op k) (arg k) (H k) (TT k) (H (k + 1)) (TT (k + 1))
  | [], fr, h, h', T, T', R, _ => ⟨fun _ => h, fun _ => T, rfl, rfl, R.1.symm, R.2.symm, fun k h1 h2 => absurd h2 (by simp only [List.length_nil]; omega)⟩
  | p :: cs, fr, h, h', T, T', ⟨h1, T1, t, R⟩, hc => by
    obtain ⟨H, TT, a1, a2, a3, a4, a5⟩ := RunL_Wf op arg cs (fr + 1) h1 h' T1 T' R (fun i hi => by
      have := hc (i + 1) (by rw [List.length_cons]; omega)
      rw [show fr + 1 + i = fr + (i + 1) by omega]
      exact this)
    have h0 := hc 0 (by rw [List.length_cons]; omega)
    have hp : p = (op fr, arg fr) := Option.some.inj h0
    refine ⟨fun k => if k ≤ fr then h else H k, fun k => if k ≤ fr then T else TT k, if_pos (Nat.le_refl _), if_pos (Nat.le_refl _), ?_, ?_, fun k k1 k2 => ?_⟩
    · show (if fr + (cs.length + 1) ≤ fr then h else H (fr + (cs.length + 1))) = h'
      rw [if_neg (by omega), show fr + (cs.length + 1) = fr + 1 + cs.length by omega]
      exact a3
    · show (if fr + (cs.length + 1) ≤ fr then T else TT (fr + (cs.length + 1))) = T'
      rw [if_neg (by omega), show fr + (cs.length + 1) = fr + 1 + cs.length by omega]
      exact a4
    · rw [List.length_cons] at k2
      show Tst (op k) (arg k) (if k ≤ fr then h else H k) (if k ≤ fr then T else TT k) (if k + 1 ≤ fr then h else H (k + 1)) (if k + 1 ≤ fr then T else TT (k + 1))
      simp only [if_neg (show ¬ k + 1 ≤ fr by omega)]
      by_cases z : k = fr
      · subst z
        simp only [if_pos (Nat.le_refl k)]
        rw [a1, a2]
        rw [hp] at t
        exact t
      · simp only [if_neg (show ¬ k ≤ fr by omega)]
        exact a5 k (by omega) (by omega)
/-- the class lays what it read where the RULES stand -/
def C5 (M : zMu) (sz n : Nat) : zMu := zrw (zrw (zrw (zrw (zup M 57 1 (zi (n : Int))) 58 (va_cpy (M 62) (M 58) 0 0 sz)) 59 (va_cpy (M 63) (M 59) 0 0 n)) 60 (va_cpy (M 64) (M 60) 0 0 n)) 61 (va_cpy (M 65) (M 61) 0 0 n)
theorem F_43 (call : zC) (len : Nat) (M : zMu) (ν : zNu) (x : Int32) (sz n : Nat) (hsz : sz ≤ 800) (hn : n ≤ 16) (e7 : M 57 7 = zi (sz : Int)) (e6 : M 57 6 = zi (n : Int)) : zE zc_X7_read call 43 [.ref 57, .int x] [] (zm len M ν) = some (.int (zi 1), zm len (C5 M sz n) ν) := by
  have t7 : (M 57 7).toInt = (sz : Int) := by rw [e7, zi_toInt (by omega)]
  have n7 : (M 57 7).toNatClampNeg = sz := by rw [e7, zi_nat (by omega)]; omega
  have cn : (zi (n : Int)).toNatClampNeg = n := by rw [zi_nat (by omega)]; omega
  have ct : (zi (n : Int)).toInt = (n : Int) := zi_toInt (by omega)
  rw [B_X7_read_43, if_pos ⟨⟨by decide, by decide, by rw [t7]; omega⟩, by rw [t7]; show (0 : Int) + (sz : Int) ≤ 800; omega, by rw [t7]; show (0 : Int) + (sz : Int) ≤ 800; omega⟩, n7, e6]
  have s1 : (fun a => if a = 58 then va_cpy ((zup M 57 1 (zi (n : Int))) 62) ((zup M 57 1 (zi (n : Int))) 58) 0 0 sz else (zup M 57 1 (zi (n : Int))) a) = zrw (zup M 57 1 (zi (n : Int))) 58 (va_cpy (M 62) (M 58) 0 0 sz) := rfl
  rw [s1]
  obtain ⟨M1, hM1⟩ : ∃ M1, M1 = zrw (zup M 57 1 (zi (n : Int))) 58 (va_cpy (M 62) (M 58) 0 0 sz) := ⟨_, rfl⟩
  have q1 : M1 57 1 = zi (n : Int) := by rw [hM1]; rfl
  rw [← hM1, B_X7_read_68, q1, ct, cn, if_pos ⟨⟨by decide, by decide, by omega⟩, by show (0 : Int) + (n : Int) ≤ 16; omega, by show (0 : Int) + (n : Int) ≤ 16; omega⟩]
  have s2 : (fun a => if a = 59 then va_cpy (M1 63) (M1 59) 0 0 n else M1 a) = zrw M1 59 (va_cpy (M1 63) (M1 59) 0 0 n) := rfl
  rw [s2]
  obtain ⟨M2, hM2⟩ : ∃ M2, M2 = zrw M1 59 (va_cpy (M1 63) (M1 59) 0 0 n) := ⟨_, rfl⟩
  have q2 : M2 57 1 = zi (n : Int) := by rw [hM2]; exact q1
  rw [← hM2, B_X7_read_85, q2, ct, cn, if_pos ⟨⟨by decide, by decide, by omega⟩, by show (0 : Int) + (n : Int) ≤ 16; omega, by show (0 : Int) + (n : Int) ≤ 16; omega⟩]
  have s3 : (fun a => if a = 60 then va_cpy (M2 64) (M2 60) 0 0 n else M2 a) = zrw M2 60 (va_cpy (M2 64) (M2 60) 0 0 n) := rfl
  rw [s3]
  obtain ⟨M3, hM3⟩ : ∃ M3, M3 = zrw M2 60 (va_cpy (M2 64) (M2 60) 0 0 n) := ⟨_, rfl⟩
  have q3 : M3 57 1 = zi (n : Int) := by rw [hM3]; exact q2
  rw [← hM3, B_X7_read_102, q3, ct, cn, if_pos ⟨⟨by decide, by decide, by omega⟩, by show (0 : Int) + (n : Int) ≤ 16; omega, by show (0 : Int) + (n : Int) ≤ 16; omega⟩, B_X7_read_119]
  have s4 : (fun a => if a = 61 then va_cpy (M3 65) (M3 61) 0 0 n else M3 a) = C5 M sz n := by
    rw [hM3, hM2, hM1]
    rfl
  rw [s4]
  rfl
theorem cpy_at (f g : Nat → Int32) {n i : Nat} (h : i < n) : va_cpy f g 0 0 n i = f i := by
  show (if 0 ≤ i ∧ i < 0 + n then f (0 + (i - 0)) else g i) = f i
  rw [if_pos (by omega), show 0 + (i - 0) = i by omega]
theorem Mm_id (Y : zMu) (r : Nat → Int32) : Mm Y r (Y 143) (Y 144) (Y 145) = zrw Y 92 r := by
  show zrw (zrw (zrw (zrw Y 143 (Y 143)) 144 (Y 144)) 145 (Y 145)) 92 r = _
  rw [zrw_id, zrw_id, zrw_id]
