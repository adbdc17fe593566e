/-! TABLET read: the class's draft, its steps -/
theorem begin_ok (d len : Nat) (ν : zNu) {X : zMu} {ln : Nat → Ln} {n g : Nat} {s : Int} (hn : n < 24) (hg : g < 8) (h : DBd X ln n) : ∃ X', zF zT0 (d + 1) 14 [.ref 11, .int (zi s), .int (zi (g : Int))] (zm len X ν) = some (.null, zm len X' ν) ∧ DMd X' (setL ln n (s, (g : Int), 0, 0, [])) n ∧ frD X X' := by
  obtain ⟨h1, h2, h3, h4⟩ := h
  obtain ⟨o, ho⟩ : ∃ o, o = obF ln n (g : Int) := ⟨_, rfl⟩
  have or := obF_r ln n (g : Int)
  rw [← ho] at or
  obtain ⟨ln', hln⟩ : ∃ ln', ln' = setL ln n (s, (g : Int), 0, 0, []) := ⟨_, rfl⟩
  have lo : ∀ i, i < n → ln' i = ln i := fun i hi => by rw [hln]; exact setL_o ln _ (by omega)
  have lnn : ln' n = (s, (g : Int), 0, 0, []) := by rw [hln]; exact setL_n ln n _
  have ob : ∀ x, obF ln' n x = obF ln n x := obF_c n lo
  have bk : ∀ i, i < n → bkF ln' i = bkF ln i := fun i hi => bkF_cc lo hi
  have bkn : bkF ln' n = if o = -1 then n else o.toNat := by
    unfold bkF
    rw [lnn, ob, ho]
  have bkni : (bkF ln' n : Int) = if o = -1 then (n : Int) else o := by
    rw [bkn]
    split <;> omega
  rw [← hln]
  refine ⟨_, F_begin d len ν X n g s o hn hg h1 (by rw [ho]; exact h3 g hg) or, ⟨?_, fun i hi => ?_, fun x hx => ?_, fun b hb hbk => ?_⟩, ?_⟩
  · by_cases z : o = -1
    · rw [if_pos z, if_pos z]
      simp (disch := omega) only [newX, begX, zup_at, upd_eq, upd_ne, ne_eq, Nat.reduceEqDiff, ↓reduceIte, if_true, if_false]
      exact h1
    · rw [if_neg z, if_neg z]
      simp (disch := omega) only [begX, zup_at, upd_eq, upd_ne, ne_eq, Nat.reduceEqDiff, ↓reduceIte, if_true, if_false]
      exact h1
  · by_cases z : i = n
    · subst z
      by_cases y : o = -1
      · rw [if_pos y, if_pos y]
        refine ⟨?_, ?_, ?_, ?_⟩
        · rw [lnn]; simp (disch := omega) only [newX, begX, zup_at, upd_eq, upd_ne, ne_eq, Nat.reduceEqDiff, ↓reduceIte, if_true, if_false]
        · rw [lnn]; simp (disch := omega) only [newX, begX, zup_at, upd_eq, upd_ne, ne_eq, Nat.reduceEqDiff, ↓reduceIte, if_true, if_false]
        · rw [lnn]; simp (disch := omega) only [newX, begX, zup_at, upd_eq, upd_ne, ne_eq, Nat.reduceEqDiff, ↓reduceIte, if_true, if_false]
        · rw [bkni, if_pos y]; simp (disch := omega) only [newX, begX, zup_at, upd_eq, upd_ne, ne_eq, Nat.reduceEqDiff, ↓reduceIte, if_true, if_false]
      · rw [if_neg y, if_neg y]
        refine ⟨?_, ?_, ?_, ?_⟩
        · rw [lnn]; simp (disch := omega) only [begX, zup_at, upd_eq, upd_ne, ne_eq, Nat.reduceEqDiff, ↓reduceIte, if_true, if_false]
        · rw [lnn]; simp (disch := omega) only [begX, zup_at, upd_eq, upd_ne, ne_eq, Nat.reduceEqDiff, ↓reduceIte, if_true, if_false]
        · rw [lnn]; simp (disch := omega) only [begX, zup_at, upd_eq, upd_ne, ne_eq, Nat.reduceEqDiff, ↓reduceIte, if_true, if_false]
        · rw [bkni, if_neg y]; simp (disch := omega) only [begX, zup_at, upd_eq, upd_ne, ne_eq, Nat.reduceEqDiff, ↓reduceIte, if_true, if_false]
    · have hi' : i < n := by omega
      obtain ⟨a1, a2, a3, a4⟩ := h2 i hi'
      unfold Dlin
      rw [lo i hi', bk i hi']
      by_cases y : o = -1
      · rw [if_pos y, if_pos y]
        refine ⟨?_, ?_, ?_, ?_⟩
        · simp (disch := omega) only [newX, begX, zup_at, upd_eq, upd_ne, ne_eq, Nat.reduceEqDiff, ↓reduceIte, if_true, if_false]; exact a1
        · simp (disch := omega) only [newX, begX, zup_at, upd_eq, upd_ne, ne_eq, Nat.reduceEqDiff, ↓reduceIte, if_true, if_false]; exact a2
        · simp (disch := omega) only [newX, begX, zup_at, upd_eq, upd_ne, ne_eq, Nat.reduceEqDiff, ↓reduceIte, if_true, if_false]; exact a3
        · simp (disch := omega) only [newX, begX, zup_at, upd_eq, upd_ne, ne_eq, Nat.reduceEqDiff, ↓reduceIte, if_true, if_false]; exact a4
      · rw [if_neg y, if_neg y]
        refine ⟨?_, ?_, ?_, ?_⟩
        · simp (disch := omega) only [begX, zup_at, upd_eq, upd_ne, ne_eq, Nat.reduceEqDiff, ↓reduceIte, if_true, if_false]; exact a1
        · simp (disch := omega) only [begX, zup_at, upd_eq, upd_ne, ne_eq, Nat.reduceEqDiff, ↓reduceIte, if_true, if_false]; exact a2
        · simp (disch := omega) only [begX, zup_at, upd_eq, upd_ne, ne_eq, Nat.reduceEqDiff, ↓reduceIte, if_true, if_false]; exact a3
        · simp (disch := omega) only [begX, zup_at, upd_eq, upd_ne, ne_eq, Nat.reduceEqDiff, ↓reduceIte, if_true, if_false]; exact a4
  · rw [lnn, ob, bkni]
    have e := h3 x hx
    by_cases y : o = -1
    · rw [if_pos y, if_pos y]
      by_cases z : x = g
      · subst z
        rw [if_pos rfl]
        simp (disch := omega) only [newX, begX, zup_at, upd_eq, upd_ne, ne_eq, Nat.reduceEqDiff, ↓reduceIte, if_true, if_false]
      · rw [if_neg (show ¬ (x : Int) = (g : Int) by omega)]
        simp (disch := omega) only [newX, begX, zup_at, upd_eq, upd_ne, ne_eq, Nat.reduceEqDiff, ↓reduceIte, if_true, if_false]
        exact e
    · rw [if_neg y, if_neg y]
      simp (disch := omega) only [begX, zup_at, upd_eq, upd_ne, ne_eq, Nat.reduceEqDiff, ↓reduceIte, if_true, if_false]
      by_cases z : x = g
      · subst z
        rw [if_pos rfl, ho]
        exact e
      · rw [if_neg (show ¬ (x : Int) = (g : Int) by omega)]
        exact e
  · have mk1 : ∀ b, mkF ln' b (n + 1) = mkF ln b n := fun b => by
      rw [mkF_S, mkF_c b n lo, lnn]
      by_cases z : bkF ln' n = b
      · rw [if_pos z]
        exact List.append_nil _
      · rw [if_neg z]
        exact List.append_nil _
    have lo1 : ∀ b, loF ln' b (n + 1) = loF ln b n := fun b => by
      rw [loF_S, loF_c b n lo, lnn]
      exact if_neg (fun q => absurd (show (0 : Int) = 1 from q.2) (by decide))
    by_cases z : b = n
    · have y : o = -1 := by
        by_cases y : o = -1
        · exact y
        · rw [z, bkn, if_neg y] at hbk
          omega
      subst z
      rw [if_pos y, if_pos y]
      refine ⟨?_, ?_, ?_, ?_, ?_, fun j hj => ?_⟩
      · rw [clF_0 ln' b b (Nat.le_refl _)]; simp (disch := omega) only [newX, begX, zup_at, upd_eq, upd_ne, ne_eq, Nat.reduceEqDiff, ↓reduceIte, if_true, if_false]
      · rw [toF_0 ln' b b (Nat.le_refl _)]; simp (disch := omega) only [newX, begX, zup_at, upd_eq, upd_ne, ne_eq, Nat.reduceEqDiff, ↓reduceIte, if_true, if_false]
      · rw [lo1, loF_0 ln b b (Nat.le_refl _)]; simp (disch := omega) only [newX, begX, zup_at, upd_eq, upd_ne, ne_eq, Nat.reduceEqDiff, ↓reduceIte, if_true, if_false]
      · rw [mk1, mkF_0 ln b b (Nat.le_refl _)]; decide
      · rw [mk1, mkF_0 ln b b (Nat.le_refl _)]; simp (disch := omega) only [newX, begX, zup_at, upd_eq, upd_ne, ne_eq, Nat.reduceEqDiff, ↓reduceIte, if_true, if_false]; rfl
      · rw [mk1, mkF_0 ln b b (Nat.le_refl _)]
        have : j = 0 ∨ j = 1 := by omega
        rcases this with w | w <;> subst w
        · refine ⟨?_, ?_, ?_⟩ <;> simp (disch := omega) only [newX, begX, Nat.add_zero, zup_at, upd_eq, upd_ne, ne_eq, Nat.reduceEqDiff, ↓reduceIte, if_true, if_false] <;> rfl
        · refine ⟨?_, ?_, ?_⟩ <;> simp (disch := omega) only [newX, begX, zup_at, upd_eq, upd_ne, ne_eq, Nat.reduceEqDiff, ↓reduceIte, if_true, if_false] <;> rfl
    · have hb' : b < n := by omega
      rw [bk b hb'] at hbk
      obtain ⟨b1, b2, b3, b4⟩ := h4 b hb' hbk
      unfold Dblk
      rw [clF_c b n lo, toF_c b n lo, lo1, mk1]
      by_cases y : o = -1
      · rw [if_pos y, if_pos y]
        refine ⟨?_, ?_, ?_, Mrow_c b4 ?_ (fun j hj => ⟨?_, ?_, ?_⟩)⟩
        · simp (disch := omega) only [newX, begX, zup_at, upd_eq, upd_ne, ne_eq, Nat.reduceEqDiff, ↓reduceIte, if_true, if_false]; exact b1
        · simp (disch := omega) only [newX, begX, zup_at, upd_eq, upd_ne, ne_eq, Nat.reduceEqDiff, ↓reduceIte, if_true, if_false]; exact b2
        · simp (disch := omega) only [newX, begX, zup_at, upd_eq, upd_ne, ne_eq, Nat.reduceEqDiff, ↓reduceIte, if_true, if_false]; exact b3
        · simp (disch := omega) only [newX, begX, zup_at, upd_eq, upd_ne, ne_eq, Nat.reduceEqDiff, ↓reduceIte, if_true, if_false]
        · simp (disch := omega) only [newX, begX, zup_at, upd_eq, upd_ne, ne_eq, Nat.reduceEqDiff, ↓reduceIte, if_true, if_false]
        · simp (disch := omega) only [newX, begX, zup_at, upd_eq, upd_ne, ne_eq, Nat.reduceEqDiff, ↓reduceIte, if_true, if_false]
        · simp (disch := omega) only [newX, begX, zup_at, upd_eq, upd_ne, ne_eq, Nat.reduceEqDiff, ↓reduceIte, if_true, if_false]
      · rw [if_neg y, if_neg y]
        refine ⟨?_, ?_, ?_, Mrow_c b4 ?_ (fun j hj => ⟨?_, ?_, ?_⟩)⟩
        · simp (disch := omega) only [begX, zup_at, upd_eq, upd_ne, ne_eq, Nat.reduceEqDiff, ↓reduceIte, if_true, if_false]; exact b1
        · simp (disch := omega) only [begX, zup_at, upd_eq, upd_ne, ne_eq, Nat.reduceEqDiff, ↓reduceIte, if_true, if_false]; exact b2
        · simp (disch := omega) only [begX, zup_at, upd_eq, upd_ne, ne_eq, Nat.reduceEqDiff, ↓reduceIte, if_true, if_false]; exact b3
        · simp (disch := omega) only [begX, zup_at, upd_eq, upd_ne, ne_eq, Nat.reduceEqDiff, ↓reduceIte, if_true, if_false]
        · simp (disch := omega) only [begX, zup_at, upd_eq, upd_ne, ne_eq, Nat.reduceEqDiff, ↓reduceIte, if_true, if_false]
        · simp (disch := omega) only [begX, zup_at, upd_eq, upd_ne, ne_eq, Nat.reduceEqDiff, ↓reduceIte, if_true, if_false]
        · simp (disch := omega) only [begX, zup_at, upd_eq, upd_ne, ne_eq, Nat.reduceEqDiff, ↓reduceIte, if_true, if_false]
  · by_cases y : o = -1
    · rw [if_pos y, if_pos y]
      unfold newX begX
      repeat (first | exact frD_rf _ | refine frD_up ?_ (by omega))
    · rw [if_neg y, if_neg y]
      unfold begX
      repeat (first | exact frD_rf _ | refine frD_up ?_ (by omega))
theorem dm_blk {X : zMu} {ln : Nat → Ln} {n : Nat} (h : DMd X ln n) : Dblk X ln (bkF ln n) n (n + 1) := h.2.2.2 _ (bkF_le ln n) (bkF_b ln n).1
/-- the numbers of the line in hand change -/
theorem dm_set {X X' : zMu} {ln : Nat → Ln} {n : Nat} {x : Ln} (h : DMd X ln n) (e1 : x.1 = (ln n).1) (e2 : x.2.1 = (ln n).2.1) (f11 : X' 11 = X 11) (f12 : X' 12 = X 12) (f13 : X' 13 = X 13) (f14 : ∀ i, i ≠ n → X' 14 i = X 14 i) (g14 : X' 14 n = zi x.2.2.2.1) (f17 : X' 17 = X 17) (f18 : X' 18 = X 18) (f19 : X' 19 = X 19) (f20 : X' 20 = X 20) (f22 : ∀ b, b ≠ bkF ln n → X' 22 b = X 22 b) (g22 : X' 22 (bkF ln n) = zi (if x.2.2.1 = 1 then (n : Int) else loF ln (bkF ln n) n)) (f23 : ∀ b, b ≠ bkF ln n → X' 23 b = X 23 b) (fM : ∀ r, (r = 24 ∨ r = 25 ∨ r = 26) → ∀ b j, b ≠ bkF ln n → j < 2 → X' r (2 * b + j) = X r (2 * b + j)) (gM : Mrow (mkF ln (bkF ln n) n ++ x.2.2.2.2.map (fun p => (n, p))) X' (bkF ln n)) : DMd X' (setL ln n x) n := by
  obtain ⟨h1, h2, h3, h4⟩ := h
  obtain ⟨ln', hln⟩ : ∃ ln', ln' = setL ln n x := ⟨_, rfl⟩
  have lo : ∀ i, i < n → ln' i = ln i := fun i hi => by rw [hln]; exact setL_o ln _ (by omega)
  have lnn : ln' n = x := by rw [hln]; exact setL_n ln n _
  have ob : ∀ y, obF ln' n y = obF ln n y := obF_c n lo
  have bk : ∀ i, i ≤ n → bkF ln' i = bkF ln i := fun i hi => by
    by_cases z : i = n
    · subst z
      exact bkF_c lo (by rw [lnn, e2])
    · exact bkF_cc lo (by omega)
  rw [← hln]
  refine ⟨by rw [f11]; exact h1, fun i hi => ?_, fun g hg => ?_, fun b hb hbk => ?_⟩
  · obtain ⟨a1, a2, a3, a4⟩ := h2 i hi
    unfold Dlin
    rw [bk i hi, f12, f13, f17]
    by_cases z : i = n
    · subst z
      rw [lnn, e1, e2]
      exact ⟨a1, a2, g14, a4⟩
    · rw [lo i (by omega), f14 i z]
      exact ⟨a1, a2, a3, a4⟩
  · rw [lnn, e2, ob, bk n (Nat.le_refl _), f18]
    exact h3 g hg
  · rw [bk b hb] at hbk
    obtain ⟨b1, b2, b3, b4⟩ := h4 b hb hbk
    unfold Dblk
    rw [clF_c b n lo, toF_c b n lo, loF_S, mkF_S, loF_c b n lo, mkF_c b n lo, bk n (Nat.le_refl _), lnn, f19, f20]
    rw [loF_S] at b3
    rw [mkF_S] at b4
    by_cases z : bkF ln n = b
    · rw [z] at g22 gM
      rw [if_pos z]
      refine ⟨b1, b2, ?_, gM⟩
      rw [g22]
      by_cases y : x.2.2.1 = 1
      · rw [if_pos y, if_pos ⟨z, y⟩]
      · rw [if_neg y, if_neg (fun q => y q.2)]
    · rw [if_neg z] at b4
      rw [if_neg (fun q => z q.1)] at b3
      rw [if_neg z, if_neg (fun q => z q.1), f22 b (fun q => z q.symm)]
      exact ⟨b1, b2, b3, Mrow_c b4 (f23 b (fun q => z q.symm)) (fun j hj => ⟨fM 24 (by omega) b j (fun q => z q.symm) hj, fM 25 (by omega) b j (fun q => z q.symm) hj, fM 26 (by omega) b j (fun q => z q.symm) hj⟩)⟩
