/-! ASSEMBLY: each call keeps Rel -/
theorem H_0 {len : Nat} (hgr : ∀ (j : Nat) (a : zL) (M : zM) (v : Value) (M' : zM), zF zT0 2047 j a M = some (v, M') → zGr M M') : ∀ a0 a1 a2 : Int32, zAgI len Rel 137 189 [.int a0, .int a1, .int a2] := by
  intro a0 a1 a2 t μ ν ht hR
  obtain ⟨r_num, r_now, r_txt, r_wrd, r_flt, r_tab, r_bal, r_sea, r_fra, r_rul, r_ppl, r_sho, r_flk, r_loa⟩ := hR
  obtain ⟨v, μ1, μ2, A, B, C, F⟩ := ag_step 2039 len μ ν a0 a1 a2 r_num
  exact ⟨v, μ1, ν, μ2, ν, A, B, ⟨C, k_now F (by decide) (by decide) r_now, k_txt F (by decide) (by decide) r_txt, k_wrd F (by decide) r_wrd, k_flt F (by decide) (by decide) r_flt, k_tab F (by decide) rfl rfl r_tab, k_bal F (by decide) (by decide) (Rball_S r_bal), k_sea F (by decide) (by decide) r_sea, k_fra F (by decide) (by decide) r_fra, k_rul F (by decide) (by decide) r_rul, k_ppl F (by decide) (by decide) r_ppl, r_sho, k_flk F (by decide) (by decide) r_flk, k_loa F (by decide) (by decide) r_loa⟩, (hgr _ _ _ _ _ A).2.2.2⟩
theorem H_1 {len : Nat} (hgr : ∀ (j : Nat) (a : zL) (M : zM) (v : Value) (M' : zM), zF zT0 2047 j a M = some (v, M') → zGr M M') : ∀ a0 a1 : Int32, zAgI len Rel 138 190 [.int a0, .int a1] := by
  intro a0 a1 t μ ν ht hR
  obtain ⟨r_num, r_now, r_txt, r_wrd, r_flt, r_tab, r_bal, r_sea, r_fra, r_rul, r_ppl, r_sho, r_flk, r_loa⟩ := hR
  obtain ⟨v, μ1, μ2, A, B, C, F⟩ := ag_good 2039 len μ ν a0 a1 r_num
  exact ⟨v, μ1, ν, μ2, ν, A, B, ⟨C, k_now F (by decide) (by decide) r_now, k_txt F (by decide) (by decide) r_txt, k_wrd F (by decide) r_wrd, k_flt F (by decide) (by decide) r_flt, k_tab F (by decide) rfl rfl r_tab, k_bal F (by decide) (by decide) (Rball_S r_bal), k_sea F (by decide) (by decide) r_sea, k_fra F (by decide) (by decide) r_fra, k_rul F (by decide) (by decide) r_rul, k_ppl F (by decide) (by decide) r_ppl, r_sho, k_flk F (by decide) (by decide) r_flk, k_loa F (by decide) (by decide) r_loa⟩, (hgr _ _ _ _ _ A).2.2.2⟩
theorem H_2 {len : Nat} (hgr : ∀ (j : Nat) (a : zL) (M : zM) (v : Value) (M' : zM), zF zT0 2047 j a M = some (v, M') → zGr M M') : ∀ a0 a1 a2 : Int32, zAgI len Rel 139 191 [.int a0, .int a1, .int a2] := by
  intro a0 a1 a2 t μ ν ht hR
  obtain ⟨r_num, r_now, r_txt, r_wrd, r_flt, r_tab, r_bal, r_sea, r_fra, r_rul, r_ppl, r_sho, r_flk, r_loa⟩ := hR
  obtain ⟨v, μ1, μ2, A, B, C, F⟩ := ag_written 2039 len μ ν a0 a1 a2 r_num
  exact ⟨v, μ1, ν, μ2, ν, A, B, ⟨C, k_now F (by decide) (by decide) r_now, k_txt F (by decide) (by decide) r_txt, k_wrd F (by decide) r_wrd, k_flt F (by decide) (by decide) r_flt, k_tab F (by decide) rfl rfl r_tab, k_bal F (by decide) (by decide) (Rball_S r_bal), k_sea F (by decide) (by decide) r_sea, k_fra F (by decide) (by decide) r_fra, k_rul F (by decide) (by decide) r_rul, k_ppl F (by decide) (by decide) r_ppl, r_sho, k_flk F (by decide) (by decide) r_flk, k_loa F (by decide) (by decide) r_loa⟩, (hgr _ _ _ _ _ A).2.2.2⟩
theorem H_3 {len : Nat} (hgr : ∀ (j : Nat) (a : zL) (M : zM) (v : Value) (M' : zM), zF zT0 2047 j a M = some (v, M') → zGr M M') : zAgI len Rel 140 192 [] := by
  intro t μ ν ht hR
  obtain ⟨r_num, r_now, r_txt, r_wrd, r_flt, r_tab, r_bal, r_sea, r_fra, r_rul, r_ppl, r_sho, r_flk, r_loa⟩ := hR
  obtain ⟨v, μ1, μ2, A, B, C, F⟩ := ag_year 2039 len μ ν  r_now
  exact ⟨v, μ1, ν, μ2, ν, A, B, ⟨k_num F (by decide) r_num, C, k_txt F (by decide) (by decide) r_txt, k_wrd F (by decide) r_wrd, k_flt F (by decide) (by decide) r_flt, k_tab F (by decide) rfl rfl r_tab, k_bal F (by decide) (by decide) (Rball_S r_bal), k_sea F (by decide) (by decide) r_sea, k_fra F (by decide) (by decide) r_fra, k_rul F (by decide) (by decide) r_rul, k_ppl F (by decide) (by decide) r_ppl, r_sho, k_flk F (by decide) (by decide) r_flk, k_loa F (by decide) (by decide) r_loa⟩, (hgr _ _ _ _ _ A).2.2.2⟩
theorem H_4 {len : Nat} (hgr : ∀ (j : Nat) (a : zL) (M : zM) (v : Value) (M' : zM), zF zT0 2047 j a M = some (v, M') → zGr M M') : ∀ a0 a1 a2 a3 a4 : Int32, zAgI len Rel 141 194 [.int a0, .int a1, .int a2, .int a3, .int a4] := by
  intro a0 a1 a2 a3 a4 t μ ν ht hR
  obtain ⟨r_num, r_now, r_txt, r_wrd, r_flt, r_tab, r_bal, r_sea, r_fra, r_rul, r_ppl, r_sho, r_flk, r_loa⟩ := hR
  obtain ⟨v, μ1, μ2, A, B, C, F, G⟩ := ag_feed 2039 len μ ν a0 a1 a2 a3 a4 r_txt
  exact ⟨v, μ1, ν, μ2, ν, A, B, ⟨k_num F (by decide) r_num, k_now F (by decide) (by decide) r_now, C, k_wrd F (by decide) r_wrd, ⟨by rw [G 7 (by decide), F.2 14 (by decide)]; exact r_flt.1, by rw [G 8 (by decide), F.2 15 (by decide)]; exact r_flt.2⟩, k_tab F (by decide) rfl rfl r_tab, k_bal F (by decide) (by decide) (Rball_S r_bal), k_sea F (by decide) (by decide) r_sea, k_fra F (by decide) (by decide) r_fra, k_rul F (by decide) (by decide) r_rul, k_ppl F (by decide) (by decide) r_ppl, r_sho, k_flk F (by decide) (by decide) r_flk, k_loa F (by decide) (by decide) r_loa⟩, (hgr _ _ _ _ _ A).2.2.2⟩
theorem H_5 {len : Nat} (hgr : ∀ (j : Nat) (a : zL) (M : zM) (v : Value) (M' : zM), zF zT0 2047 j a M = some (v, M') → zGr M M') : ∀ a0 : Int32, zAgI len Rel 142 195 [.int a0] := by
  intro a0 t μ ν ht hR
  obtain ⟨r_num, r_now, r_txt, r_wrd, r_flt, r_tab, r_bal, r_sea, r_fra, r_rul, r_ppl, r_sho, r_flk, r_loa⟩ := hR
  obtain ⟨v, μ1, μ2, A, B, C, F, G⟩ := ag_end2 2039 len μ ν a0 r_txt
  exact ⟨v, μ1, ν, μ2, ν, A, B, ⟨k_num F (by decide) r_num, k_now F (by decide) (by decide) r_now, C, k_wrd F (by decide) r_wrd, ⟨by rw [G 7 (by decide), F.2 14 (by decide)]; exact r_flt.1, by rw [G 8 (by decide), F.2 15 (by decide)]; exact r_flt.2⟩, k_tab F (by decide) rfl rfl r_tab, k_bal F (by decide) (by decide) (Rball_S r_bal), k_sea F (by decide) (by decide) r_sea, k_fra F (by decide) (by decide) r_fra, k_rul F (by decide) (by decide) r_rul, k_ppl F (by decide) (by decide) r_ppl, r_sho, k_flk F (by decide) (by decide) r_flk, k_loa F (by decide) (by decide) r_loa⟩, (hgr _ _ _ _ _ A).2.2.2⟩
theorem H_6 {len : Nat} (hgr : ∀ (j : Nat) (a : zL) (M : zM) (v : Value) (M' : zM), zF zT0 2047 j a M = some (v, M') → zGr M M') : ∀ a0 : Int32, zAgI len Rel 143 220 [.int a0] := by
  intro a0 t μ ν ht hR
  obtain ⟨r_num, r_now, r_txt, r_wrd, r_flt, r_tab, r_bal, r_sea, r_fra, r_rul, r_ppl, r_sho, r_flk, r_loa⟩ := hR
  obtain ⟨v, μ1, μ2, ν2, A, B, C, F, N⟩ := ag_tablet 2007 len μ ν a0 r_txt r_num r_wrd r_tab r_now
  exact ⟨v, μ1, ν, μ2, ν2, A, B, ⟨k_num F (by decide) r_num, k_now F (by decide) (by decide) r_now, C.1, k_wrd F (by decide) r_wrd, C.2.2, C.2.1, k_bal F (by decide) (by decide) (Rball_S r_bal), k_sea F (by decide) (by decide) r_sea, k_fra F (by decide) (by decide) r_fra, k_rul F (by decide) (by decide) r_rul, k_ppl F (by decide) (by decide) r_ppl, (by show ν2 67 7 = ν2 92 82; rw [N 67 (by decide) (by decide) (by decide) (by decide) (by decide) (by decide), N 92 (by decide) (by decide) (by decide) (by decide) (by decide) (by decide)]; exact r_sho), k_flk F (by decide) (by decide) r_flk, k_loa F (by decide) (by decide) r_loa⟩, (hgr _ _ _ _ _ A).2.2.2⟩
theorem H_7 {len : Nat} (hgr : ∀ (j : Nat) (a : zL) (M : zM) (v : Value) (M' : zM), zF zT0 2047 j a M = some (v, M') → zGr M M') : zAgI len Rel 144 263 [] := by
  intro t μ ν ht hR
  obtain ⟨r_num, r_now, r_txt, r_wrd, r_flt, r_tab, r_bal, r_sea, r_fra, r_rul, r_ppl, r_sho, r_flk, r_loa⟩ := hR
  obtain ⟨v, μ1, μ2, A, B, C, F⟩ := ag_rules 2007 len μ ν  r_txt r_rul r_wrd
  exact ⟨v, μ1, ν, μ2, ν, A, B, ⟨k_num F (by decide) r_num, k_now F (by decide) (by decide) r_now, C.1, k_wrd F (by decide) r_wrd, C.2.2, k_tab F (by decide) rfl rfl r_tab, k_bal F (by decide) (by decide) (Rball_S r_bal), k_sea F (by decide) (by decide) r_sea, k_fra F (by decide) (by decide) r_fra, C.2.1, k_ppl F (by decide) (by decide) r_ppl, r_sho, k_flk F (by decide) (by decide) r_flk, k_loa F (by decide) (by decide) r_loa⟩, (hgr _ _ _ _ _ A).2.2.2⟩
theorem H_8 {len : Nat} (hgr : ∀ (j : Nat) (a : zL) (M : zM) (v : Value) (M' : zM), zF zT0 2047 j a M = some (v, M') → zGr M M') : ∀ a0 : Int32, zAgI len Rel 145 206 [.int a0] := by
  intro a0 t μ ν ht hR
  obtain ⟨r_num, r_now, r_txt, r_wrd, r_flt, r_tab, r_bal, r_sea, r_fra, r_rul, r_ppl, r_sho, r_flk, r_loa⟩ := hR
  obtain ⟨v, μ1, μ2, A, B, C, F⟩ := ag_fault 2039 len μ ν a0 r_flt
  exact ⟨v, μ1, ν, μ2, ν, A, B, ⟨k_num F (by decide) r_num, k_now F (by decide) (by decide) r_now, k_txt F (by decide) (by decide) r_txt, k_wrd F (by decide) r_wrd, C, k_tab F (by decide) rfl rfl r_tab, k_bal F (by decide) (by decide) (Rball_S r_bal), k_sea F (by decide) (by decide) r_sea, k_fra F (by decide) (by decide) r_fra, k_rul F (by decide) (by decide) r_rul, k_ppl F (by decide) (by decide) r_ppl, r_sho, k_flk F (by decide) (by decide) r_flk, k_loa F (by decide) (by decide) r_loa⟩, (hgr _ _ _ _ _ A).2.2.2⟩
theorem H_9 {len : Nat} (hgr : ∀ (j : Nat) (a : zL) (M : zM) (v : Value) (M' : zM), zF zT0 2047 j a M = some (v, M') → zGr M M') : ∀ a0 a1 a2 : Int32, zAgI len Rel 146 221 [.int a0, .int a1, .int a2] := by
  intro a0 a1 a2 t μ ν ht hR
  obtain ⟨r_num, r_now, r_txt, r_wrd, r_flt, r_tab, r_bal, r_sea, r_fra, r_rul, r_ppl, r_sho, r_flk, r_loa⟩ := hR
  obtain ⟨v, μ1, μ2, A, B, C, F⟩ := ag_line 2039 len μ ν a0 a1 a2 r_tab
  exact ⟨v, μ1, ν, μ2, ν, A, B, ⟨k_num F (by decide) r_num, k_now F (by decide) (by decide) r_now, k_txt F (by decide) (by decide) r_txt, k_wrd F (by decide) r_wrd, k_flt F (by decide) (by decide) r_flt, C, k_bal F (by decide) (by decide) (Rball_S r_bal), k_sea F (by decide) (by decide) r_sea, k_fra F (by decide) (by decide) r_fra, k_rul F (by decide) (by decide) r_rul, k_ppl F (by decide) (by decide) r_ppl, r_sho, k_flk F (by decide) (by decide) r_flk, k_loa F (by decide) (by decide) r_loa⟩, (hgr _ _ _ _ _ A).2.2.2⟩
theorem H_10 {len : Nat} (hgr : ∀ (j : Nat) (a : zL) (M : zM) (v : Value) (M' : zM), zF zT0 2047 j a M = some (v, M') → zGr M M') : ∀ a0 a1 a2 : Int32, zAgL len Rel 147 222 [.int a0, .int a1, .int a2] := by
  intro a0 a1 a2 t μ ν ht hR
  obtain ⟨r_num, r_now, r_txt, r_wrd, r_flt, r_tab, r_bal, r_sea, r_fra, r_rul, r_ppl, r_sho, r_flk, r_loa⟩ := hR
  obtain ⟨v, μ1, μ2, A, B, C, F⟩ := ag_stock 2039 len μ ν a0 a1 a2 r_tab
  exact ⟨v, μ1, ν, μ2, ν, A, B, ⟨k_num F (by decide) r_num, k_now F (by decide) (by decide) r_now, k_txt F (by decide) (by decide) r_txt, k_wrd F (by decide) r_wrd, k_flt F (by decide) (by decide) r_flt, C, k_bal F (by decide) (by decide) (Rball_S r_bal), k_sea F (by decide) (by decide) r_sea, k_fra F (by decide) (by decide) r_fra, k_rul F (by decide) (by decide) r_rul, k_ppl F (by decide) (by decide) r_ppl, r_sho, k_flk F (by decide) (by decide) r_flk, k_loa F (by decide) (by decide) r_loa⟩, (hgr _ _ _ _ _ A).2.2.2⟩
theorem H_11 {len : Nat} (hgr : ∀ (j : Nat) (a : zL) (M : zM) (v : Value) (M' : zM), zF zT0 2047 j a M = some (v, M') → zGr M M') : ∀ a0 a1 : Int32, zAgI len Rel 148 225 [.int a0, .int a1] := by
  intro a0 a1 t μ ν ht hR
  obtain ⟨r_num, r_now, r_txt, r_wrd, r_flt, r_tab, r_bal, r_sea, r_fra, r_rul, r_ppl, r_sho, r_flk, r_loa⟩ := hR
  obtain ⟨v, μ1, μ2, A, B, C, F⟩ := ag_weight 2039 len t μ ν a0 a1 ht r_bal
  exact ⟨v, μ1, ν, μ2, ν, A, B, ⟨k_num F (by decide) r_num, k_now F (by decide) (by decide) r_now, k_txt F (by decide) (by decide) r_txt, k_wrd F (by decide) r_wrd, k_flt F (by decide) (by decide) r_flt, k_tab F (by decide) rfl rfl r_tab, C, k_sea F (by decide) (by decide) r_sea, k_fra F (by decide) (by decide) r_fra, k_rul F (by decide) (by decide) r_rul, k_ppl F (by decide) (by decide) r_ppl, r_sho, k_flk F (by decide) (by decide) r_flk, k_loa F (by decide) (by decide) r_loa⟩, (hgr _ _ _ _ _ A).2.2.2⟩
theorem H_12 {len : Nat} (hgr : ∀ (j : Nat) (a : zL) (M : zM) (v : Value) (M' : zM), zF zT0 2047 j a M = some (v, M') → zGr M M') : ∀ a0 a1 a2 : Int32, zAgI len Rel 149 226 [.int a0, .int a1, .int a2] := by
  intro a0 a1 a2 t μ ν ht hR
  obtain ⟨r_num, r_now, r_txt, r_wrd, r_flt, r_tab, r_bal, r_sea, r_fra, r_rul, r_ppl, r_sho, r_flk, r_loa⟩ := hR
  obtain ⟨v, μ1, μ2, A, B, C, F⟩ := ag_mark 2039 len t μ ν a0 a1 a2 ht r_bal
  exact ⟨v, μ1, ν, μ2, ν, A, B, ⟨k_num F (by decide) r_num, k_now F (by decide) (by decide) r_now, k_txt F (by decide) (by decide) r_txt, k_wrd F (by decide) r_wrd, k_flt F (by decide) (by decide) r_flt, k_tab F (by decide) rfl rfl r_tab, C, k_sea F (by decide) (by decide) r_sea, k_fra F (by decide) (by decide) r_fra, k_rul F (by decide) (by decide) r_rul, k_ppl F (by decide) (by decide) r_ppl, r_sho, k_flk F (by decide) (by decide) r_flk, k_loa F (by decide) (by decide) r_loa⟩, (hgr _ _ _ _ _ A).2.2.2⟩
theorem H_13 {len : Nat} (hgr : ∀ (j : Nat) (a : zL) (M : zM) (v : Value) (M' : zM), zF zT0 2047 j a M = some (v, M') → zGr M M') : ∀ a0 a1 a2 : Int32, zAgI len Rel 150 227 [.int a0, .int a1, .int a2] := by
  intro a0 a1 a2 t μ ν ht hR
  obtain ⟨r_num, r_now, r_txt, r_wrd, r_flt, r_tab, r_bal, r_sea, r_fra, r_rul, r_ppl, r_sho, r_flk, r_loa⟩ := hR
  obtain ⟨v, μ1, μ2, A, B, C, F⟩ := ag_tell 2039 len t μ ν a0 a1 a2 ht r_bal
  exact ⟨v, μ1, ν, μ2, ν, A, B, ⟨k_num F (by decide) r_num, k_now F (by decide) (by decide) r_now, k_txt F (by decide) (by decide) r_txt, k_wrd F (by decide) r_wrd, k_flt F (by decide) (by decide) r_flt, k_tab F (by decide) rfl rfl r_tab, C, k_sea F (by decide) (by decide) r_sea, k_fra F (by decide) (by decide) r_fra, k_rul F (by decide) (by decide) r_rul, k_ppl F (by decide) (by decide) r_ppl, r_sho, k_flk F (by decide) (by decide) r_flk, k_loa F (by decide) (by decide) r_loa⟩, (hgr _ _ _ _ _ A).2.2.2⟩
theorem H_14 {len : Nat} (hgr : ∀ (j : Nat) (a : zL) (M : zM) (v : Value) (M' : zM), zF zT0 2047 j a M = some (v, M') → zGr M M') : ∀ a0 a1 : Int32, zAgI len Rel 151 231 [.int a0, .int a1] := by
  intro a0 a1 t μ ν ht hR
  obtain ⟨r_num, r_now, r_txt, r_wrd, r_flt, r_tab, r_bal, r_sea, r_fra, r_rul, r_ppl, r_sho, r_flk, r_loa⟩ := hR
  obtain ⟨v, μ1, μ2, A, B, C, F⟩ := ag_ball 2039 len t μ ν a0 a1 ht r_bal
  exact ⟨v, μ1, ν, μ2, ν, A, B, ⟨k_num F (by decide) r_num, k_now F (by decide) (by decide) r_now, k_txt F (by decide) (by decide) r_txt, k_wrd F (by decide) r_wrd, k_flt F (by decide) (by decide) r_flt, k_tab F (by decide) rfl rfl r_tab, C, k_sea F (by decide) (by decide) r_sea, k_fra F (by decide) (by decide) r_fra, k_rul F (by decide) (by decide) r_rul, k_ppl F (by decide) (by decide) r_ppl, r_sho, k_flk F (by decide) (by decide) r_flk, k_loa F (by decide) (by decide) r_loa⟩, (hgr _ _ _ _ _ A).2.2.2⟩
theorem H_15 {len : Nat} (hgr : ∀ (j : Nat) (a : zL) (M : zM) (v : Value) (M' : zM), zF zT0 2047 j a M = some (v, M') → zGr M M') : zAgI len Rel 152 233 [] := by
  intro t μ ν ht hR
  obtain ⟨r_num, r_now, r_txt, r_wrd, r_flt, r_tab, r_bal, r_sea, r_fra, r_rul, r_ppl, r_sho, r_flk, r_loa⟩ := hR
  obtain ⟨v, μ1, μ2, A, B, C, F⟩ := ag_seal8 2039 len μ ν  r_sea
  exact ⟨v, μ1, ν, μ2, ν, A, B, ⟨k_num F (by decide) r_num, k_now F (by decide) (by decide) r_now, k_txt F (by decide) (by decide) r_txt, k_wrd F (by decide) r_wrd, k_flt F (by decide) (by decide) r_flt, k_tab F (by decide) rfl rfl r_tab, k_bal F (by decide) (by decide) (Rball_S r_bal), C, k_fra F (by decide) (by decide) r_fra, k_rul F (by decide) (by decide) r_rul, k_ppl F (by decide) (by decide) r_ppl, r_sho, k_flk F (by decide) (by decide) r_flk, k_loa F (by decide) (by decide) r_loa⟩, (hgr _ _ _ _ _ A).2.2.2⟩
theorem H_16 {len : Nat} (hgr : ∀ (j : Nat) (a : zL) (M : zM) (v : Value) (M' : zM), zF zT0 2047 j a M = some (v, M') → zGr M M') : ∀ a0 a1 : Int32, zAgI len Rel 153 234 [.int a0, .int a1] := by
  intro a0 a1 t μ ν ht hR
  obtain ⟨r_num, r_now, r_txt, r_wrd, r_flt, r_tab, r_bal, r_sea, r_fra, r_rul, r_ppl, r_sho, r_flk, r_loa⟩ := hR
  obtain ⟨v, μ1, μ2, A, B, C, F⟩ := ag_over8 2039 len μ ν a0 a1 r_sea
  exact ⟨v, μ1, ν, μ2, ν, A, B, ⟨k_num F (by decide) r_num, k_now F (by decide) (by decide) r_now, k_txt F (by decide) (by decide) r_txt, k_wrd F (by decide) r_wrd, k_flt F (by decide) (by decide) r_flt, k_tab F (by decide) rfl rfl r_tab, k_bal F (by decide) (by decide) (Rball_S r_bal), C, k_fra F (by decide) (by decide) r_fra, k_rul F (by decide) (by decide) r_rul, k_ppl F (by decide) (by decide) r_ppl, r_sho, k_flk F (by decide) (by decide) r_flk, k_loa F (by decide) (by decide) r_loa⟩, (hgr _ _ _ _ _ A).2.2.2⟩
theorem H_17 {len : Nat} (hgr : ∀ (j : Nat) (a : zL) (M : zM) (v : Value) (M' : zM), zF zT0 2047 j a M = some (v, M') → zGr M M') : ∀ a0 : Int32, zAgI len Rel 154 240 [.int a0] := by
  intro a0 t μ ν ht hR
  obtain ⟨r_num, r_now, r_txt, r_wrd, r_flt, r_tab, r_bal, r_sea, r_fra, r_rul, r_ppl, r_sho, r_flk, r_loa⟩ := hR
  obtain ⟨v, μ1, μ2, A, B, C, F⟩ := ag_order 2039 len μ ν a0 r_sea
  exact ⟨v, μ1, ν, μ2, ν, A, B, ⟨k_num F (by decide) r_num, k_now F (by decide) (by decide) r_now, k_txt F (by decide) (by decide) r_txt, k_wrd F (by decide) r_wrd, k_flt F (by decide) (by decide) r_flt, k_tab F (by decide) rfl rfl r_tab, k_bal F (by decide) (by decide) (Rball_S r_bal), C, k_fra F (by decide) (by decide) r_fra, k_rul F (by decide) (by decide) r_rul, k_ppl F (by decide) (by decide) r_ppl, r_sho, k_flk F (by decide) (by decide) r_flk, k_loa F (by decide) (by decide) r_loa⟩, (hgr _ _ _ _ _ A).2.2.2⟩
theorem H_18 {len : Nat} (hgr : ∀ (j : Nat) (a : zL) (M : zM) (v : Value) (M' : zM), zF zT0 2047 j a M = some (v, M') → zGr M M') : ∀ a0 a1 : Int32, zAgI len Rel 155 241 [.int a0, .int a1] := by
  intro a0 a1 t μ ν ht hR
  obtain ⟨r_num, r_now, r_txt, r_wrd, r_flt, r_tab, r_bal, r_sea, r_fra, r_rul, r_ppl, r_sho, r_flk, r_loa⟩ := hR
  obtain ⟨v, μ1, μ2, A, B, C, F⟩ := ag_ahead 2039 len μ ν a0 a1 r_sea
  exact ⟨v, μ1, ν, μ2, ν, A, B, ⟨k_num F (by decide) r_num, k_now F (by decide) (by decide) r_now, k_txt F (by decide) (by decide) r_txt, k_wrd F (by decide) r_wrd, k_flt F (by decide) (by decide) r_flt, k_tab F (by decide) rfl rfl r_tab, k_bal F (by decide) (by decide) (Rball_S r_bal), C, k_fra F (by decide) (by decide) r_fra, k_rul F (by decide) (by decide) r_rul, k_ppl F (by decide) (by decide) r_ppl, r_sho, k_flk F (by decide) (by decide) r_flk, k_loa F (by decide) (by decide) r_loa⟩, (hgr _ _ _ _ _ A).2.2.2⟩
theorem H_19 {len : Nat} (hgr : ∀ (j : Nat) (a : zL) (M : zM) (v : Value) (M' : zM), zF zT0 2047 j a M = some (v, M') → zGr M M') : ∀ a0 : Int32, zAgI len Rel 156 243 [.int a0] := by
  intro a0 t μ ν ht hR
  obtain ⟨r_num, r_now, r_txt, r_wrd, r_flt, r_tab, r_bal, r_sea, r_fra, r_rul, r_ppl, r_sho, r_flk, r_loa⟩ := hR
  obtain ⟨v, μ1, μ2, A, B, C, F⟩ := ag_fragment 2039 len μ ν a0 r_fra
  exact ⟨v, μ1, ν, μ2, ν, A, B, ⟨k_num F (by decide) r_num, k_now F (by decide) (by decide) r_now, k_txt F (by decide) (by decide) r_txt, k_wrd F (by decide) r_wrd, k_flt F (by decide) (by decide) r_flt, k_tab F (by decide) rfl rfl r_tab, k_bal F (by decide) (by decide) (Rball_S r_bal), k_sea F (by decide) (by decide) r_sea, C, k_rul F (by decide) (by decide) r_rul, k_ppl F (by decide) (by decide) r_ppl, r_sho, k_flk F (by decide) (by decide) r_flk, k_loa F (by decide) (by decide) r_loa⟩, (hgr _ _ _ _ _ A).2.2.2⟩
theorem H_20 {len : Nat} (hgr : ∀ (j : Nat) (a : zL) (M : zM) (v : Value) (M' : zM), zF zT0 2047 j a M = some (v, M') → zGr M M') : ∀ a0 a1 a2 a3 : Int32, a1 = 0 ∨ a1 = 1 → zAgI len Rel 157 244 [.int a0, .int a1, .int a2, .int a3] := by
  intro a0 a1 a2 a3 _ t μ ν ht hR
  obtain ⟨r_num, r_now, r_txt, r_wrd, r_flt, r_tab, r_bal, r_sea, r_fra, r_rul, r_ppl, r_sho, r_flk, r_loa⟩ := hR
  obtain ⟨v, μ1, μ2, A, B, C, F⟩ := ag_edge 2039 len μ ν a0 a1 a2 a3 r_fra
  exact ⟨v, μ1, ν, μ2, ν, A, B, ⟨k_num F (by decide) r_num, k_now F (by decide) (by decide) r_now, k_txt F (by decide) (by decide) r_txt, k_wrd F (by decide) r_wrd, k_flt F (by decide) (by decide) r_flt, k_tab F (by decide) rfl rfl r_tab, k_bal F (by decide) (by decide) (Rball_S r_bal), k_sea F (by decide) (by decide) r_sea, C, k_rul F (by decide) (by decide) r_rul, k_ppl F (by decide) (by decide) r_ppl, r_sho, k_flk F (by decide) (by decide) r_flk, k_loa F (by decide) (by decide) r_loa⟩, (hgr _ _ _ _ _ A).2.2.2⟩
theorem H_21 {len : Nat} (hgr : ∀ (j : Nat) (a : zL) (M : zM) (v : Value) (M' : zM), zF zT0 2047 j a M = some (v, M') → zGr M M') : ∀ a0 a1 : Int32, zAgI len Rel 158 248 [.int a0, .int a1] := by
  intro a0 a1 t μ ν ht hR
  obtain ⟨r_num, r_now, r_txt, r_wrd, r_flt, r_tab, r_bal, r_sea, r_fra, r_rul, r_ppl, r_sho, r_flk, r_loa⟩ := hR
  obtain ⟨v, μ1, μ2, A, B, C, F⟩ := ag_row 2039 len μ ν a0 a1 r_fra
  exact ⟨v, μ1, ν, μ2, ν, A, B, ⟨k_num F (by decide) r_num, k_now F (by decide) (by decide) r_now, k_txt F (by decide) (by decide) r_txt, k_wrd F (by decide) r_wrd, k_flt F (by decide) (by decide) r_flt, k_tab F (by decide) rfl rfl r_tab, k_bal F (by decide) (by decide) (Rball_S r_bal), k_sea F (by decide) (by decide) r_sea, C, k_rul F (by decide) (by decide) r_rul, k_ppl F (by decide) (by decide) r_ppl, r_sho, k_flk F (by decide) (by decide) r_flk, k_loa F (by decide) (by decide) r_loa⟩, (hgr _ _ _ _ _ A).2.2.2⟩
theorem H_22 {len : Nat} (hgr : ∀ (j : Nat) (a : zL) (M : zM) (v : Value) (M' : zM), zF zT0 2047 j a M = some (v, M') → zGr M M') : ∀ a0 a1 a2 : Int32, zAgI len Rel 159 251 [.int a0, .int a1, .int a2] := by
  intro a0 a1 a2 t μ ν ht hR
  obtain ⟨r_num, r_now, r_txt, r_wrd, r_flt, r_tab, r_bal, r_sea, r_fra, r_rul, r_ppl, r_sho, r_flk, r_loa⟩ := hR
  obtain ⟨v, μ1, μ2, A, B, C, F⟩ := ag_person 2039 len μ ν a0 a1 a2 r_ppl
  exact ⟨v, μ1, ν, μ2, ν, A, B, ⟨k_num F (by decide) r_num, k_now F (by decide) (by decide) r_now, k_txt F (by decide) (by decide) r_txt, k_wrd F (by decide) r_wrd, k_flt F (by decide) (by decide) r_flt, k_tab F (by decide) rfl rfl r_tab, k_bal F (by decide) (by decide) (Rball_S r_bal), k_sea F (by decide) (by decide) r_sea, k_fra F (by decide) (by decide) r_fra, k_rul F (by decide) (by decide) r_rul, C, r_sho, k_flk F (by decide) (by decide) r_flk, k_loa F (by decide) (by decide) r_loa⟩, (hgr _ _ _ _ _ A).2.2.2⟩
theorem H_23 {len : Nat} (hgr : ∀ (j : Nat) (a : zL) (M : zM) (v : Value) (M' : zM), zF zT0 2047 j a M = some (v, M') → zGr M M') : ∀ a0 a1 : Int32, zAgI len Rel 160 252 [.int a0, .int a1] := by
  intro a0 a1 t μ ν ht hR
  obtain ⟨r_num, r_now, r_txt, r_wrd, r_flt, r_tab, r_bal, r_sea, r_fra, r_rul, r_ppl, r_sho, r_flk, r_loa⟩ := hR
  obtain ⟨v, μ1, μ2, A, B, C, F⟩ := ag_works 2039 len μ ν a0 a1 r_ppl
  exact ⟨v, μ1, ν, μ2, ν, A, B, ⟨k_num F (by decide) r_num, k_now F (by decide) (by decide) r_now, k_txt F (by decide) (by decide) r_txt, k_wrd F (by decide) r_wrd, k_flt F (by decide) (by decide) r_flt, k_tab F (by decide) rfl rfl r_tab, k_bal F (by decide) (by decide) (Rball_S r_bal), k_sea F (by decide) (by decide) r_sea, k_fra F (by decide) (by decide) r_fra, k_rul F (by decide) (by decide) r_rul, C, r_sho, k_flk F (by decide) (by decide) r_flk, k_loa F (by decide) (by decide) r_loa⟩, (hgr _ _ _ _ _ A).2.2.2⟩
theorem H_24 {len : Nat} (hgr : ∀ (j : Nat) (a : zL) (M : zM) (v : Value) (M' : zM), zF zT0 2047 j a M = some (v, M') → zGr M M') : ∀ a0 a1 : Int32, zAgI len Rel 161 268 [.int a0, .int a1] := by
  intro a0 a1 t μ ν ht hR
  obtain ⟨r_num, r_now, r_txt, r_wrd, r_flt, r_tab, r_bal, r_sea, r_fra, r_rul, r_ppl, r_sho, r_flk, r_loa⟩ := hR
  obtain ⟨v, μ1, μ2, A, B, C, F⟩ := ag_store 2039 len μ ν a0 a1 r_ppl
  exact ⟨v, μ1, ν, μ2, ν, A, B, ⟨k_num F (by decide) r_num, k_now F (by decide) (by decide) r_now, k_txt F (by decide) (by decide) r_txt, k_wrd F (by decide) r_wrd, k_flt F (by decide) (by decide) r_flt, k_tab F (by decide) rfl rfl r_tab, k_bal F (by decide) (by decide) (Rball_S r_bal), k_sea F (by decide) (by decide) r_sea, k_fra F (by decide) (by decide) r_fra, k_rul F (by decide) (by decide) r_rul, C, r_sho, k_flk F (by decide) (by decide) r_flk, k_loa F (by decide) (by decide) r_loa⟩, (hgr _ _ _ _ _ A).2.2.2⟩
theorem H_25 {len : Nat} (hgr : ∀ (j : Nat) (a : zL) (M : zM) (v : Value) (M' : zM), zF zT0 2047 j a M = some (v, M') → zGr M M') : ∀ a0 : Int32, zAgI len Rel 162 269 [.int a0] := by
  intro a0 t μ ν ht hR
  obtain ⟨r_num, r_now, r_txt, r_wrd, r_flt, r_tab, r_bal, r_sea, r_fra, r_rul, r_ppl, r_sho, r_flk, r_loa⟩ := hR
  obtain ⟨v, μ1, ν1, μ2, ν2, A, B, C, S, F, N⟩ := ag_month 2037 len μ ν a0 r_ppl r_rul r_sho
  exact ⟨v, μ1, ν1, μ2, ν2, A, B, ⟨k_num F (by decide) r_num, k_now F (by decide) (by decide) r_now, k_txt F (by decide) (by decide) r_txt, k_wrd F (by decide) r_wrd, k_flt F (by decide) (by decide) r_flt, k_tab F (by decide) (N 107 (by decide) (by decide)) (N 108 (by decide) (by decide)) r_tab, k_bal F (by decide) (by decide) (Rball_S r_bal), k_sea F (by decide) (by decide) r_sea, k_fra F (by decide) (by decide) r_fra, C.2, C.1, S, k_flk F (by decide) (by decide) r_flk, k_loa F (by decide) (by decide) r_loa⟩, (hgr _ _ _ _ _ A).2.2.2⟩
theorem H_26 {len : Nat} (hgr : ∀ (j : Nat) (a : zL) (M : zM) (v : Value) (M' : zM), zF zT0 2047 j a M = some (v, M') → zGr M M') : ∀ a0 a1 a2 : Int32, zAgI len Rel 163 270 [.int a0, .int a1, .int a2] := by
  intro a0 a1 a2 t μ ν ht hR
  obtain ⟨r_num, r_now, r_txt, r_wrd, r_flt, r_tab, r_bal, r_sea, r_fra, r_rul, r_ppl, r_sho, r_flk, r_loa⟩ := hR
  obtain ⟨v, μ1, μ2, A, B, C, F⟩ := ag_ration 2037 len μ ν a0 a1 a2 r_ppl r_rul
  exact ⟨v, μ1, ν, μ2, ν, A, B, ⟨k_num F (by decide) r_num, k_now F (by decide) (by decide) r_now, k_txt F (by decide) (by decide) r_txt, k_wrd F (by decide) r_wrd, k_flt F (by decide) (by decide) r_flt, k_tab F (by decide) rfl rfl r_tab, k_bal F (by decide) (by decide) (Rball_S r_bal), k_sea F (by decide) (by decide) r_sea, k_fra F (by decide) (by decide) r_fra, C.2, C.1, r_sho, k_flk F (by decide) (by decide) r_flk, k_loa F (by decide) (by decide) r_loa⟩, (hgr _ _ _ _ _ A).2.2.2⟩
theorem H_27 {len : Nat} (hgr : ∀ (j : Nat) (a : zL) (M : zM) (v : Value) (M' : zM), zF zT0 2047 j a M = some (v, M') → zGr M M') : ∀ a0 a1 : Int32, zAgI len Rel 164 272 [.int a0, .int a1] := by
  intro a0 a1 t μ ν ht hR
  obtain ⟨r_num, r_now, r_txt, r_wrd, r_flt, r_tab, r_bal, r_sea, r_fra, r_rul, r_ppl, r_sho, r_flk, r_loa⟩ := hR
  obtain ⟨v, μ1, μ2, A, B, C, F⟩ := ag_book 2039 len μ ν a0 a1 ⟨r_now, r_flk⟩
  exact ⟨v, μ1, ν, μ2, ν, A, B, ⟨k_num F (by decide) r_num, C.1, k_txt F (by decide) (by decide) r_txt, k_wrd F (by decide) r_wrd, k_flt F (by decide) (by decide) r_flt, k_tab F (by decide) rfl rfl r_tab, k_bal F (by decide) (by decide) (Rball_S r_bal), k_sea F (by decide) (by decide) r_sea, k_fra F (by decide) (by decide) r_fra, k_rul F (by decide) (by decide) r_rul, k_ppl F (by decide) (by decide) r_ppl, r_sho, C.2, k_loa F (by decide) (by decide) r_loa⟩, (hgr _ _ _ _ _ A).2.2.2⟩
theorem H_28 {len : Nat} (hgr : ∀ (j : Nat) (a : zL) (M : zM) (v : Value) (M' : zM), zF zT0 2047 j a M = some (v, M') → zGr M M') : ∀ a0 a1 a2 : Int32, zAgI len Rel 165 273 [.int a0, .int a1, .int a2] := by
  intro a0 a1 a2 t μ ν ht hR
  obtain ⟨r_num, r_now, r_txt, r_wrd, r_flt, r_tab, r_bal, r_sea, r_fra, r_rul, r_ppl, r_sho, r_flk, r_loa⟩ := hR
  obtain ⟨v, μ1, μ2, A, B, C, F⟩ := ag_flock 2039 len μ ν a0 a1 a2 ⟨r_now, r_flk⟩
  exact ⟨v, μ1, ν, μ2, ν, A, B, ⟨k_num F (by decide) r_num, C.1, k_txt F (by decide) (by decide) r_txt, k_wrd F (by decide) r_wrd, k_flt F (by decide) (by decide) r_flt, k_tab F (by decide) rfl rfl r_tab, k_bal F (by decide) (by decide) (Rball_S r_bal), k_sea F (by decide) (by decide) r_sea, k_fra F (by decide) (by decide) r_fra, k_rul F (by decide) (by decide) r_rul, k_ppl F (by decide) (by decide) r_ppl, r_sho, C.2, k_loa F (by decide) (by decide) r_loa⟩, (hgr _ _ _ _ _ A).2.2.2⟩
theorem H_29 {len : Nat} (hgr : ∀ (j : Nat) (a : zL) (M : zM) (v : Value) (M' : zM), zF zT0 2047 j a M = some (v, M') → zGr M M') : ∀ a0 a1 a2 a3 a4 : Int32, zAgI len Rel 166 275 [.int a0, .int a1, .int a2, .int a3, .int a4] := by
  intro a0 a1 a2 a3 a4 t μ ν ht hR
  obtain ⟨r_num, r_now, r_txt, r_wrd, r_flt, r_tab, r_bal, r_sea, r_fra, r_rul, r_ppl, r_sho, r_flk, r_loa⟩ := hR
  obtain ⟨v, μ1, μ2, A, B, C, F⟩ := ag_found 2039 len μ ν a0 a1 a2 a3 a4 ⟨r_now, r_flk⟩
  exact ⟨v, μ1, ν, μ2, ν, A, B, ⟨k_num F (by decide) r_num, C.1, k_txt F (by decide) (by decide) r_txt, k_wrd F (by decide) r_wrd, k_flt F (by decide) (by decide) r_flt, k_tab F (by decide) rfl rfl r_tab, k_bal F (by decide) (by decide) (Rball_S r_bal), k_sea F (by decide) (by decide) r_sea, k_fra F (by decide) (by decide) r_fra, k_rul F (by decide) (by decide) r_rul, k_ppl F (by decide) (by decide) r_ppl, r_sho, C.2, k_loa F (by decide) (by decide) r_loa⟩, (hgr _ _ _ _ _ A).2.2.2⟩
theorem H_30 {len : Nat} (hgr : ∀ (j : Nat) (a : zL) (M : zM) (v : Value) (M' : zM), zF zT0 2047 j a M = some (v, M') → zGr M M') : ∀ a0 a1 a2 a3 : Int32, zAgI len Rel 167 280 [.int a0, .int a1, .int a2, .int a3] := by
  intro a0 a1 a2 a3 t μ ν ht hR
  obtain ⟨r_num, r_now, r_txt, r_wrd, r_flt, r_tab, r_bal, r_sea, r_fra, r_rul, r_ppl, r_sho, r_flk, r_loa⟩ := hR
  obtain ⟨v, μ1, μ2, A, B, C, F⟩ := ag_flockAt 2039 len μ ν a0 a1 a2 a3 ⟨r_now, r_flk⟩
  exact ⟨v, μ1, ν, μ2, ν, A, B, ⟨k_num F (by decide) r_num, C.1, k_txt F (by decide) (by decide) r_txt, k_wrd F (by decide) r_wrd, k_flt F (by decide) (by decide) r_flt, k_tab F (by decide) rfl rfl r_tab, k_bal F (by decide) (by decide) (Rball_S r_bal), k_sea F (by decide) (by decide) r_sea, k_fra F (by decide) (by decide) r_fra, k_rul F (by decide) (by decide) r_rul, k_ppl F (by decide) (by decide) r_ppl, r_sho, C.2, k_loa F (by decide) (by decide) r_loa⟩, (hgr _ _ _ _ _ A).2.2.2⟩
theorem H_31 {len : Nat} (hgr : ∀ (j : Nat) (a : zL) (M : zM) (v : Value) (M' : zM), zF zT0 2047 j a M = some (v, M') → zGr M M') : ∀ a0 a1 : Int32, zAgI len Rel 168 281 [.int a0, .int a1] := by
  intro a0 a1 t μ ν ht hR
  obtain ⟨r_num, r_now, r_txt, r_wrd, r_flt, r_tab, r_bal, r_sea, r_fra, r_rul, r_ppl, r_sho, r_flk, r_loa⟩ := hR
  obtain ⟨v, μ1, μ2, A, B, C, F⟩ := ag_interest 2039 len μ ν a0 a1 ⟨r_now, r_loa⟩
  exact ⟨v, μ1, ν, μ2, ν, A, B, ⟨k_num F (by decide) r_num, C.1, k_txt F (by decide) (by decide) r_txt, k_wrd F (by decide) r_wrd, k_flt F (by decide) (by decide) r_flt, k_tab F (by decide) rfl rfl r_tab, k_bal F (by decide) (by decide) (Rball_S r_bal), k_sea F (by decide) (by decide) r_sea, k_fra F (by decide) (by decide) r_fra, k_rul F (by decide) (by decide) r_rul, k_ppl F (by decide) (by decide) r_ppl, r_sho, k_flk F (by decide) (by decide) r_flk, C.2⟩, (hgr _ _ _ _ _ A).2.2.2⟩
theorem H_32 {len : Nat} (hgr : ∀ (j : Nat) (a : zL) (M : zM) (v : Value) (M' : zM), zF zT0 2047 j a M = some (v, M') → zGr M M') : ∀ a0 a1 a2 : Int32, zAgI len Rel 169 282 [.int a0, .int a1, .int a2] := by
  intro a0 a1 a2 t μ ν ht hR
  obtain ⟨r_num, r_now, r_txt, r_wrd, r_flt, r_tab, r_bal, r_sea, r_fra, r_rul, r_ppl, r_sho, r_flk, r_loa⟩ := hR
  obtain ⟨v, μ1, μ2, A, B, C, F⟩ := ag_loan 2039 len μ ν a0 a1 a2 ⟨r_ppl, r_now, r_loa⟩
  exact ⟨v, μ1, ν, μ2, ν, A, B, ⟨k_num F (by decide) r_num, C.2.1, k_txt F (by decide) (by decide) r_txt, k_wrd F (by decide) r_wrd, k_flt F (by decide) (by decide) r_flt, k_tab F (by decide) rfl rfl r_tab, k_bal F (by decide) (by decide) (Rball_S r_bal), k_sea F (by decide) (by decide) r_sea, k_fra F (by decide) (by decide) r_fra, k_rul F (by decide) (by decide) r_rul, C.1, r_sho, k_flk F (by decide) (by decide) r_flk, C.2.2⟩, (hgr _ _ _ _ _ A).2.2.2⟩
theorem H_33 {len : Nat} (hgr : ∀ (j : Nat) (a : zL) (M : zM) (v : Value) (M' : zM), zF zT0 2047 j a M = some (v, M') → zGr M M') : ∀ a0 a1 a2 : Int32, zAgI len Rel 170 284 [.int a0, .int a1, .int a2] := by
  intro a0 a1 a2 t μ ν ht hR
  obtain ⟨r_num, r_now, r_txt, r_wrd, r_flt, r_tab, r_bal, r_sea, r_fra, r_rul, r_ppl, r_sho, r_flk, r_loa⟩ := hR
  obtain ⟨v, μ1, μ2, A, B, C, F⟩ := ag_pay 2039 len μ ν a0 a1 a2 ⟨r_now, r_loa⟩
  exact ⟨v, μ1, ν, μ2, ν, A, B, ⟨k_num F (by decide) r_num, C.1, k_txt F (by decide) (by decide) r_txt, k_wrd F (by decide) r_wrd, k_flt F (by decide) (by decide) r_flt, k_tab F (by decide) rfl rfl r_tab, k_bal F (by decide) (by decide) (Rball_S r_bal), k_sea F (by decide) (by decide) r_sea, k_fra F (by decide) (by decide) r_fra, k_rul F (by decide) (by decide) r_rul, k_ppl F (by decide) (by decide) r_ppl, r_sho, k_flk F (by decide) (by decide) r_flk, C.2⟩, (hgr _ _ _ _ _ A).2.2.2⟩
theorem H_34 {len : Nat} (hgr : ∀ (j : Nat) (a : zL) (M : zM) (v : Value) (M' : zM), zF zT0 2047 j a M = some (v, M') → zGr M M') : ∀ a0 : Int32, zAgI len Rel 171 285 [.int a0] := by
  intro a0 t μ ν ht hR
  obtain ⟨r_num, r_now, r_txt, r_wrd, r_flt, r_tab, r_bal, r_sea, r_fra, r_rul, r_ppl, r_sho, r_flk, r_loa⟩ := hR
  obtain ⟨v, μ1, μ2, A, B, C, F⟩ := ag_edict 2039 len μ ν a0 ⟨r_now, r_loa⟩
  exact ⟨v, μ1, ν, μ2, ν, A, B, ⟨k_num F (by decide) r_num, C.1, k_txt F (by decide) (by decide) r_txt, k_wrd F (by decide) r_wrd, k_flt F (by decide) (by decide) r_flt, k_tab F (by decide) rfl rfl r_tab, k_bal F (by decide) (by decide) (Rball_S r_bal), k_sea F (by decide) (by decide) r_sea, k_fra F (by decide) (by decide) r_fra, k_rul F (by decide) (by decide) r_rul, k_ppl F (by decide) (by decide) r_ppl, r_sho, k_flk F (by decide) (by decide) r_flk, C.2⟩, (hgr _ _ _ _ _ A).2.2.2⟩
theorem H_35 {len : Nat} (hgr : ∀ (j : Nat) (a : zL) (M : zM) (v : Value) (M' : zM), zF zT0 2047 j a M = some (v, M') → zGr M M') : ∀ a0 a1 a2 : Int32, zAgL len Rel 172 287 [.int a0, .int a1, .int a2] := by
  intro a0 a1 a2 t μ ν ht hR
  obtain ⟨r_num, r_now, r_txt, r_wrd, r_flt, r_tab, r_bal, r_sea, r_fra, r_rul, r_ppl, r_sho, r_flk, r_loa⟩ := hR
  obtain ⟨v, μ1, μ2, A, B, C, F⟩ := ag_owed 2039 len μ ν a0 a1 a2 ⟨r_now, r_loa⟩
  exact ⟨v, μ1, ν, μ2, ν, A, B, ⟨k_num F (by decide) r_num, C.1, k_txt F (by decide) (by decide) r_txt, k_wrd F (by decide) r_wrd, k_flt F (by decide) (by decide) r_flt, k_tab F (by decide) rfl rfl r_tab, k_bal F (by decide) (by decide) (Rball_S r_bal), k_sea F (by decide) (by decide) r_sea, k_fra F (by decide) (by decide) r_fra, k_rul F (by decide) (by decide) r_rul, k_ppl F (by decide) (by decide) r_ppl, r_sho, k_flk F (by decide) (by decide) r_flk, C.2⟩, (hgr _ _ _ _ _ A).2.2.2⟩
theorem H_36 {len : Nat} (hgr : ∀ (j : Nat) (a : zL) (M : zM) (v : Value) (M' : zM), zF zT0 2047 j a M = some (v, M') → zGr M M') : ∀ a0 a1 a2 a3 a4 a5 : Int32, zAgI len Rel 173 291 [.int a0, .int a1, .int a2, .int a3, .int a4, .int a5] := by
  intro a0 a1 a2 a3 a4 a5 t μ ν ht hR
  obtain ⟨r_num, r_now, r_txt, r_wrd, r_flt, r_tab, r_bal, r_sea, r_fra, r_rul, r_ppl, r_sho, r_flk, r_loa⟩ := hR
  obtain ⟨v, μ1, μ2, A, B, F⟩ := ag_field 2039 len μ ν a0 a1 a2 a3 a4 a5 
  exact ⟨v, μ1, ν, μ2, ν, A, B, ⟨k_num F (by decide) r_num, k_now F (by decide) (by decide) r_now, k_txt F (by decide) (by decide) r_txt, k_wrd F (by decide) r_wrd, k_flt F (by decide) (by decide) r_flt, k_tab F (by decide) rfl rfl r_tab, k_bal F (by decide) (by decide) (Rball_S r_bal), k_sea F (by decide) (by decide) r_sea, k_fra F (by decide) (by decide) r_fra, k_rul F (by decide) (by decide) r_rul, k_ppl F (by decide) (by decide) r_ppl, r_sho, k_flk F (by decide) (by decide) r_flk, k_loa F (by decide) (by decide) r_loa⟩, (hgr _ _ _ _ _ A).2.2.2⟩
theorem H_37 {len : Nat} (hgr : ∀ (j : Nat) (a : zL) (M : zM) (v : Value) (M' : zM), zF zT0 2047 j a M = some (v, M') → zGr M M') : ∀ a0 : Int32, zAgL len Rel 174 292 [.int a0] := by
  intro a0 t μ ν ht hR
  obtain ⟨r_num, r_now, r_txt, r_wrd, r_flt, r_tab, r_bal, r_sea, r_fra, r_rul, r_ppl, r_sho, r_flk, r_loa⟩ := hR
  obtain ⟨v, μ1, μ2, A, B, F⟩ := ag_look 2039 len t μ ν a0 r_now r_ppl r_sea r_fra r_flk r_loa r_tab r_rul r_bal r_sho
  exact ⟨v, μ1, ν, μ2, ν, A, B, ⟨k_num F (by decide) r_num, k_now F (by decide) (by decide) r_now, k_txt F (by decide) (by decide) r_txt, k_wrd F (by decide) r_wrd, k_flt F (by decide) (by decide) r_flt, k_tab F (by decide) rfl rfl r_tab, k_bal F (by decide) (by decide) (Rball_S r_bal), k_sea F (by decide) (by decide) r_sea, k_fra F (by decide) (by decide) r_fra, k_rul F (by decide) (by decide) r_rul, k_ppl F (by decide) (by decide) r_ppl, r_sho, k_flk F (by decide) (by decide) r_flk, k_loa F (by decide) (by decide) r_loa⟩, (hgr _ _ _ _ _ A).2.2.2⟩
theorem zpure_h (L : Nat) (xs : Nat → Int32) (hL : L ≤ 3584) (hgr : ∀ (j : Nat) (a : zL) (M : zM) (v : Value) (M' : zM), zF zT0 2047 j a M = some (v, M') → zGr M M') : ∃ Mr : zM, zE zc_L_law (zF zT0 2047) 0 [.ref 0, zU, zU, zU] [] ((L, []), (fun a => if a = 0 then xs else fun _ => 0), fun _ _ => 0) = some (.int 1, Mr) ∧ zlen Mr ≤ 600000 ∧ zsl Mr ≤ 7302250 := by
  obtain ⟨μ2, ν2, E⟩ := law_loop hL Rel_S (H_0 hgr) (H_1 hgr) (H_2 hgr) (H_3 hgr) (H_4 hgr) (H_5 hgr) (H_6 hgr) (H_7 hgr) (H_8 hgr) (H_9 hgr) (H_10 hgr) (H_11 hgr) (H_12 hgr) (H_13 hgr) (H_14 hgr) (H_15 hgr) (H_16 hgr) (H_17 hgr) (H_18 hgr) (H_19 hgr) (H_20 hgr) (H_21 hgr) (H_22 hgr) (H_23 hgr) (H_24 hgr) (H_25 hgr) (H_26 hgr) (H_27 hgr) (H_28 hgr) (H_29 hgr) (H_30 hgr) (H_31 hgr) (H_32 hgr) (H_33 hgr) (H_34 hgr) (H_35 hgr) (H_36 hgr) (H_37 hgr) 513 0 (zmuI (fun a => if a = 0 then xs else fun _ => 0)) (znuI (fun _ _ => 0)) 0 rfl (by omega) (rel0 _ _)
  refine ⟨zm L μ2 ν2, (zinit 2044 L _ _).trans E, ?_, ?_⟩
  · show zSh.length ≤ 600000
    decide +kernel
  · show (zSh.map zsz).sum ≤ 7302250
    decide +kernel
