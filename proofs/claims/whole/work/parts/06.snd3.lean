section SND3
variable {I : zI} {own nm : String} {cc : ByteArray} {nL : Nat} {ret : Option FieldType} {pc n t i : Nat}
def zCls (ci : Nat) (C : String) (T : u_T) (N : Nat) (ty : Nat → FieldType) : Prop := vwCl[ci]? = some (C, T, N) ∧ (∀ w ∈ u_ws C T N, w ∈ lw_gd) ∧ (∀ k, k < N → parseFieldDescriptor (T k).2.2.1 = some (ty k)) ∧ ∀ a, a < N → ∀ b, b < N → a ≠ b → (T a).2.1 ≠ (T b).2.1
theorem zset_same {α : Type} {l : List α} {r : Nat} {a : α} (h : l[r]? = some a) : l.set r a = l := by
  apply List.ext_getElem?
  intro j
  by_cases hj : j = r
  · subst hj
    rw [List.getElem?_set_self (List.getElem?_eq_some_iff.mp h).1, h]
  · rw [List.getElem?_set_ne (Ne.symm hj)]
theorem zbeq {a b : Nat} {α : Type} {x y z : α} (h : (bif Nat.beq a b then x else y) = z) (hy : y ≠ z) : a = b ∧ x = z := by
  cases hq : Nat.beq a b with
  | true => rw [hq] at h; exact ⟨Nat.eq_of_beq_eq_true hq, h⟩
  | false => rw [hq] at h; exact absurd h hy
theorem snd_get {ci slot idx : Nat} {C : String} {T : u_T} {N : Nat} {ty : Nat → FieldType} (K : zCls ci C T N ty) (hk0 : slot < N) (hlink : Cond.fieldLink own idx (T slot).1 (T slot).2.1 (T slot).2.2.1 ∈ lw_gd) (hdg : decode cc pc = .ok (.getfield idx, 3)) : zSnd I own nm cc nL ret pc (op_get ci slot (pc + 3)) := by
  refine ⟨lin_get _ _ _, fun p l e R s m args below meth c G d Qf rv M0 Mr C call k hc hk L st M h => ?_⟩
  unfold op_get at h
  split at h
  · split at h
    · rename_i _ r rest _ c0 ks hs
      obtain ⟨hcc, h2⟩ := zbeq h (by nofun)
      clear h
      subst hcc
      split at h2
      · rename_i kd hkd
        have h1 := hk _ _ _ _ h2
        refine ⟨h1.1, fun hg H locs ls hP hS hl => ?_⟩
        refine va_get C.1.1 C.1.2.1 C.1.2.2.2.2.2 K.2.1 C.1.2.2.2.1 C.2.1.2.2.1 hP r (zws_at G M hs) K.1 slot hk0 (C.1.2.2.2.2.2 _ hlink) (fun x hx => hx) (v := zrl G (zfv (M.2.1 (r + 1)) (M.2.2 (r + 1)) slot kd)) ?_ hdg (h1.2 hg H locs ls hP hS hl)
        rw [List.getElem?_mapIdx, hkd]
        rfl
      · cases h2
    · cases h
  · cases h
theorem snd_getN {ci slot idx : Nat} {C host : String} {T : u_T} {N : Nat} {ty : Nat → FieldType} (K : zCls ci C T N ty) (hk0 : slot < N) (hlink : Cond.fieldLinkNest own idx (T slot).1 (T slot).2.1 (T slot).2.2.1 host ∈ lw_nst) (hdg : decode cc pc = .ok (.getfield idx, 3)) : zSnd I own nm cc nL ret pc (op_get ci slot (pc + 3)) := by
  refine ⟨lin_get _ _ _, fun p l e R s m args below meth c G d Qf rv M0 Mr C call k hc hk L st M h => ?_⟩
  unfold op_get at h
  split at h
  · split at h
    · rename_i _ r rest _ c0 ks hs
      obtain ⟨hcc, h2⟩ := zbeq h (by nofun)
      clear h
      subst hcc
      split at h2
      · rename_i kd hkd
        have h1 := hk _ _ _ _ h2
        refine ⟨h1.1, fun hg H locs ls hP hS hl => ?_⟩
        refine va_getN C.1.1 C.1.2.1 C.1.2.2.2.2.2 K.2.1 C.1.2.2.2.1 C.2.1.2.2.1 hP r (zws_at G M hs) K.1 slot hk0 (va_Nw.use rfl (C.2.1.2.2.2.2.2.1 _ hlink)) (fun x hx => hx) (v := zrl G (zfv (M.2.1 (r + 1)) (M.2.2 (r + 1)) slot kd)) ?_ hdg (h1.2 hg H locs ls hP hS hl)
        rw [List.getElem?_mapIdx, hkd]
        rfl
      · cases h2
    · cases h
  · cases h
theorem zcl_puti {G : zG} {M : zM} {r c0 slot : Nat} {ks : List Nat} (x : Int32) (hkd : ks[slot]? = some 0) : zcl G (M.1, zup M.2.1 (r + 1) slot x, M.2.2) (r + 1) (0 :: c0 :: ks) = .inr (c0, (ks.mapIdx (fun s kd => zrl G (zfv (M.2.1 (r + 1)) (M.2.2 (r + 1)) s kd))).set slot (.int x)) := by
  unfold zcl
  simp only [zup_self]
  congr 2
  apply List.ext_getElem?
  intro j
  have hsl : slot < ks.length := (List.getElem?_eq_some_iff.mp hkd).1
  by_cases hj : j = slot
  · subst hj
    rw [List.getElem?_mapIdx, hkd, List.getElem?_set_self (by simpa using hsl)]
    simp [zfv, upd, zrl]
  · rw [List.getElem?_set_ne (Ne.symm hj), List.getElem?_mapIdx, List.getElem?_mapIdx]
    cases ks[j]? with
    | none => rfl
    | some kd =>
      have e : zfv (upd (M.2.1 (r + 1)) slot x) (M.2.2 (r + 1)) j kd = zfv (M.2.1 (r + 1)) (M.2.2 (r + 1)) j kd := by unfold zfv; split <;> simp [upd, hj]
      show some (zrl G (zfv (upd (M.2.1 (r + 1)) slot x) (M.2.2 (r + 1)) j kd)) = some (zrl G (zfv (M.2.1 (r + 1)) (M.2.2 (r + 1)) j kd))
      rw [e]
theorem zcl_putl {G : zG} {M : zM} {r c0 slot : Nat} {ks : List Nat} (x : Int64) (hkd : ks[slot]? = some 1) : zcl G (M.1, M.2.1, zupl M.2.2 (r + 1) slot x) (r + 1) (0 :: c0 :: ks) = .inr (c0, (ks.mapIdx (fun s kd => zrl G (zfv (M.2.1 (r + 1)) (M.2.2 (r + 1)) s kd))).set slot (.long x)) := by
  unfold zcl
  simp only [zupl_self]
  congr 2
  apply List.ext_getElem?
  intro j
  have hsl : slot < ks.length := (List.getElem?_eq_some_iff.mp hkd).1
  by_cases hj : j = slot
  · subst hj
    rw [List.getElem?_mapIdx, hkd, List.getElem?_set_self (by simpa using hsl)]
    simp [zfv, vp_updL, zrl]
  · rw [List.getElem?_set_ne (Ne.symm hj), List.getElem?_mapIdx, List.getElem?_mapIdx]
    cases ks[j]? with
    | none => rfl
    | some kd =>
      have e : zfv (M.2.1 (r + 1)) (vp_updL (M.2.2 (r + 1)) slot x) j kd = zfv (M.2.1 (r + 1)) (M.2.2 (r + 1)) j kd := by unfold zfv; split <;> simp [vp_updL, hj]
      show some (zrl G (zfv (M.2.1 (r + 1)) (vp_updL (M.2.2 (r + 1)) slot x) j kd)) = some (zrl G (zfv (M.2.1 (r + 1)) (M.2.2 (r + 1)) j kd))
      rw [e]
theorem zcl_putr {G : zG} {M : zM} {S : zS} {r c0 slot q kq : Nat} {ks : List Nat} (hkd : ks[slot]? = some kq) : zcl G (S, M.2.1, M.2.2) (r + 1) (0 :: c0 :: ks.set slot (q + 3)) = .inr (c0, (ks.mapIdx (fun s kd => zrl G (zfv (M.2.1 (r + 1)) (M.2.2 (r + 1)) s kd))).set slot (zrl G (.ref q))) := by
  unfold zcl
  simp only
  congr 2
  apply List.ext_getElem?
  intro j
  have hsl : slot < ks.length := (List.getElem?_eq_some_iff.mp hkd).1
  by_cases hj : j = slot
  · subst hj
    rw [List.getElem?_mapIdx, List.getElem?_set_self hsl, List.getElem?_set_self (by simpa using hsl)]
    rfl
  · rw [List.getElem?_set_ne (Ne.symm hj), List.getElem?_mapIdx, List.getElem?_mapIdx, List.getElem?_set_ne (Ne.symm hj)]
theorem zGr_same {M M' : zM} (h1 : M'.1 = M.1) (h2 : M'.2.1 0 = M.2.1 0) : zGr M M' := by
  obtain ⟨S, μ, ν⟩ := M
  obtain ⟨S', μ', ν'⟩ := M'
  simp only at h1 h2
  subst h1
  exact ⟨Nat.le_refl _, Nat.le_refl _, rfl, h2⟩
theorem snd_puti {ci slot idx : Nat} {C : String} {T : u_T} {N : Nat} {ty : Nat → FieldType} (K : zCls ci C T N ty) (hk0 : slot < N) (hty : ty slot = .int) (hfin : (T slot).2.2.2 = false) (hlink : Cond.fieldLink own idx (T slot).1 (T slot).2.1 (T slot).2.2.1 ∈ lw_gd) (hdg : decode cc pc = .ok (.putfield idx, 3)) : zSnd I own nm cc nL ret pc (op_puti ci slot (pc + 3)) := by
  refine ⟨lin_puti _ _ _, fun p l e R s m args below meth c G d Qf rv M0 Mr C call k hc hk L st M h => ?_⟩
  unfold op_puti at h
  split at h
  · split at h
    · rename_i _ x r rest _ c0 ks hs
      obtain ⟨hcc, h2⟩ := zbeq h (by nofun)
      clear h
      subst hcc
      split at h2
      · rename_i hkd
        have h1 := hk _ _ _ _ h2
        have g1 : zGr M (M.1, zup M.2.1 (r + 1) slot x, M.2.2) := zGr_same rfl (zup_ne M.2.1 slot x (Nat.succ_ne_zero r).symm)
        refine ⟨⟨g1.tr h1.1.1, h1.1.2⟩, fun hg H locs ls hP hS hl => ?_⟩
        refine va_put C.1.1 C.1.2.1 C.1.2.2.2.2.2 K.2.1 ty K.2.2.1 K.2.2.2 C.1.2.2.2.1 C.2.1.2.2.1 hP (zws_D G M) hS r (zws_at G M hs) K.1 slot hk0 (C.1.2.2.2.2.2 _ hlink) (fun x hx => hx) hfin (v := .int x) (by rw [K.2.2.1 slot hk0, hty]) rfl rfl (by simpa using (List.getElem?_eq_some_iff.mp hkd).1) hdg fun H1 locs1 hP1 _ hS1 => ?_
        rw [← zcl_puti x hkd, ← zws_set (M' := (M.1, zup M.2.1 (r + 1) slot x, M.2.2)) (zset_same hs).symm hs (fun a ha => ⟨zup_ne _ _ _ ha, rfl⟩)] at hP1
        exact h1.2 (hg.tr g1) H1 locs1 ls hP1 hS1 hl
      · cases h2
    · cases h
  · cases h
theorem snd_putl {ci slot idx : Nat} {C : String} {T : u_T} {N : Nat} {ty : Nat → FieldType} (K : zCls ci C T N ty) (hk0 : slot < N) (hty : ty slot = .long) (hfin : (T slot).2.2.2 = false) (hlink : Cond.fieldLink own idx (T slot).1 (T slot).2.1 (T slot).2.2.1 ∈ lw_gd) (hdg : decode cc pc = .ok (.putfield idx, 3)) : zSnd I own nm cc nL ret pc (op_putl ci slot (pc + 3)) := by
  refine ⟨lin_putl _ _ _, fun p l e R s m args below meth c G d Qf rv M0 Mr C call k hc hk L st M h => ?_⟩
  unfold op_putl at h
  split at h
  · split at h
    · rename_i _ x r rest _ c0 ks hs
      obtain ⟨hcc, h2⟩ := zbeq h (by nofun)
      clear h
      subst hcc
      split at h2
      · rename_i hkd
        have h1 := hk _ _ _ _ h2
        have g1 : zGr M (M.1, M.2.1, zupl M.2.2 (r + 1) slot x) := zGr_same rfl rfl
        refine ⟨⟨g1.tr h1.1.1, h1.1.2⟩, fun hg H locs ls hP hS hl => ?_⟩
        refine va_put C.1.1 C.1.2.1 C.1.2.2.2.2.2 K.2.1 ty K.2.2.1 K.2.2.2 C.1.2.2.2.1 C.2.1.2.2.1 hP (zws_D G M) hS r (zws_at G M hs) K.1 slot hk0 (C.1.2.2.2.2.2 _ hlink) (fun x hx => hx) hfin (v := .long x) (by rw [K.2.2.1 slot hk0, hty]) rfl rfl (by simpa using (List.getElem?_eq_some_iff.mp hkd).1) hdg fun H1 locs1 hP1 _ hS1 => ?_
        rw [← zcl_putl x hkd, ← zws_set (M' := (M.1, M.2.1, zupl M.2.2 (r + 1) slot x)) (zset_same hs).symm hs (fun a ha => ⟨rfl, zupl_ne _ _ _ ha⟩)] at hP1
        exact h1.2 (hg.tr g1) H1 locs1 ls hP1 hS1 hl
      · cases h2
    · cases h
  · cases h
theorem zsl_set {S : zS} {μ μ' : zMu} {ν ν' : zNu} {r : Nat} {sh sh' : List Nat} (hs : S.2[r]? = some sh) (hz : zsz sh' = zsz sh) : zsl ((S.1, S.2.set r sh'), μ', ν') = zsl (S, μ, ν) := by
  show ((S.2.set r sh').map zsz).sum = (S.2.map zsz).sum
  rw [List.map_set, hz, zset_same (by rw [List.getElem?_map, hs]; rfl)]
theorem zGr_set {M : zM} {r : Nat} {sh sh' : List Nat} (hs : M.1.2[r]? = some sh) (hz : zsz sh' = zsz sh) : zGr M ((M.1.1, M.1.2.set r sh'), M.2.1, M.2.2) := by
  refine ⟨?_, Nat.le_of_eq (zsl_set (S := M.1) hs hz).symm, rfl, rfl⟩
  show M.1.2.length ≤ (M.1.2.set r sh').length
  rw [List.length_set]
  exact Nat.le_refl _
def zisR (ty : FieldType) : Prop := (∃ n, ty = .object n) ∨ ∃ t, ty = .array t
theorem zisR_narrow {ty : FieldType} (h : zisR ty) (a : Nat) : narrow ty (.ref a) = .ref a ∧ fits ty (.ref a) = true := by
  rcases h with ⟨n, rfl⟩ | ⟨t, rfl⟩ <;> exact ⟨rfl, rfl⟩
theorem snd_putr {ci slot idx : Nat} {C : String} {T : u_T} {N : Nat} {ty : Nat → FieldType} (K : zCls ci C T N ty) (hk0 : slot < N) (hty : zisR (ty slot)) (hfin : (T slot).2.2.2 = false) (hlink : Cond.fieldLink own idx (T slot).1 (T slot).2.1 (T slot).2.2.1 ∈ lw_gd) (hdg : decode cc pc = .ok (.putfield idx, 3)) : zSnd I own nm cc nL ret pc (op_putr ci slot (pc + 3)) := by
  refine ⟨lin_putr _ _ _, fun p l e R s m args below meth c G d Qf rv M0 Mr C call k hc hk L st M h => ?_⟩
  unfold op_putr at h
  split at h
  · split at h
    · rename_i _ q r rest _ c0 ks hs
      obtain ⟨hcc, h2⟩ := zbeq h (by nofun)
      clear h
      subst hcc
      split at h2
      · rename_i kq hkd
        have h1 := hk _ _ _ _ h2
        have g1 : zGr M ((M.1.1, M.1.2.set r (0 :: c0 :: ks.set slot (q + 3))), M.2.1, M.2.2) := zGr_set hs (by show (ks.set slot (q + 3)).length = ks.length; rw [List.length_set])
        refine ⟨⟨g1.tr h1.1.1, h1.1.2⟩, fun hg H locs ls hP hS hl => ?_⟩
        obtain ⟨a, ha⟩ := zrl_ref G q
        rw [List.map_cons, ha]
        refine va_put C.1.1 C.1.2.1 C.1.2.2.2.2.2 K.2.1 ty K.2.2.1 K.2.2.2 C.1.2.2.2.1 C.2.1.2.2.1 hP (zws_D G M) hS r (zws_at G M hs) K.1 slot hk0 (C.1.2.2.2.2.2 _ hlink) (fun x hx => hx) hfin (v := .ref a) (K.2.2.1 slot hk0) (zisR_narrow hty a).1 (zisR_narrow hty a).2 (by simpa using (List.getElem?_eq_some_iff.mp hkd).1) hdg fun H1 locs1 hP1 _ hS1 => ?_
        rw [← ha, ← zcl_putr (S := (M.1.1, M.1.2.set r (0 :: c0 :: ks.set slot (q + 3)))) hkd] at hP1
        have e := zws_set (G := G) (M := M) (M' := ((M.1.1, M.1.2.set r (0 :: c0 :: ks.set slot (q + 3))), M.2.1, M.2.2)) rfl hs (fun a ha => ⟨rfl, rfl⟩)
        rw [← e] at hP1
        have h2 := h1.2 (hg.tr g1) H1 locs1 ls hP1 hS1 hl
        have e1 : zlen ((M.1.1, M.1.2.set r (0 :: c0 :: ks.set slot (q + 3))), M.2.1, M.2.2) = zlen M := by show (M.1.2.set r _).length = _; rw [List.length_set]
        rw [e1, zsl_set (S := M.1) (μ := M.2.1) (ν := M.2.2) hs (by show (ks.set slot (q + 3)).length = ks.length; rw [List.length_set])] at h2
        exact h2
      · cases h2
    · cases h
  · cases h
theorem snd_putrF {ci slot idx : Nat} {C : String} {T : u_T} {N : Nat} {ty : Nat → FieldType} (K : zCls ci C T N ty) (hk0 : slot < N) (hty : zisR (ty slot)) (hfin : (T slot).2.2.2 = true) (hnm : nm = "<init>") (hdecl : (T slot).1 = own) (hlink : Cond.fieldLink own idx (T slot).1 (T slot).2.1 (T slot).2.2.1 ∈ lw_gd) (hdg : decode cc pc = .ok (.putfield idx, 3)) : zSnd I own nm cc nL ret pc (op_putr ci slot (pc + 3)) := by
  refine ⟨lin_putr _ _ _, fun p l e R s m args below meth c G d Qf rv M0 Mr C call k hc hk L st M h => ?_⟩
  unfold op_putr at h
  split at h
  · split at h
    · rename_i _ q r rest _ c0 ks hs
      obtain ⟨hcc, h2⟩ := zbeq h (by nofun)
      clear h
      subst hcc
      split at h2
      · rename_i kq hkd
        have h1 := hk _ _ _ _ h2
        have g1 : zGr M ((M.1.1, M.1.2.set r (0 :: c0 :: ks.set slot (q + 3))), M.2.1, M.2.2) := zGr_set hs (by show (ks.set slot (q + 3)).length = ks.length; rw [List.length_set])
        refine ⟨⟨g1.tr h1.1.1, h1.1.2⟩, fun hg H locs ls hP hS hl => ?_⟩
        obtain ⟨a, ha⟩ := zrl_ref G q
        rw [List.map_cons, ha]
        refine va_putF C.1.1 C.1.2.1 C.1.2.2.2.2.2 K.2.1 ty K.2.2.1 K.2.2.2 C.1.2.2.2.1 C.2.1.2.2.1 hP (zws_D G M) hS r (zws_at G M hs) K.1 slot hk0 (C.1.2.2.2.2.2 _ hlink) (fun x hx => hx) hfin (C.1.2.2.2.2.1.trans hnm) hdecl (v := .ref a) (K.2.2.1 slot hk0) (zisR_narrow hty a).1 (zisR_narrow hty a).2 (by simpa using (List.getElem?_eq_some_iff.mp hkd).1) hdg fun H1 locs1 hP1 _ hS1 => ?_
        rw [← ha, ← zcl_putr (S := (M.1.1, M.1.2.set r (0 :: c0 :: ks.set slot (q + 3)))) hkd] at hP1
        have e := zws_set (G := G) (M := M) (M' := ((M.1.1, M.1.2.set r (0 :: c0 :: ks.set slot (q + 3))), M.2.1, M.2.2)) rfl hs (fun a ha => ⟨rfl, rfl⟩)
        rw [← e] at hP1
        have h2 := h1.2 (hg.tr g1) H1 locs1 ls hP1 hS1 hl
        have e1 : zlen ((M.1.1, M.1.2.set r (0 :: c0 :: ks.set slot (q + 3))), M.2.1, M.2.2) = zlen M := by show (M.1.2.set r _).length = _; rw [List.length_set]
        rw [e1, zsl_set (S := M.1) (μ := M.2.1) (ν := M.2.2) hs (by show (ks.set slot (q + 3)).length = ks.length; rw [List.length_set])] at h2
        exact h2
      · cases h2
    · cases h
  · cases h
theorem zin_vp {i : Int32} {n : Nat} (h : 0 ≤ i.toInt ∧ i.toInt < (n : Int)) : vp_in i n := by
  unfold vp_in
  rintro (q | q)
  · have := Int32.lt_iff_toInt_lt.mp q
    simp at this
    omega
  · have : i.toNatClampNeg = i.toInt.toNat := rfl
    omega
end SND3
