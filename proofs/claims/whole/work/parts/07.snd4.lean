section SND4
variable {I : zI} {own nm : String} {cc : ByteArray} {nL : Nat} {ret : Option FieldType} {pc n t i : Nat}
theorem snd_ald1 {ty : FieldType} (t0 : Nat) (ht : ∀ G, (ztys G)[t0]? = some (G.2.2.2.1 t, ty)) (ht2 : t ≠ 2 ∧ t ≠ 0)
    (row : ∀ (p : Program) (l : Launch) (e : Env) (R : Room) (s : State) (m : MethodId) (args : Array Value) (below : List Frame) (meth : Method) (c : Code) (H : Heap) (locs : List Loc) (cells slots : Nat) (Q : State → Prop) (ls : Array Slot) (rest : List Value) (D : va_G) (tys : List (ClassId × FieldType)) (ws : va_W) (a q0 : Nat) (cA : ClassId) (n : Nat) (f : Nat → Int32) (i : Int32), p.tables.exec = Jvm.exec → c.code = cc → va_K D vwCl tys s → va_P D vwCl ws H → ws[q0]? = some (a, .inl (cA, n, .inl f)) → tys[t0]? = some (cA, ty) → vp_in i n →
      W p l e R s m args below meth c H locs cells slots Q (F0 m (pc + 1) ls (.int (f i.toNatClampNeg) :: rest)) → W p l e R s m args below meth c H locs cells slots Q (F0 m pc ls (.int i :: .ref a :: rest)))
    (hs1 : t = 1 → decode cc pc = .ok (.iaload, 1)) : zSnd I own nm cc nL ret pc (op_ald1 t (pc + 1)) := by
  refine ⟨lin_ald1 _ _, fun p l e R s m args below meth c G d Qf rv M0 Mr C call k hc hk L st M h => ?_⟩
  unfold op_ald1 at h
  split at h
  · split at h
    · rename_i _ ix r rest _ t' len hs
      obtain ⟨htt, h2⟩ := zbeq h (by nofun)
      clear h
      subst htt
      split at h2
      · rename_i hin
        have h1 := hk _ _ _ _ h2
        refine ⟨h1.1, fun hg H locs ls hP hS hl => ?_⟩
        refine row p l e R s m args below meth c H locs _ _ Qf ls _ G.2.2.1 (ztys G) (zws G M) (G.1 + r) r (G.2.2.2.1 t') len (M.2.1 (r + 1)) ix C.1.1 C.1.2.1 C.2.1.2.2.1 hP ?_ (ht G) (zin_vp hin) (h1.2 hg H locs ls hP hS hl)
        rw [zws_at G M hs]
        unfold zcl
        split
        · rename_i heq
          exact absurd (List.cons.inj heq).1 ht2.2
        · rename_i heq
          obtain ⟨e1, e2⟩ := List.cons.inj heq
          obtain ⟨e3, -⟩ := List.cons.inj e2
          subst e1; subst e3
          rw [if_neg ht2.1]
        · rename_i hh
          exact absurd rfl (hh _ _ _)
      · cases h2
    · cases h
  · rename_i _ ix rest
    obtain ⟨htt, h2⟩ := zbeq h (by nofun)
    clear h
    split at h2
    · rename_i hin
      have h1 := hk _ _ _ _ h2
      refine ⟨h1.1, fun hg H locs ls hP hS hl => ?_⟩
      have hX := C.2.1.2.2.2.1
      have hb0 := C.2.1.2.2.2.2.1
      have e1 : M.1.1 = M0.1.1 := hg.2.2.1
      have e2 : M.2.1 0 = M0.2.1 0 := hg.2.2.2
      have hgoal := h1.2 hg H locs ls hP hS hl
      rw [e2] at hgoal
      rw [e1] at hin
      exact va_sld C.1.1 C.1.2.1 hX (by rw [C.2.1.1]; omega) (A := zA G) (by unfold zA; omega) hS (zin_vp hin) (hs1 htt) hgoal
    · cases h2
  · cases h
theorem snd_iaload (hdg : decode cc pc = .ok (.iaload, 1)) : zSnd I own nm cc nL ret pc (op_ald1 1 (pc + 1)) :=
  snd_ald1 (ty := .int) 0 (fun _ => rfl) ⟨by decide, by decide⟩ (fun _ _ _ _ _ _ _ _ _ _ _ _ _ _ _ _ _ _ _ _ _ q0 _ _ _ _ hx hb hK hP ha ht hin hW => va_iald hx hb hK hP q0 0 ha ht hin hdg hW) (fun _ => hdg)
theorem snd_zaload (hdg : decode cc pc = .ok (.baload, 1)) : zSnd I own nm cc nL ret pc (op_ald1 3 (pc + 1)) :=
  snd_ald1 (ty := .boolean) 2 (fun _ => rfl) ⟨by decide, by decide⟩ (fun _ _ _ _ _ _ _ _ _ _ _ _ _ _ _ _ _ _ _ _ _ q0 _ _ _ _ hx hb hK hP ha ht hin hW => va_zald hx hb hK hP q0 2 ha ht hin hdg hW) (fun q => absurd q (by decide))
theorem snd_caload (hdg : decode cc pc = .ok (.caload, 1)) : zSnd I own nm cc nL ret pc (op_ald1 4 (pc + 1)) :=
  snd_ald1 (ty := .char) 3 (fun _ => rfl) ⟨by decide, by decide⟩ (fun _ _ _ _ _ _ _ _ _ _ _ _ _ _ _ _ _ _ _ _ _ q0 _ _ _ _ hx hb hK hP ha ht hin hW => va_cald hx hb hK hP q0 3 ha ht hin hdg hW) (fun q => absurd q (by decide))
theorem snd_laload (hdg : decode cc pc = .ok (.laload, 1)) : zSnd I own nm cc nL ret pc (op_lald (pc + 1)) := by
  refine ⟨lin_lald _, fun p l e R s m args below meth c G d Qf rv M0 Mr C call k hc hk L st M h => ?_⟩
  unfold op_lald at h
  split at h
  · split at h
    · rename_i _ ix r rest _ len hs
      split at h
      · rename_i hin
        have h1 := hk _ _ _ _ h
        refine ⟨h1.1, fun hg H locs ls hP hS hl => ?_⟩
        exact va_lald C.1.1 C.1.2.1 C.2.1.2.2.1 hP r 1 (cA := G.2.2.2.1 2) (n := len) (f := M.2.2 (r + 1)) (by rw [zws_at G M hs]; rfl) rfl (zin_vp hin) hdg (h1.2 hg H locs ls hP hS hl)
      · cases h
    · cases h
  · cases h
theorem zcl_asti {G : zG} {M : zM} {r t len : Nat} (ht2 : t ≠ 2 ∧ t ≠ 0) (j : Nat) (x : Int32) : zcl G (M.1, zup M.2.1 (r + 1) j x, M.2.2) (r + 1) [t, len] = .inl (G.2.2.2.1 t, len, .inl (upd (M.2.1 (r + 1)) j x)) := by
  unfold zcl
  split
  · rename_i heq
    exact absurd (List.cons.inj heq).1 ht2.2
  · rename_i heq
    obtain ⟨e1, e2⟩ := List.cons.inj heq
    obtain ⟨e3, -⟩ := List.cons.inj e2
    subst e1; subst e3
    rw [if_neg ht2.1]
    simp only [zup_self]
  · rename_i hh
    exact absurd rfl (hh _ _ _)
theorem zcl_arr {G : zG} {M : zM} {r t len : Nat} (ht2 : t ≠ 2 ∧ t ≠ 0) : zcl G M (r + 1) [t, len] = .inl (G.2.2.2.1 t, len, .inl (M.2.1 (r + 1))) := by
  unfold zcl
  split
  · rename_i heq
    exact absurd (List.cons.inj heq).1 ht2.2
  · rename_i heq
    obtain ⟨e1, e2⟩ := List.cons.inj heq
    obtain ⟨e3, -⟩ := List.cons.inj e2
    subst e1; subst e3
    rw [if_neg ht2.1]
  · rename_i hh
    exact absurd rfl (hh _ _ _)
theorem snd_ast1 {ty : FieldType} (t0 : Nat) (ht : ∀ G, (ztys G)[t0]? = some (G.2.2.2.1 t, ty)) (ht2 : t ≠ 2 ∧ t ≠ 0)
    (row : ∀ (p : Program) (l : Launch) (e : Env) (R : Room) (s : State) (m : MethodId) (args : Array Value) (below : List Frame) (meth : Method) (c : Code) (H : Heap) (locs : List Loc) (cells slots : Nat) (Q : State → Prop) (ls : Array Slot) (rest : List Value) (D : va_G) (A : Nat → Prop) (H0 : Heap) (tys : List (ClassId × FieldType)) (ws : va_W) (a q0 : Nat) (cA : ClassId) (n : Nat) (f : Nat → Int32) (i x : Int32), p.tables.exec = Jvm.exec → c.code = cc → va_K D vwCl tys s → va_P D vwCl ws H → va_D A ws → va_S A H0 H locs → ws[q0]? = some (a, .inl (cA, n, .inl f)) → tys[t0]? = some (cA, ty) → vp_in i n →
      (∀ (H1 : Heap) (locs1 : List Loc), va_P D vwCl (ws.set q0 (a, .inl (cA, n, .inl (upd f i.toNatClampNeg (znar t x))))) H1 → va_S A H0 H1 locs1 → W p l e R s m args below meth c H1 locs1 cells slots Q (F0 m (pc + 1) ls rest)) → W p l e R s m args below meth c H locs cells slots Q (F0 m pc ls (.int x :: .int i :: .ref a :: rest))) : zSnd I own nm cc nL ret pc (op_ast1 t (pc + 1)) := by
  refine ⟨lin_ast1 _ _, fun p l e R s m args below meth c G d Qf rv M0 Mr C call k hc hk L st M h => ?_⟩
  unfold op_ast1 at h
  split at h
  · split at h
    · rename_i _ x ix r rest _ t' len hs
      obtain ⟨htt, h2⟩ := zbeq h (by nofun)
      clear h
      subst htt
      split at h2
      · rename_i hin
        have h1 := hk _ _ _ _ h2
        have g1 : zGr M (M.1, zup M.2.1 (r + 1) ix.toNatClampNeg (znar t' x), M.2.2) := zGr_same rfl (zup_ne M.2.1 ix.toNatClampNeg (znar t' x) (Nat.succ_ne_zero r).symm)
        refine ⟨⟨g1.tr h1.1.1, h1.1.2⟩, fun hg H locs ls hP hS hl => ?_⟩
        refine row p l e R s m args below meth c H locs _ _ Qf ls _ G.2.2.1 (zA G) s.heap (ztys G) (zws G M) (G.1 + r) r (G.2.2.2.1 t') len (M.2.1 (r + 1)) ix x C.1.1 C.1.2.1 C.2.1.2.2.1 hP (zws_D G M) hS (by rw [zws_at G M hs, zcl_arr ht2]) (ht G) (zin_vp hin) fun H1 locs1 hP1 hS1 => ?_
        rw [← zcl_asti (M := M) ht2, ← zws_set (M' := (M.1, zup M.2.1 (r + 1) ix.toNatClampNeg (znar t' x), M.2.2)) (zset_same hs).symm hs (fun a ha => ⟨zup_ne _ _ _ ha, rfl⟩)] at hP1
        exact h1.2 (hg.tr g1) H1 locs1 ls hP1 hS1 hl
      · cases h2
    · cases h
  · cases h
theorem snd_iastore (hdg : decode cc pc = .ok (.iastore, 1)) : zSnd I own nm cc nL ret pc (op_ast1 1 (pc + 1)) :=
  snd_ast1 (ty := .int) 0 (fun _ => rfl) ⟨by decide, by decide⟩ (fun _ _ _ _ _ _ _ _ _ _ _ _ _ _ _ _ _ _ _ _ _ _ _ q0 _ _ _ _ _ hx hb hK hP hD hS ha ht hin kk => va_iast hx hb hK hP hD hS q0 0 ha ht hin hdg fun H1 locs1 h1 _ h3 => kk H1 locs1 h1 h3)
theorem snd_zastore (hdg : decode cc pc = .ok (.bastore, 1)) : zSnd I own nm cc nL ret pc (op_ast1 3 (pc + 1)) :=
  snd_ast1 (ty := .boolean) 2 (fun _ => rfl) ⟨by decide, by decide⟩ (fun _ _ _ _ _ _ _ _ _ _ _ _ _ _ _ _ _ _ _ _ _ _ _ q0 _ _ _ _ _ hx hb hK hP hD hS ha ht hin kk => va_zast hx hb hK hP hD hS q0 2 ha ht hin hdg fun H1 locs1 h1 _ h3 => kk H1 locs1 h1 h3)
theorem snd_castore (hdg : decode cc pc = .ok (.castore, 1)) : zSnd I own nm cc nL ret pc (op_ast1 4 (pc + 1)) :=
  snd_ast1 (ty := .char) 3 (fun _ => rfl) ⟨by decide, by decide⟩ (fun _ _ _ _ _ _ _ _ _ _ _ _ _ _ _ _ _ _ _ _ _ _ _ q0 _ _ _ _ _ hx hb hK hP hD hS ha ht hin kk => va_cast hx hb hK hP hD hS q0 3 ha ht hin hdg fun H1 locs1 h1 _ h3 => kk H1 locs1 h1 h3)
theorem snd_lastore (hdg : decode cc pc = .ok (.lastore, 1)) : zSnd I own nm cc nL ret pc (op_last (pc + 1)) := by
  refine ⟨lin_last _, fun p l e R s m args below meth c G d Qf rv M0 Mr C call k hc hk L st M h => ?_⟩
  unfold op_last at h
  split at h
  · split at h
    · rename_i _ x ix r rest _ len hs
      split at h
      · rename_i hin
        have h1 := hk _ _ _ _ h
        have g1 : zGr M (M.1, M.2.1, zupl M.2.2 (r + 1) ix.toNatClampNeg x) := zGr_same rfl rfl
        refine ⟨⟨g1.tr h1.1.1, h1.1.2⟩, fun hg H locs ls hP hS hl => ?_⟩
        refine va_last C.1.1 C.1.2.1 C.2.1.2.2.1 hP (zws_D G M) hS r 1 (cA := G.2.2.2.1 2) (n := len) (f := M.2.2 (r + 1)) (by rw [zws_at G M hs]; rfl) rfl (zin_vp hin) hdg fun H1 locs1 hP1 _ hS1 => ?_
        have e : zcl G (M.1, M.2.1, zupl M.2.2 (r + 1) ix.toNatClampNeg x) (r + 1) [2, len] = .inl (G.2.2.2.1 2, len, .inr (.inl (vp_updL (M.2.2 (r + 1)) ix.toNatClampNeg x))) := by
          show (Sum.inl (G.2.2.2.1 2, len, Sum.inr (Sum.inl (zupl M.2.2 (r + 1) ix.toNatClampNeg x (r + 1)))) : va_E) = _
          rw [zupl_self]
        rw [← e, ← zws_set (M' := (M.1, M.2.1, zupl M.2.2 (r + 1) ix.toNatClampNeg x)) (zset_same hs).symm hs (fun a ha => ⟨rfl, zupl_ne _ _ _ ha⟩)] at hP1
        exact h1.2 (hg.tr g1) H1 locs1 ls hP1 hS1 hl
      · cases h
    · cases h
  · cases h
/-- the script's length alone -/
theorem snd_slen (hdg : decode cc pc = .ok (.arraylength, 1)) : zSnd I own nm cc nL ret pc (op_slen (pc + 1)) := by
  refine ⟨lin_slen _, fun p l e R s m args below meth c G d Qf rv M0 Mr C call k hc hk L st M h => ?_⟩
  unfold op_slen at h
  split at h
  · have h1 := hk _ _ _ _ h
    refine ⟨h1.1, fun hg H locs ls hP hS hl => ?_⟩
    have hb0 := C.2.1.2.2.2.2.1
    have hgoal := h1.2 hg H locs ls hP hS hl
    rw [show M.1.1 = M0.1.1 from hg.2.2.1] at hgoal
    exact va_slen C.1.1 C.1.2.1 C.2.1.2.2.2.1 (by rw [C.2.1.1]; omega) (A := zA G) (by unfold zA; omega) hS hdg hgoal
  · cases h
theorem snd_alen {ty : FieldType} (t0 : Nat) (ht : ∀ G, (ztys G)[t0]? = some (G.2.2.2.1 t, ty)) (ht2 : t ≠ 0) (hdg : decode cc pc = .ok (.arraylength, 1)) : zSnd I own nm cc nL ret pc (op_alen t (pc + 1)) := by
  refine ⟨lin_alen _ _, fun p l e R s m args below meth c G d Qf rv M0 Mr C call k hc hk L st M h => ?_⟩
  unfold op_alen at h
  split at h
  · split at h
    · rename_i _ r rest _ t' len hs
      obtain ⟨htt, h2⟩ := zbeq h (by nofun)
      clear h
      subst htt
      have h1 := hk _ _ _ _ h2
      refine ⟨h1.1, fun hg H locs ls hP hS hl => ?_⟩
      have e : ∃ x : vp_A, x.1 = len ∧ (zws G M)[r]? = some (G.1 + r, .inl (G.2.2.2.1 t', x)) := by
        rw [zws_at G M hs]
        unfold zcl
        split
        · rename_i heq
          exact absurd (List.cons.inj heq).1 ht2
        · rename_i heq
          obtain ⟨e1, e2⟩ := List.cons.inj heq
          obtain ⟨e3, -⟩ := List.cons.inj e2
          subst e1; subst e3
          exact ⟨_, rfl, rfl⟩
        · rename_i hh
          exact absurd rfl (hh _ _ _)
      obtain ⟨x, hx, he⟩ := e
      exact va_alen C.1.1 C.1.2.1 C.2.1.2.2.1 hP r t0 he (ht G) (by rw [hx]) hdg (h1.2 hg H locs ls hP hS hl)
    · cases h
  · cases h
end SND4
