theorem zrow0_self {α : Type} (z : α) (μ : Nat → Nat → α) (r : Nat) : zrow0 z μ r r = fun _ => z := by unfold zrow0; rw [if_pos rfl]
theorem zrow0_ne {α : Type} (z : α) (μ : Nat → Nat → α) {r a : Nat} (h : a ≠ r) : zrow0 z μ r a = μ a := by unfold zrow0; rw [if_neg h]
abbrev zpushM (M : zM) (sh : List Nat) : zM := ((M.1.1, M.1.2 ++ [sh]), zrow0 0 M.2.1 (M.1.2.length + 1), zrow0 0 M.2.2 (M.1.2.length + 1))
theorem zpushM_len (M : zM) (sh : List Nat) : zlen (zpushM M sh) = zlen M + 1 := by show (M.1.2 ++ [sh]).length = M.1.2.length + 1; simp
theorem zpushM_sl (M : zM) (sh : List Nat) : zsl (zpushM M sh) = zsl M + zsz sh := by show ((M.1.2 ++ [sh]).map zsz).sum = (M.1.2.map zsz).sum + zsz sh; simp
theorem zpushM_gr (M : zM) (sh : List Nat) : zGr M (zpushM M sh) := ⟨by rw [zpushM_len]; omega, by rw [zpushM_sl]; omega, rfl, zrow0_ne 0 M.2.1 (Nat.succ_ne_zero M.1.2.length).symm⟩
theorem zpushM_ws (G : zG) (M : zM) (sh : List Nat) : zws G (zpushM M sh) = zws G M ++ [(G.1 + zlen M, zcl G (zpushM M sh) (zlen M + 1) sh)] :=
  zws_push rfl fun a ha => ⟨zrow0_ne _ _ (by show a ≠ zlen M + 1; omega), zrow0_ne _ _ (by show a ≠ zlen M + 1; omega)⟩
section SND6
variable {I : zI} {own nm : String} {cc : ByteArray} {nL : Nat} {ret : Option FieldType} {pc n t i : Nat}
theorem snd_new {ci idx : Nat} {ks : List Nat} {C : String} {T : u_T} {N : Nat} {ty : Nat → FieldType} (K : zCls ci C T N ty) (hks : ks.length = N)
    (hd : ∀ j, j < N → (ks[j]? = some 0 ∧ ty j = .int) ∨ (ks[j]? = some 1 ∧ ty j = .long) ∨ (ks[j]? = some 2 ∧ defaultValue (ty j) = .null))
    (hcl : Cond.classLink own idx C ∈ lw_gd) (hins : Cond.instantiable C N ∈ lw_gd) (hini : Cond.initialized C ∈ lw_gd) (hdg : decode cc pc = .ok (.new idx, 3)) : zSnd I own nm cc nL ret pc (op_new ci ks (pc + 3)) := by
  refine ⟨lin_new _ _ _, fun p l e R s m args below meth c G d Qf rv M0 Mr C0 call k hc hk L st M h => ?_⟩
  have h1 := hk _ _ _ _ h
  have g1 := zpushM_gr M (0 :: ci :: ks)
  refine ⟨⟨g1.tr h1.1.1, h1.1.2⟩, fun hg H locs ls hP hS hl => ?_⟩
  obtain ⟨⟨hx, hbb, hml, hown, hnm, hts⟩, hw, ⟨hR1, hR2, hR3, hR4⟩, -⟩ := id C0
  have e1 := zpushM_len M (0 :: ci :: ks)
  have e2 := zpushM_sl M (0 :: ci :: ks)
  have e3 : zsz (0 :: ci :: ks) = N := hks
  have g3 : zlen (zpushM M (0 :: ci :: ks)) ≤ zlen Mr := h1.1.1.1
  have g4 : zsl (zpushM M (0 :: ci :: ks)) ≤ zsl Mr := h1.1.1.2.1
  have g5 : zlen M0 ≤ zlen M := hg.1
  have g6 : zsl M0 ≤ zsl M := hg.2.1
  refine va_new (ci := ci) (fs := ks.mapIdx (fun s kd => zrl G (zfv (fun _ => 0) (fun _ => 0) s kd))) hx hbb hts K.2.1 ty K.2.2.1 hown (hts _ hcl) (hts _ hins) (hts _ hini) hw.2.2.1 hP (zws_D G M) hS (fun q hq => by unfold zA; have := hw.1; omega) K.1 ?_ (by omega) (by omega) hdg fun q H1 hP1 hD1 hS1 => ?_
  · intro j hj
    unfold vp_V
    have key : ∀ kd : Nat, ks[j]? = some kd → (ks.mapIdx (fun s kd => zrl G (zfv (fun _ => 0) (fun _ => 0) s kd))).getD j .null = zrl G (zfv (fun _ => 0) (fun _ => 0) j kd) := by
      intro kd hkd
      rw [List.getD_eq_getElem?_getD, List.getElem?_mapIdx, hkd]
      rfl
    rcases hd j hj with ⟨q1, q2⟩ | ⟨q1, q2⟩ | ⟨q1, q2⟩
    · rw [key _ q1, q2]; rfl
    · rw [key _ q1, q2]; rfl
    · rw [key _ q1, q2]; rfl
  · refine zW_size fun hz => ?_
    have hq : q = G.1 + zlen M := znewq hP1 hD1 (by have := hw.1; omega)
    subst hq
    have e : zcl G (zpushM M (0 :: ci :: ks)) (zlen M + 1) (0 :: ci :: ks) = .inr (ci, ks.mapIdx (fun s kd => zrl G (zfv (fun _ => 0) (fun _ => 0) s kd))) := by
      unfold zcl
      simp only [zrow0_self]
    rw [← e, ← zpushM_ws] at hP1
    have h2 := h1.2 (hg.tr g1) H1 locs ls hP1 hS1 hl
    have e4 : zlen M - zlen M0 + 1 = zlen (zpushM M (0 :: ci :: ks)) - zlen M0 := by omega
    have e5 : zsl M - zsl M0 + N = zsl (zpushM M (0 :: ci :: ks)) - zsl M0 := by omega
    rw [e4, e5]
    exact h2
theorem snd_newa {at0 : ArrayType} {ty : FieldType} {nm0 : String} (t0 : Nat) (ht : ∀ G, (ztys G)[t0]? = some (G.2.2.2.1 t, ty)) (ht0 : t ≠ 0) (hty : newarray.typeOf at0 = ty) (hra : ∀ s cA, va_RA s cA ty → s.vm.findClass nm0 = some cA)
    (hcell : ∀ (N : Nat) (cA : ClassId), vp_cell cA (N, if t = 2 then .inr (.inl (fun _ => 0)) else .inl (fun _ => 0)) = arrV cA N (fun _ => defaultValue ty)) (hcb : componentBytes ty ≤ 8)
    (harr : Cond.arrayClass (newarray.typeOf at0) ∈ lw_gd) (hdg : decode cc pc = .ok (.newarray at0, 2)) : zSnd I own nm cc nL ret pc (op_newa t (pc + 2)) := by
  refine ⟨lin_newa _ _, fun p l e R s m args below meth c G d Qf rv M0 Mr C0 call k hc hk L st M h => ?_⟩
  unfold op_newa at h
  split at h
  · rename_i cn r
    split at h
    · rename_i hin
      have h1 := hk _ _ _ _ h
      have g1 := zpushM_gr M [t, cn.toNatClampNeg]
      refine ⟨⟨g1.tr h1.1.1, h1.1.2⟩, fun hg H locs ls hP hS hl => ?_⟩
      obtain ⟨⟨hx, hbb, hml, hown, hnm, hts⟩, hw, ⟨hR1, hR2, hR3, hR4⟩, -⟩ := id C0
      have e1 := zpushM_len M [t, cn.toNatClampNeg]
      have e2 := zpushM_sl M [t, cn.toNatClampNeg]
      have e3 : zsz [t, cn.toNatClampNeg] = cn.toNatClampNeg := by
        unfold zsz
        split
        · rename_i heq; exact absurd (List.cons.inj heq).1 ht0
        · rename_i heq
          exact (List.cons.inj (List.cons.inj heq).2).1.symm
        · rename_i hh; exact absurd rfl (hh _ _ _)
      have g3 : zlen (zpushM M [t, cn.toNatClampNeg]) ≤ zlen Mr := h1.1.1.1
      have g4 : zsl (zpushM M [t, cn.toNatClampNeg]) ≤ zsl Mr := h1.1.1.2.1
      have g5 : zlen M0 ≤ zlen M := hg.1
      have g6 : zsl M0 ≤ zsl M := hg.2.1
      have hcn : cn.toNatClampNeg = cn.toInt.toNat := rfl
      refine va_newa (atype := at0) (ty := ty) (N' := cn.toNatClampNeg) hx hbb (hts _ harr) hty hw.2.2.1 hP (zws_D G M) hS (fun q hq => by unfold zA; have := hw.1; omega) (hcell _) (fun q => by have := Int32.lt_iff_toInt_lt.mp q; simp at this; omega) rfl (Nat.le_trans (Nat.mul_le_mul (show cn.toNatClampNeg ≤ 16777216 by omega) hcb) (Nat.le_of_ble_eq_true rfl)) (by omega) (by omega) hdg fun q cA H1 hK1 hP1 hD1 hS1 => ?_
      refine zW_size fun hz => ?_
      have hq : q = G.1 + zlen M := znewq hP1 hD1 (by have := hw.1; omega)
      subst hq
      have a1 := hra _ _ (hK1.2 4 (cA, ty) rfl).2
      have a2 := hra _ _ (hw.2.2.1.2 t0 _ (ht G)).2
      have hcA : cA = G.2.2.2.1 t := Option.some.inj (a1.symm.trans a2)
      subst hcA
      have e : zcl G (zpushM M [t, cn.toNatClampNeg]) (zlen M + 1) [t, cn.toNatClampNeg] = .inl (G.2.2.2.1 t, cn.toNatClampNeg, if t = 2 then .inr (.inl (fun _ => 0)) else .inl (fun _ => 0)) := by
        unfold zcl
        split
        · rename_i heq; exact absurd (List.cons.inj heq).1 ht0
        · rename_i heq
          obtain ⟨f1, f2⟩ := List.cons.inj heq
          obtain ⟨f3, -⟩ := List.cons.inj f2
          subst f1; subst f3
          simp only [zrow0_self]
        · rename_i hh; exact absurd rfl (hh _ _ _)
      rw [← e, ← zpushM_ws] at hP1
      have h2 := h1.2 (hg.tr g1) H1 locs ls hP1 hS1 hl
      have e4 : zlen M - zlen M0 + 1 = zlen (zpushM M [t, cn.toNatClampNeg]) - zlen M0 := by omega
      have e5 : zsl M - zsl M0 + cn.toNatClampNeg = zsl (zpushM M [t, cn.toNatClampNeg]) - zsl M0 := by omega
      rw [e4, e5]
      exact h2
    · cases h
  · cases h
theorem snd_newi (harr : Cond.arrayClass .int ∈ lw_gd) (hdg : decode cc pc = .ok (.newarray .int, 2)) : zSnd I own nm cc nL ret pc (op_newa 1 (pc + 2)) := snd_newa (at0 := .int) (ty := .int) 0 (fun _ => rfl) (by decide) rfl (fun _ _ h => h) (fun N cA => vp_cell_i cA N _) (by decide) harr hdg
theorem snd_newl (harr : Cond.arrayClass .long ∈ lw_gd) (hdg : decode cc pc = .ok (.newarray .long, 2)) : zSnd I own nm cc nL ret pc (op_newa 2 (pc + 2)) := snd_newa (at0 := .long) (ty := .long) 1 (fun _ => rfl) (by decide) rfl (fun _ _ h => h) (fun N cA => vp_cell_l cA N _) (by decide) harr hdg
theorem snd_newz (harr : Cond.arrayClass .boolean ∈ lw_gd) (hdg : decode cc pc = .ok (.newarray .boolean, 2)) : zSnd I own nm cc nL ret pc (op_newa 3 (pc + 2)) := snd_newa (at0 := .boolean) (ty := .boolean) 2 (fun _ => rfl) (by decide) rfl (fun _ _ h => h) (fun N cA => vp_cell_i cA N _) (by decide) harr hdg
theorem snd_newc (harr : Cond.arrayClass .char ∈ lw_gd) (hdg : decode cc pc = .ok (.newarray .char, 2)) : zSnd I own nm cc nL ret pc (op_newa 4 (pc + 2)) := snd_newa (at0 := .char) (ty := .char) 3 (fun _ => rfl) (by decide) rfl (fun _ _ h => h) (fun N cA => vp_cell_i cA N _) (by decide) harr hdg
theorem snd_obj {idx : Nat} (hlink : Cond.methodLink own idx Lib.objectInit ∈ lw_gd) (hinst : Cond.instanceMethod Lib.objectInit ∈ lw_gd) (hcode : Cond.code Lib.objectInit ⟨#[0xb1]⟩ 1 none ∈ lw_gd) (hdg : decode cc pc = .ok (.invokespecial idx, 3)) : zSnd I own nm cc nL ret pc (op_obj (pc + 3)) := by
  refine ⟨lin_obj _, fun p l e R s m args below meth c G d Qf rv M0 Mr C0 call k hc hk L st M h => ?_⟩
  unfold op_obj at h
  split at h
  · rename_i x r
    obtain ⟨hb, h2⟩ := zbif h (by nofun)
    have h1 := hk _ _ _ _ h2
    refine ⟨h1.1, fun hg H locs ls hP hS hl => ?_⟩
    obtain ⟨⟨hx, hbb, hml, hown, hnm, hts⟩, hw, ⟨hR1, hR2, hR3, hR4⟩, -⟩ := id C0
    obtain ⟨a, ha⟩ := zrl_ref G x
    rw [List.map_cons, ha]
    have hb' : (r.map fun v => v.category).sum ≤ 8 := Nat.le_of_ble_eq_true hb
    refine W.objInit hx hbb hown (hts _ hlink) (hts _ hinst) (hts _ hcode) rfl (by rw [hml]; exact hl.2.1) rfl hdg (by omega) ?_ (h1.2 hg H locs ls hP hS hl)
    show 2 * 0 + ((r.map (zrl G)).map fun v => v.category).sum + 12 ≤ R.locals
    rw [zcat_map]
    omega
  · cases h
theorem snd_ireturn (hr : ret = some .int) (hdg : decode cc pc = .ok (.ireturn, 1)) : zSnd I own nm cc nL ret pc op_ireturn := by
  subst hr
  refine ⟨lin_ireturn, fun p l e R s m args below meth c G d Qf rv M0 Mr C0 call k hc hk L st M h => ?_⟩
  unfold op_ireturn at h
  split at h
  · cases h
    have hz : zkok (some .int) (.int (by assumption)) := Or.inl ⟨_, rfl, rfl⟩
    exact ⟨⟨zGr.rf _, hz⟩, fun hg H locs ls hP hS hl => C0.2.2.2 hz pc H locs ls hdg hP hS⟩
  · cases h
theorem snd_zreturn (hr : ret = some .boolean) (hdg : decode cc pc = .ok (.ireturn, 1)) : zSnd I own nm cc nL ret pc op_zreturn := by
  subst hr
  refine ⟨lin_zreturn, fun p l e R s m args below meth c G d Qf rv M0 Mr C0 call k hc hk L st M h => ?_⟩
  unfold op_zreturn at h
  split at h
  · rename_i v
    split at h
    · rename_i hv
      cases h
      have hz : zkok (some .boolean) (.int v) := Or.inl ⟨_, rfl, by rcases hv with rfl | rfl <;> rfl⟩
      exact ⟨⟨zGr.rf _, hz⟩, fun hg H locs ls hP hS hl => C0.2.2.2 hz pc H locs ls hdg hP hS⟩
    · cases h
  · cases h
theorem snd_lreturn (hr : ret = some .long) (hdg : decode cc pc = .ok (.lreturn, 1)) : zSnd I own nm cc nL ret pc op_lreturn := by
  subst hr
  refine ⟨lin_lreturn, fun p l e R s m args below meth c G d Qf rv M0 Mr C0 call k hc hk L st M h => ?_⟩
  unfold op_lreturn at h
  split at h
  · rename_i v
    cases h
    have hz : zkok (some .long) (.long v) := Or.inr ⟨_, rfl, rfl⟩
    exact ⟨⟨zGr.rf _, hz⟩, fun hg H locs ls hP hS hl => C0.2.2.2 hz pc H locs ls hdg hP hS⟩
  · cases h
theorem snd_vreturn (hr : ret = none) (hdg : decode cc pc = .ok (.return_, 1)) : zSnd I own nm cc nL ret pc op_vreturn := by
  subst hr
  refine ⟨lin_vreturn, fun p l e R s m args below meth c G d Qf rv M0 Mr C0 call k hc hk L st M h => ?_⟩
  unfold op_vreturn at h
  split at h
  · cases h
    exact ⟨⟨zGr.rf _, rfl⟩, fun hg H locs ls hP hS hl => C0.2.2.2 rfl pc H locs ls hdg hP hS⟩
  · cases h
theorem zsw_id {α : Type} (k : Nat → α) (x : Int32) (d : Nat) : ∀ ts : List (Int32 × Nat), zsw k x d ts = k (zsw (fun t => t) x d ts)
  | [] => rfl
  | q :: r => by
    show (if x = q.1 then k q.2 else zsw k x d r) = k (if x = q.1 then q.2 else zsw (fun t => t) x d r)
    by_cases hx : x = q.1
    · rw [if_pos hx, if_pos hx]
    · rw [if_neg hx, if_neg hx]
      exact zsw_id k x d r
theorem snd_sw {ts : List (Int32 × Nat)} {dd : Nat} (tr : ∀ x st, zTr own cc pc (zsw (fun t => t) x dd ts) (.int x :: st) st) : zSnd I own nm cc nL ret pc (op_sw ts dd) := by
  refine ⟨lin_sw ts dd, fun p l e R s m args below meth c G d Qf rv M0 Mr C call k hc hk L st M h => ?_⟩
  unfold op_sw at h
  split at h
  · rw [zsw_id] at h
    have h1 := hk _ _ _ _ h
    refine ⟨h1.1, fun hg H locs ls hP hS hl => ?_⟩
    exact tr _ _ p l e R s m args below meth c H locs _ _ Qf ls C.1.1 C.1.2.1 C.1.2.2.2.1 C.1.2.2.2.2.2 (h1.2 hg H locs ls hP hS hl)
  · cases h
theorem zsw_out {x : Int32} {d : Nat} : ∀ {ts : List (Int32 × Nat)}, (∀ q ∈ ts, x ≠ q.1) → zsw (fun t => t) x d ts = d
  | [], _ => rfl
  | q :: r, h => by
    show (if x = q.1 then q.2 else zsw (fun t => t) x d r) = d
    rw [if_neg (h q List.mem_cons_self)]
    exact zsw_out fun a ha => h a (List.mem_cons_of_mem _ ha)
theorem zsw_hit {x : Int32} {d : Nat} : ∀ {ts : List (Int32 × Nat)} {i t : Nat}, ts[i]? = some (x, t) → (∀ j q, j < i → ts[j]? = some q → x ≠ q.1) → zsw (fun t => t) x d ts = t
  | [], i, t, h, _ => by simp at h
  | q :: r, 0, t, h, _ => by
    simp at h
    subst h
    show (if x = x then t else _) = t
    rw [if_pos rfl]
  | q :: r, i + 1, t, h, hn => by
    show (if x = q.1 then q.2 else zsw (fun t => t) x d r) = t
    rw [if_neg (hn 0 q (Nat.zero_lt_succ _) rfl)]
    exact zsw_hit (i := i) (by simpa using h) fun j a hj ha => hn (j + 1) a (Nat.succ_lt_succ hj) (by simpa using ha)
theorem snd_tsw {dflt lo hi : Int} {offs : Array Int} {len : Nat} {ts : List (Int32 × Nat)} {dd : Nat} (hdg : decode cc pc = .ok (.tableswitch dflt lo hi offs, len)) (hd : (pc : Int) + dflt = (dd : Int)) (hn : (ts.length : Int) = hi - lo + 1)
    (hts : ∀ j, j < ts.length → (ts.getD j (0, 0)).1.toInt = lo + (j : Int) ∧ ∃ o, offs[j]? = some o ∧ (pc : Int) + o = ((ts.getD j (0, 0)).2 : Int)) : zSnd I own nm cc nL ret pc (op_sw ts dd) := by
  refine snd_sw fun x st p l e R s m args below meth c H locs cells slots Q ls hx hb ho hts0 hW => ?_
  by_cases hr : x.toInt < lo ∨ hi < x.toInt
  · rw [zsw_out ?_] at hW
    · exact lv_tableOut hx hb hdg hr hd hW
    · intro q hq he
      obtain ⟨j, hj⟩ := List.getElem?_of_mem hq
      have hl := (List.getElem?_eq_some_iff.mp hj).1
      have h1 := (hts j hl).1
      rw [List.getD_eq_getElem?_getD, hj] at h1
      simp only [Option.getD_some] at h1
      rw [← he] at h1
      omega
  · have hlo : ¬ x.toInt < lo := fun q => hr (Or.inl q)
    have hhi : ¬ hi < x.toInt := fun q => hr (Or.inr q)
    have hj : (x.toInt - lo).toNat < ts.length := by omega
    obtain ⟨h1, o, h2, h3⟩ := hts _ hj
    have hg : ts[(x.toInt - lo).toNat]? = some ts[(x.toInt - lo).toNat] := List.getElem?_eq_getElem hj
    rw [List.getD_eq_getElem?_getD, hg] at h1 h3
    simp only [Option.getD_some] at h1 h3
    have hxe : ts[(x.toInt - lo).toNat].1 = x := Int32.toInt_inj.mp (by rw [h1]; omega)
    rw [zsw_hit (i := (x.toInt - lo).toNat) (t := ts[(x.toInt - lo).toNat].2) (by rw [hg]; exact congrArg some (Prod.ext hxe rfl)) ?_] at hW
    · exact lv_tableIn hx hb hdg hlo hhi h2 h3 hW
    · intro j q hjl hq he
      have hl := (List.getElem?_eq_some_iff.mp hq).1
      have h4 := (hts j hl).1
      rw [List.getD_eq_getElem?_getD, hq] at h4
      simp only [Option.getD_some] at h4
      rw [← he] at h4
      omega
theorem snd_lsw {dflt : Int} {ps : Array (Int × Int)} {len : Nat} {ts : List (Int32 × Nat)} {dd : Nat} (hdg : decode cc pc = .ok (.lookupswitch dflt ps, len)) (hp : (ps.toList.zip (ps.toList.drop 1)).all (fun (a, next) => a.1 < next.1) = true) (hd : (pc : Int) + dflt = (dd : Int))
    (hts : ps.toList = ts.map (fun q => (q.1.toInt, (q.2 : Int) - (pc : Int)))) : zSnd I own nm cc nL ret pc (op_sw ts dd) := by
  refine snd_sw fun x st p l e R s m args below meth c H locs cells slots Q ls hx hb ho hts0 hW => ?_
  have key : ∀ r : List (Int32 × Nat), (pc : Int) + Op.lookupswitch.offset (r.map (fun q => (q.1.toInt, (q.2 : Int) - (pc : Int)))) dflt x.toInt = ((zsw (fun t => t) x dd r : Nat) : Int) := by
    intro r
    induction r with
    | nil => exact hd
    | cons q r ih =>
      rw [List.map_cons, Op.lookupswitch.offset_cons]
      show _ = (((if x = q.1 then q.2 else zsw (fun t => t) x dd r) : Nat) : Int)
      by_cases hx : x = q.1
      · rw [if_pos hx, if_pos (by first | rw [hx] | exact congrArg Int32.toInt hx.symm)]
        omega
      · rw [if_neg hx, if_neg (fun z => hx (Int32.toInt_inj.mp (by first | exact z | exact z.symm)))]
        exact ih
  exact lv_lookup hx hb hdg hp rfl (by rw [hts]; exact key ts) hW
end SND6
