section SND2
variable {I : zI} {own nm : String} {cc : ByteArray} {nL : Nat} {ret : Option FieldType} {pc n t i : Nat}
theorem zrl_ref (G : zG) (x : Nat) : ∃ a, zrl G (.ref x) = .ref a := by
  cases x with
  | zero => exact ⟨_, rfl⟩
  | succ k => exact ⟨_, rfl⟩
theorem snd_ild (row : ∀ (p : Program) (l : Launch) (e : Env) (R : Room) (s : State) (m : MethodId) (args : Array Value) (below : List Frame) (meth : Method) (c : Code) (H : Heap) (locs : List Loc) (cells slots : Nat) (Q : State → Prop) (ls : Array Slot) (rest : List Value) (x : Int32), p.tables.exec = Jvm.exec → c.code = cc → ls[i]? = some (.val (.int x)) →
    W p l e R s m args below meth c H locs cells slots Q (F0 m n ls (.int x :: rest)) → W p l e R s m args below meth c H locs cells slots Q (F0 m pc ls rest)) : zSnd I own nm cc nL ret pc (op_ild i n) := by
  refine ⟨lin_ild _ _, fun p l e R s m args below meth c G d Qf rv M0 Mr C call k hc hk L st M h => ?_⟩
  unfold op_ild at h
  split at h
  · rename_i x hx
    have h1 := hk _ _ _ _ h
    exact ⟨h1.1, fun hg H locs ls hP hS hl => row p l e R s m args below meth c H locs _ _ Qf ls _ x C.1.1 C.1.2.1 (zlk_get hl hx (by nofun)) (h1.2 hg H locs ls hP hS hl)⟩
  · cases h
theorem snd_iload_n {k : Fin 4} (hdg : decode cc pc = .ok (.iload_n k, 1)) (hi : (k : Nat) = i) : zSnd I own nm cc nL ret pc (op_ild i (pc + 1)) :=
  snd_ild fun _ _ _ _ _ _ _ _ _ _ _ _ _ _ _ _ _ _ hx hb hl hW => lv_iload_n hx hb hdg hi hl hW
theorem snd_iload (hdg : decode cc pc = .ok (.iload i, 2)) : zSnd I own nm cc nL ret pc (op_ild i (pc + 2)) :=
  snd_ild fun _ _ _ _ _ _ _ _ _ _ _ _ _ _ _ _ _ _ hx hb hl hW => lv_iload hx hb hdg hl hW
theorem snd_lld (row : ∀ (p : Program) (l : Launch) (e : Env) (R : Room) (s : State) (m : MethodId) (args : Array Value) (below : List Frame) (meth : Method) (c : Code) (H : Heap) (locs : List Loc) (cells slots : Nat) (Q : State → Prop) (ls : Array Slot) (rest : List Value) (x : Int64), p.tables.exec = Jvm.exec → c.code = cc → ls[i]? = some (.val (.long x)) →
    W p l e R s m args below meth c H locs cells slots Q (F0 m n ls (.long x :: rest)) → W p l e R s m args below meth c H locs cells slots Q (F0 m pc ls rest)) : zSnd I own nm cc nL ret pc (op_lld i n) := by
  refine ⟨lin_lld _ _, fun p l e R s m args below meth c G d Qf rv M0 Mr C call k hc hk L st M h => ?_⟩
  unfold op_lld at h
  split at h
  · rename_i x hx
    have h1 := hk _ _ _ _ h
    exact ⟨h1.1, fun hg H locs ls hP hS hl => row p l e R s m args below meth c H locs _ _ Qf ls _ x C.1.1 C.1.2.1 (zlk_get hl hx (by nofun)) (h1.2 hg H locs ls hP hS hl)⟩
  · cases h
theorem snd_lload_n {k : Fin 4} (hdg : decode cc pc = .ok (.lload_n k, 1)) (hi : (k : Nat) = i) : zSnd I own nm cc nL ret pc (op_lld i (pc + 1)) :=
  snd_lld fun _ _ _ _ _ _ _ _ _ _ _ _ _ _ _ _ _ _ hx hb hl hW => lv_lload_n hx hb hdg hi hl hW
theorem snd_lload (hdg : decode cc pc = .ok (.lload i, 2)) : zSnd I own nm cc nL ret pc (op_lld i (pc + 2)) :=
  snd_lld fun _ _ _ _ _ _ _ _ _ _ _ _ _ _ _ _ _ _ hx hb hl hW => lv_lload hx hb hdg hl hW
theorem snd_ald (row : ∀ (p : Program) (l : Launch) (e : Env) (R : Room) (s : State) (m : MethodId) (args : Array Value) (below : List Frame) (meth : Method) (c : Code) (H : Heap) (locs : List Loc) (cells slots : Nat) (Q : State → Prop) (ls : Array Slot) (rest : List Value) (x : Option Nat), p.tables.exec = Jvm.exec → c.code = cc → ls[i]? = some (.val (va_rf x)) →
    W p l e R s m args below meth c H locs cells slots Q (F0 m n ls (va_rf x :: rest)) → W p l e R s m args below meth c H locs cells slots Q (F0 m pc ls rest)) : zSnd I own nm cc nL ret pc (op_ald i n) := by
  refine ⟨lin_ald _ _, fun p l e R s m args below meth c G d Qf rv M0 Mr C call k hc hk L st M h => ?_⟩
  unfold op_ald at h
  split at h
  · rename_i x hx
    have h1 := hk _ _ _ _ h
    refine ⟨h1.1, fun hg H locs ls hP hS hl => ?_⟩
    obtain ⟨a, ha⟩ := zrl_ref G x
    have h2 := h1.2 hg H locs ls hP hS hl
    rw [List.map_cons, ha] at h2
    have h3 := zlk_get hl hx (by nofun)
    rw [ha] at h3
    exact row p l e R s m args below meth c H locs _ _ Qf ls _ (some a) C.1.1 C.1.2.1 h3 h2
  · rename_i x hx
    have h1 := hk _ _ _ _ h
    refine ⟨h1.1, fun hg H locs ls hP hS hl => ?_⟩
    exact row p l e R s m args below meth c H locs _ _ Qf ls _ (G.2.2.2.2 x) C.1.1 C.1.2.1 (zlk_get hl hx (by nofun)) (h1.2 hg H locs ls hP hS hl)
  · cases h
theorem snd_aload_n {k : Fin 4} (hdg : decode cc pc = .ok (.aload_n k, 1)) (hi : (k : Nat) = i) : zSnd I own nm cc nL ret pc (op_ald i (pc + 1)) :=
  snd_ald fun _ _ _ _ _ _ _ _ _ _ _ _ _ _ _ _ _ x hx hb hl hW => by
    cases x with
    | none => exact lv_aload_nN hx hb hdg hi hl hW
    | some a => exact lv_aload_n hx hb hdg hi hl hW
theorem snd_aload (hdg : decode cc pc = .ok (.aload i, 2)) : zSnd I own nm cc nL ret pc (op_ald i (pc + 2)) :=
  snd_ald fun _ _ _ _ _ _ _ _ _ _ _ _ _ _ _ _ _ x hx hb hl hW => by
    cases x with
    | none => exact lv_aloadN hx hb hdg hl hW
    | some a => exact lv_aload hx hb hdg hl hW
theorem snd_istore_n {k : Fin 4} (hdg : decode cc pc = .ok (.istore_n k, 1)) (hi : (k : Nat) = i) (hn : i < nL) : zSnd I own nm cc nL ret pc (op_ist i (pc + 1)) := by
  refine ⟨lin_ist _ _, fun p l e R s m args below meth c G d Qf rv M0 Mr C call k hc hk L st M h => ?_⟩
  unfold op_ist at h
  split at h
  · · have h1 := hk _ _ _ _ h
      exact ⟨h1.1, fun hg H locs ls hP hS hl => lv_istore_n (lv := zpairs G L) C.1.1 C.1.2.1 hdg hi hl.2 hn rfl (fun ls' h' => h1.2 hg H locs ls' hP hS (zlk_store1 hl hn h'))⟩
  · cases h
theorem snd_istore (hdg : decode cc pc = .ok (.istore i, 2)) (hn : i < nL) : zSnd I own nm cc nL ret pc (op_ist i (pc + 2)) := by
  refine ⟨lin_ist _ _, fun p l e R s m args below meth c G d Qf rv M0 Mr C call k hc hk L st M h => ?_⟩
  unfold op_ist at h
  split at h
  · · have h1 := hk _ _ _ _ h
      exact ⟨h1.1, fun hg H locs ls hP hS hl => lv_istore (lv := zpairs G L) C.1.1 C.1.2.1 hdg hl.2 hn rfl (fun ls' h' => h1.2 hg H locs ls' hP hS (zlk_store1 hl hn h'))⟩
  · cases h
theorem snd_lstore_n {k : Fin 4} (hdg : decode cc pc = .ok (.lstore_n k, 1)) (hi : (k : Nat) = i) (hn : i + 1 < nL) : zSnd I own nm cc nL ret pc (op_lst i (pc + 1)) := by
  refine ⟨lin_lst _ _, fun p l e R s m args below meth c G d Qf rv M0 Mr C call k hc hk L st M h => ?_⟩
  unfold op_lst at h
  split at h
  · · have h1 := hk _ _ _ _ h
      exact ⟨h1.1, fun hg H locs ls hP hS hl => lv_lstore_n (lv := zpairs G L) C.1.1 C.1.2.1 hdg hi hl.2 hn rfl (fun ls' h' => h1.2 hg H locs ls' hP hS (zlk_store2 hl hn h'))⟩
  · cases h
theorem snd_lstore (hdg : decode cc pc = .ok (.lstore i, 2)) (hn : i + 1 < nL) : zSnd I own nm cc nL ret pc (op_lst i (pc + 2)) := by
  refine ⟨lin_lst _ _, fun p l e R s m args below meth c G d Qf rv M0 Mr C call k hc hk L st M h => ?_⟩
  unfold op_lst at h
  split at h
  · · have h1 := hk _ _ _ _ h
      exact ⟨h1.1, fun hg H locs ls hP hS hl => lv_lstore (lv := zpairs G L) C.1.1 C.1.2.1 hdg hl.2 hn rfl (fun ls' h' => h1.2 hg H locs ls' hP hS (zlk_store2 hl hn h'))⟩
  · cases h
theorem snd_astore_n {k : Fin 4} (hdg : decode cc pc = .ok (.astore_n k, 1)) (hi : (k : Nat) = i) (hn : i < nL) : zSnd I own nm cc nL ret pc (op_ast i (pc + 1)) := by
  refine ⟨lin_ast _ _, fun p l e R s m args below meth c G d Qf rv M0 Mr C call k hc hk L st M h => ?_⟩
  unfold op_ast at h
  split at h
  · rename_i x r
    · have h1 := hk _ _ _ _ h
      refine ⟨h1.1, fun hg H locs ls hP hS hl => ?_⟩
      obtain ⟨a, ha⟩ := zrl_ref G x
      rw [List.map_cons, ha]
      exact lv_astore_n (lv := zpairs G L) C.1.1 C.1.2.1 hdg hi hl.2 hn rfl (fun ls' h' => h1.2 hg H locs ls' hP hS (zlk_store1 hl hn (by rw [ha]; exact h')))
  · cases h
theorem snd_iinc {kk : Int} {cI : Int32} (hdg : decode cc pc = .ok (.iinc i kk, 3)) (hv : Int32.ofInt kk = cI) (hn : i < nL) : zSnd I own nm cc nL ret pc (op_iinc i cI (pc + 3)) := by
  subst hv
  refine ⟨lin_iinc _ _ _, fun p l e R s m args below meth c G d Qf rv M0 Mr C call k hc hk L st M h => ?_⟩
  unfold op_iinc at h
  split at h
  · rename_i x hx
    · have h1 := hk _ _ _ _ h
      refine ⟨h1.1, fun hg H locs ls hP hS hl => ?_⟩
      have hin := zpairs_in (G := G) (L := L) (i := i) (by rw [hx]; nofun)
      rw [hx] at hin
      obtain ⟨q, hq⟩ := List.getElem?_of_mem hin
      exact lv_iinc (lv := zpairs G L) (k := q) C.1.1 C.1.2.1 hdg hl.2 hq rfl hn rfl (fun ls' h' => h1.2 hg H locs ls' hP hS (zlk_store1 hl hn h'))
  · cases h
theorem snd_ldc {idx : Nat} {v : Int32} (hc0 : Cond.constant own idx v ∈ lw_gd) (hdg : decode cc pc = .ok (.ldc idx, 2)) : zSnd I own nm cc nL ret pc (op_const (.int v) (pc + 2)) :=
  snd_const (fun _ => rfl) fun st p l e R s m args below meth c H locs cells slots Q ls hx hb ho hts hW => lv_ldc hx hb ho (hts _ hc0) hdg hW
theorem snd_ldcw {idx : Nat} {v : Int32} (hc0 : Cond.constant own idx v ∈ lw_gd) (hdg : decode cc pc = .ok (.ldc_w idx, 3)) : zSnd I own nm cc nL ret pc (op_const (.int v) (pc + 3)) :=
  snd_const (fun _ => rfl) fun st p l e R s m args below meth c H locs cells slots Q ls hx hb ho hts hW => lv_ldcw hx hb ho (hts _ hc0) hdg hW
theorem snd_ldc2 {idx : Nat} {v : Int64} (hc0 : Cond.constantLong own idx v ∈ lw_gd) (hdg : decode cc pc = .ok (.ldc2_w idx, 3)) : zSnd I own nm cc nL ret pc (op_const (.long v) (pc + 3)) :=
  snd_const (fun _ => rfl) fun st p l e R s m args below meth c H locs cells slots Q ls hx hb ho hts hW => lv_ldc2 hx hb ho (hts _ hc0) hdg hW
theorem snd_iconst {kk : Int} {v : Int32} (hdg : decode cc pc = .ok (.iconst kk, 1)) (hv : Int32.ofInt kk = v) : zSnd I own nm cc nL ret pc (op_const (.int v) (pc + 1)) :=
  snd_const (fun _ => rfl) fun st p l e R s m args below meth c H locs cells slots Q ls hx hb ho hts hW => lv_iconst hx hb hdg hv hW
theorem snd_bipush {kk : Int} {v : Int32} (hdg : decode cc pc = .ok (.bipush kk, 2)) (hv : (Int8.ofInt kk).toInt32 = v) : zSnd I own nm cc nL ret pc (op_const (.int v) (pc + 2)) :=
  snd_const (fun _ => rfl) fun st p l e R s m args below meth c H locs cells slots Q ls hx hb ho hts hW => lv_bipush hx hb hdg hv hW
theorem snd_sipush {kk : Int} {v : Int32} (hdg : decode cc pc = .ok (.sipush kk, 3)) (hv : (Int16.ofInt kk).toInt32 = v) : zSnd I own nm cc nL ret pc (op_const (.int v) (pc + 3)) :=
  snd_const (fun _ => rfl) fun st p l e R s m args below meth c H locs cells slots Q ls hx hb ho hts hW => lv_sipush hx hb hdg hv hW
theorem snd_lconst {kk : Fin 2} {v : Int64} (hdg : decode cc pc = .ok (.lconst kk, 1)) (hv : Int64.ofNat (kk : Nat) = v) : zSnd I own nm cc nL ret pc (op_const (.long v) (pc + 1)) :=
  snd_const (fun _ => rfl) fun st p l e R s m args below meth c H locs cells slots Q ls hx hb ho hts hW => lv_lconst hx hb hdg hv hW
/-- the arithmetic -/
theorem snd_iadd (hdg : decode cc pc = .ok (.iadd, 1)) : zSnd I own nm cc nL ret pc (op_i2 (fun x y => x + y) (pc + 1)) := snd_i2 fun x y st p l e R s m args below meth c H locs cells slots Q ls hx hb ho hts hW => lv_iadd hx hb hdg hW
theorem snd_isub (hdg : decode cc pc = .ok (.isub, 1)) : zSnd I own nm cc nL ret pc (op_i2 (fun x y => x - y) (pc + 1)) := snd_i2 fun x y st p l e R s m args below meth c H locs cells slots Q ls hx hb ho hts hW => lv_isub hx hb hdg hW
theorem snd_imul (hdg : decode cc pc = .ok (.imul, 1)) : zSnd I own nm cc nL ret pc (op_i2 (fun x y => x * y) (pc + 1)) := snd_i2 fun x y st p l e R s m args below meth c H locs cells slots Q ls hx hb ho hts hW => lv_imul hx hb hdg hW
theorem snd_iand (hdg : decode cc pc = .ok (.iand, 1)) : zSnd I own nm cc nL ret pc (op_i2 (fun x y => x &&& y) (pc + 1)) := snd_i2 fun x y st p l e R s m args below meth c H locs cells slots Q ls hx hb ho hts hW => lv_iand hx hb hdg hW
theorem snd_ior (hdg : decode cc pc = .ok (.ior, 1)) : zSnd I own nm cc nL ret pc (op_i2 (fun x y => x ||| y) (pc + 1)) := snd_i2 fun x y st p l e R s m args below meth c H locs cells slots Q ls hx hb ho hts hW => lv_ior hx hb hdg hW
theorem snd_ixor (hdg : decode cc pc = .ok (.ixor, 1)) : zSnd I own nm cc nL ret pc (op_i2 (fun x y => x ^^^ y) (pc + 1)) := snd_i2 fun x y st p l e R s m args below meth c H locs cells slots Q ls hx hb ho hts hW => lv_ixor hx hb hdg hW
theorem snd_ishl (hdg : decode cc pc = .ok (.ishl, 1)) : zSnd I own nm cc nL ret pc (op_i2 (fun x y => x <<< (y &&& 31)) (pc + 1)) := snd_i2 fun x y st p l e R s m args below meth c H locs cells slots Q ls hx hb ho hts hW => lv_ishl hx hb hdg hW
theorem snd_ishr (hdg : decode cc pc = .ok (.ishr, 1)) : zSnd I own nm cc nL ret pc (op_i2 (fun x y => x >>> (y &&& 31)) (pc + 1)) := snd_i2 fun x y st p l e R s m args below meth c H locs cells slots Q ls hx hb ho hts hW => lv_ishr hx hb hdg hW
theorem snd_iushr (hdg : decode cc pc = .ok (.iushr, 1)) : zSnd I own nm cc nL ret pc (op_i2 (fun x y => (x.toUInt32 >>> (y.toUInt32 &&& Int32.toUInt32 31)).toInt32) (pc + 1)) := snd_i2 fun x y st p l e R s m args below meth c H locs cells slots Q ls hx hb ho hts hW => lv_iushr hx hb hdg rfl hW
theorem snd_idiv (hdg : decode cc pc = .ok (.idiv, 1)) : zSnd I own nm cc nL ret pc (op_i2z (fun x y => x / y) (pc + 1)) := snd_i2z fun x y st hne p l e R s m args below meth c H locs cells slots Q ls hx hb ho hts hW => lv_idiv hx hb hdg hne hW
theorem snd_irem (hdg : decode cc pc = .ok (.irem, 1)) : zSnd I own nm cc nL ret pc (op_i2z (fun x y => x - x / y * y) (pc + 1)) := snd_i2z fun x y st hne p l e R s m args below meth c H locs cells slots Q ls hx hb ho hts hW => lv_irem hx hb hdg hne hW
theorem snd_ineg (hdg : decode cc pc = .ok (.ineg, 1)) : zSnd I own nm cc nL ret pc (op_i1 (fun x => -x) (pc + 1)) := snd_i1 fun x st p l e R s m args below meth c H locs cells slots Q ls hx hb ho hts hW => lv_ineg hx hb hdg hW
theorem snd_i2c (hdg : decode cc pc = .ok (.i2c, 1)) : zSnd I own nm cc nL ret pc (op_i1 (fun x => (x.toUInt32 % 65536).toInt32) (pc + 1)) := snd_i1 fun x st p l e R s m args below meth c H locs cells slots Q ls hx hb ho hts hW => lv_i2c hx hb hdg rfl hW
theorem snd_ladd (hdg : decode cc pc = .ok (.ladd, 1)) : zSnd I own nm cc nL ret pc (op_l2 (fun x y => x + y) (pc + 1)) := snd_l2 fun x y st p l e R s m args below meth c H locs cells slots Q ls hx hb ho hts hW => lv_ladd hx hb hdg hW
theorem snd_lsub (hdg : decode cc pc = .ok (.lsub, 1)) : zSnd I own nm cc nL ret pc (op_l2 (fun x y => x - y) (pc + 1)) := snd_l2 fun x y st p l e R s m args below meth c H locs cells slots Q ls hx hb ho hts hW => lv_lsub hx hb hdg hW
theorem snd_lmul (hdg : decode cc pc = .ok (.lmul, 1)) : zSnd I own nm cc nL ret pc (op_l2 (fun x y => x * y) (pc + 1)) := snd_l2 fun x y st p l e R s m args below meth c H locs cells slots Q ls hx hb ho hts hW => lv_lmul hx hb hdg hW
theorem snd_ldiv (hdg : decode cc pc = .ok (.ldiv, 1)) : zSnd I own nm cc nL ret pc (op_l2z (fun x y => x / y) (pc + 1)) := snd_l2z fun x y st hne p l e R s m args below meth c H locs cells slots Q ls hx hb ho hts hW => lv_ldiv hx hb hdg hne hW
theorem snd_lrem (hdg : decode cc pc = .ok (.lrem, 1)) : zSnd I own nm cc nL ret pc (op_l2z (fun x y => x - x / y * y) (pc + 1)) := snd_l2z fun x y st hne p l e R s m args below meth c H locs cells slots Q ls hx hb ho hts hW => lv_lrem hx hb hdg hne hW
theorem snd_lneg (hdg : decode cc pc = .ok (.lneg, 1)) : zSnd I own nm cc nL ret pc (op_l1 (fun x => -x) (pc + 1)) := snd_l1 fun x st p l e R s m args below meth c H locs cells slots Q ls hx hb ho hts hW => lv_lneg hx hb hdg hW
theorem snd_lshl (hdg : decode cc pc = .ok (.lshl, 1)) : zSnd I own nm cc nL ret pc (op_lsh (fun x y => x <<< (y.toInt64 &&& 63)) (pc + 1)) := snd_lsh fun x y st p l e R s m args below meth c H locs cells slots Q ls hx hb ho hts hW => lv_lshl hx hb hdg rfl hW
theorem snd_lshr (hdg : decode cc pc = .ok (.lshr, 1)) : zSnd I own nm cc nL ret pc (op_lsh (fun x y => x >>> (y.toInt64 &&& 63)) (pc + 1)) := snd_lsh fun x y st p l e R s m args below meth c H locs cells slots Q ls hx hb ho hts hW => lv_lshr hx hb hdg rfl hW
end SND2
