/-! SOUND: an instruction of the machine is the bytecode's -/
/-- what grows -/
def zGr (M M' : zM) : Prop := zlen M ≤ zlen M' ∧ zsl M ≤ zsl M' ∧ M'.1.1 = M.1.1 ∧ M'.2.1 0 = M.2.1 0
theorem zGr.rf (M : zM) : zGr M M := ⟨Nat.le_refl _, Nat.le_refl _, rfl, rfl⟩
theorem zGr.tr {A B C : zM} (h : zGr A B) (k : zGr B C) : zGr A C := ⟨Nat.le_trans h.1 k.1, Nat.le_trans h.2.1 k.2.1, k.2.2.1.trans h.2.2.1, k.2.2.2.trans h.2.2.2⟩
def zkok (ret : Option FieldType) (v : Value) : Prop := match ret with
  | none => v = .null
  | some ty => (∃ x, v = .int x ∧ narrow ty (.int x) = .int x) ∨ ∃ x, v = .long x ∧ ty = .long
def zro (G : zG) (v : Value) : Option Value := match v with
  | .null => none
  | v => some (zrl G v)
abbrev zI : Type := Nat → MethodName × ByteArray × Nat × Option FieldType
def zwd (I : zI) (j : Nat) : List Cond := .code (I j).1 (I j).2.1 (I j).2.2.1 (I j).2.2.2 :: lw_gd
def zrm (d mc ms : Nat) : Room := { frames := d, cells := mc, slots := ms, locals := 40 * d }
def zWorld (G : zG) (M : zM) (U : State) : Prop := U.heap.size = G.1 + zlen M ∧ va_P G.2.2.1 vwCl (zws G M) U.heap ∧ va_K G.2.2.1 vwCl (ztys G) U ∧ va_X G.2.1 M.1.1 (M.2.1 0) U U.heap ∧ G.2.1 < G.1 ∧ zNst U ∧ zStr G U U.heap
def zPc (G : zG) (a : zL) (M : zM) : Array Value → State → Prop := va_Pc (a.map (zrl G)) (zWorld G M)
def zQc (G : zG) (v : Value) (M' : zM) : Array Value → State → Outcome → State → Prop := fun _ st o t => o = .returned (zro G v) ∧ va_P G.2.2.1 vwCl (zws G M') t.heap ∧ va_F (zA G) st t
/-- what a call's machine says, the callee's bytecode does -/
def zCal (l : Launch) (G : zG) (I : zI) (d : Nat) (call : zC) : Prop := ∀ (j : Nat) (a : zL) (M : zM) (v : Value) (M' : zM), call j a M = some (v, M') →
  zGr M M' ∧ zkok (I j).2.2.2 v ∧ Met l (I j).1 (zwd I j) (zrm d (zlen M' - zlen M) (zsl M' - zsl M)) (zPc G a M) (zQc G v M') (zlen M' - zlen M) (zsl M' - zsl M) (zA G)
/-- the place of a return -/
def zRet (cc : ByteArray) (pc : Nat) (v : Value) : Prop := match v with
  | .int _ => decode cc pc = .ok (.ireturn, 1)
  | .long _ => decode cc pc = .ok (.lreturn, 1)
  | _ => decode cc pc = .ok (.return_, 1)
/-- what holds all through a method's body -/
def zCtx (p : Program) (l : Launch) (e : Env) (R : Room) (s : State) (m : MethodId) (args : Array Value) (below : List Frame) (meth : Method) (c : Code) (G : zG) (own nm : String) (cc : ByteArray) (nL : Nat) (ret : Option FieldType) (d : Nat) (Qf : State → Prop) (rv : Value) (M0 Mr : zM) : Prop :=
  (p.tables.exec = Jvm.exec ∧ c.code = cc ∧ c.maxLocals = nL ∧ s.vm.findClass own = some m.cls ∧ meth.name = nm ∧ ∀ w ∈ lw_gd, w.before args s = true) ∧ zWorld G M0 s ∧
  (zlen Mr - zlen M0 ≤ R.cells ∧ zsl Mr - zsl M0 ≤ R.slots ∧ d + 1 ≤ R.frames ∧ 40 * (d + 1) ≤ R.locals) ∧
  (zkok ret rv → ∀ (pc : Nat) (H : Heap) (locs : List Loc) (ls : Array Slot), zRet cc pc rv → va_P G.2.2.1 vwCl (zws G Mr) H → va_S (zA G) s.heap H locs → W p l e R s m args below meth c H locs (zlen Mr - zlen M0) (zsl Mr - zsl M0) Qf (F0 m pc ls ((zrs rv).map (zrl G))))
def zAt (p : Program) (l : Launch) (e : Env) (R : Room) (s : State) (m : MethodId) (args : Array Value) (below : List Frame) (meth : Method) (c : Code) (G : zG) (nL : Nat) (ret : Option FieldType) (Qf : State → Prop) (rv : Value) (M0 Mr : zM) (pc : Nat) (L st : zL) (M : zM) : Prop :=
  (zGr M Mr ∧ zkok ret rv) ∧ (zGr M0 M → ∀ (H : Heap) (locs : List Loc) (ls : Array Slot), va_P G.2.2.1 vwCl (zws G M) H → va_S (zA G) s.heap H locs → zlk G ls nL L →
    W p l e R s m args below meth c H locs (zlen M - zlen M0) (zsl M - zsl M0) Qf (F0 m pc ls (st.map (zrl G))))
def zSnd (I : zI) (own nm : String) (cc : ByteArray) (nL : Nat) (ret : Option FieldType) (pc : Nat) (op : zO) : Prop := zlin op ∧
  ∀ (p : Program) (l : Launch) (e : Env) (R : Room) (s : State) (m : MethodId) (args : Array Value) (below : List Frame) (meth : Method) (c : Code) (G : zG) (d : Nat) (Qf : State → Prop) (rv : Value) (M0 Mr : zM),
    zCtx p l e R s m args below meth c G own nm cc nL ret d Qf rv M0 Mr → ∀ (call : zC) (k : zK), zCal l G I d call →
    (∀ (pc' : Nat) (L st : zL) (M : zM), k pc' L st M = some (rv, Mr) → zAt p l e R s m args below meth c G nL ret Qf rv M0 Mr pc' L st M) →
    ∀ (L st : zL) (M : zM), op call k L st M = some (rv, Mr) → zAt p l e R s m args below meth c G nL ret Qf rv M0 Mr pc L st M
section SND
variable {I : zI} {own nm : String} {cc : ByteArray} {nL : Nat} {ret : Option FieldType} {pc n t : Nat}
theorem snd_bad : zSnd I own nm cc nL ret pc op_bad := ⟨lin_bad, fun _ _ _ _ _ _ _ _ _ _ _ _ _ _ _ _ _ _ _ _ _ _ _ _ h => by cases h⟩
/-- a row of the kit that moves the stack alone -/
def zTr (own : String) (cc : ByteArray) (pc n : Nat) (st st' : List Value) : Prop := ∀ (p : Program) (l : Launch) (e : Env) (R : Room) (s : State) (m : MethodId) (args : Array Value) (below : List Frame) (meth : Method) (c : Code) (H : Heap) (locs : List Loc) (cells slots : Nat) (Q : State → Prop) (ls : Array Slot),
  p.tables.exec = Jvm.exec → c.code = cc → s.vm.findClass own = some m.cls → (∀ w ∈ lw_gd, w.before args s = true) → W p l e R s m args below meth c H locs cells slots Q (F0 m n ls st') → W p l e R s m args below meth c H locs cells slots Q (F0 m pc ls st)
theorem snd_const {v : Value} (hv : ∀ G, zrl G v = v) (tr : ∀ st, zTr own cc pc n st (v :: st)) : zSnd I own nm cc nL ret pc (op_const v n) := by
  refine ⟨lin_const v n, fun p l e R s m args below meth c G d Qf rv M0 Mr C call k hc hk L st M h => ?_⟩
  have h1 := hk _ _ _ _ h
  refine ⟨h1.1, fun hg H locs ls hP hS hl => ?_⟩
  have h2 := h1.2 hg H locs ls hP hS hl
  rw [List.map_cons, hv] at h2
  exact tr _ p l e R s m args below meth c H locs _ _ Qf ls C.1.1 C.1.2.1 C.1.2.2.2.1 C.1.2.2.2.2.2 h2
theorem snd_i2 {f : Int32 → Int32 → Int32} (tr : ∀ x y st, zTr own cc pc n (.int y :: .int x :: st) (.int (f x y) :: st)) : zSnd I own nm cc nL ret pc (op_i2 f n) := by
  refine ⟨lin_i2 f n, fun p l e R s m args below meth c G d Qf rv M0 Mr C call k hc hk L st M h => ?_⟩
  unfold op_i2 at h
  split at h
  · have h1 := hk _ _ _ _ h
    refine ⟨h1.1, fun hg H locs ls hP hS hl => ?_⟩
    exact tr _ _ _ p l e R s m args below meth c H locs _ _ Qf ls C.1.1 C.1.2.1 C.1.2.2.2.1 C.1.2.2.2.2.2 (h1.2 hg H locs ls hP hS hl)
  · cases h
theorem snd_i2z {f : Int32 → Int32 → Int32} (tr : ∀ x y st, ¬ y = 0 → zTr own cc pc n (.int y :: .int x :: st) (.int (f x y) :: st)) : zSnd I own nm cc nL ret pc (op_i2z f n) := by
  refine ⟨lin_i2z f n, fun p l e R s m args below meth c G d Qf rv M0 Mr C call k hc hk L st M h => ?_⟩
  unfold op_i2z at h
  split at h
  · split at h
    · cases h
    · rename_i hy
      have h1 := hk _ _ _ _ h
      refine ⟨h1.1, fun hg H locs ls hP hS hl => ?_⟩
      exact tr _ _ _ hy p l e R s m args below meth c H locs _ _ Qf ls C.1.1 C.1.2.1 C.1.2.2.2.1 C.1.2.2.2.2.2 (h1.2 hg H locs ls hP hS hl)
  · cases h
theorem snd_l2 {f : Int64 → Int64 → Int64} (tr : ∀ x y st, zTr own cc pc n (.long y :: .long x :: st) (.long (f x y) :: st)) : zSnd I own nm cc nL ret pc (op_l2 f n) := by
  refine ⟨lin_l2 f n, fun p l e R s m args below meth c G d Qf rv M0 Mr C call k hc hk L st M h => ?_⟩
  unfold op_l2 at h
  split at h
  · have h1 := hk _ _ _ _ h
    refine ⟨h1.1, fun hg H locs ls hP hS hl => ?_⟩
    exact tr _ _ _ p l e R s m args below meth c H locs _ _ Qf ls C.1.1 C.1.2.1 C.1.2.2.2.1 C.1.2.2.2.2.2 (h1.2 hg H locs ls hP hS hl)
  · cases h
theorem snd_l2z {f : Int64 → Int64 → Int64} (tr : ∀ x y st, ¬ y = 0 → zTr own cc pc n (.long y :: .long x :: st) (.long (f x y) :: st)) : zSnd I own nm cc nL ret pc (op_l2z f n) := by
  refine ⟨lin_l2z f n, fun p l e R s m args below meth c G d Qf rv M0 Mr C call k hc hk L st M h => ?_⟩
  unfold op_l2z at h
  split at h
  · split at h
    · cases h
    · rename_i hy
      have h1 := hk _ _ _ _ h
      refine ⟨h1.1, fun hg H locs ls hP hS hl => ?_⟩
      exact tr _ _ _ hy p l e R s m args below meth c H locs _ _ Qf ls C.1.1 C.1.2.1 C.1.2.2.2.1 C.1.2.2.2.2.2 (h1.2 hg H locs ls hP hS hl)
  · cases h
theorem snd_lsh {f : Int64 → Int32 → Int64} (tr : ∀ x y st, zTr own cc pc n (.int y :: .long x :: st) (.long (f x y) :: st)) : zSnd I own nm cc nL ret pc (op_lsh f n) := by
  refine ⟨lin_lsh f n, fun p l e R s m args below meth c G d Qf rv M0 Mr C call k hc hk L st M h => ?_⟩
  unfold op_lsh at h
  split at h
  · have h1 := hk _ _ _ _ h
    refine ⟨h1.1, fun hg H locs ls hP hS hl => ?_⟩
    exact tr _ _ _ p l e R s m args below meth c H locs _ _ Qf ls C.1.1 C.1.2.1 C.1.2.2.2.1 C.1.2.2.2.2.2 (h1.2 hg H locs ls hP hS hl)
  · cases h
theorem snd_i1 {f : Int32 → Int32} (tr : ∀ x st, zTr own cc pc n (.int x :: st) (.int (f x) :: st)) : zSnd I own nm cc nL ret pc (op_i1 f n) := by
  refine ⟨lin_i1 f n, fun p l e R s m args below meth c G d Qf rv M0 Mr C call k hc hk L st M h => ?_⟩
  unfold op_i1 at h
  split at h
  · have h1 := hk _ _ _ _ h
    refine ⟨h1.1, fun hg H locs ls hP hS hl => ?_⟩
    exact tr _ _ p l e R s m args below meth c H locs _ _ Qf ls C.1.1 C.1.2.1 C.1.2.2.2.1 C.1.2.2.2.2.2 (h1.2 hg H locs ls hP hS hl)
  · cases h
theorem snd_l1 {f : Int64 → Int64} (tr : ∀ x st, zTr own cc pc n (.long x :: st) (.long (f x) :: st)) : zSnd I own nm cc nL ret pc (op_l1 f n) := by
  refine ⟨lin_l1 f n, fun p l e R s m args below meth c G d Qf rv M0 Mr C call k hc hk L st M h => ?_⟩
  unfold op_l1 at h
  split at h
  · have h1 := hk _ _ _ _ h
    refine ⟨h1.1, fun hg H locs ls hP hS hl => ?_⟩
    exact tr _ _ p l e R s m args below meth c H locs _ _ Qf ls C.1.1 C.1.2.1 C.1.2.2.2.1 C.1.2.2.2.2.2 (h1.2 hg H locs ls hP hS hl)
  · cases h
theorem snd_i2l (hdg : decode cc pc = .ok (.i2l, 1)) : zSnd I own nm cc nL ret pc (op_i2l (pc + 1)) := by
  refine ⟨lin_i2l _, fun p l e R s m args below meth c G d Qf rv M0 Mr C call k hc hk L st M h => ?_⟩
  unfold op_i2l at h
  split at h
  · have h1 := hk _ _ _ _ h
    refine ⟨h1.1, fun hg H locs ls hP hS hl => ?_⟩
    exact lv_i2l C.1.1 C.1.2.1 hdg rfl (h1.2 hg H locs ls hP hS hl)
  · cases h
theorem snd_l2i (hdg : decode cc pc = .ok (.l2i, 1)) : zSnd I own nm cc nL ret pc (op_l2i (pc + 1)) := by
  refine ⟨lin_l2i _, fun p l e R s m args below meth c G d Qf rv M0 Mr C call k hc hk L st M h => ?_⟩
  unfold op_l2i at h
  split at h
  · have h1 := hk _ _ _ _ h
    refine ⟨h1.1, fun hg H locs ls hP hS hl => ?_⟩
    exact lv_l2i C.1.1 C.1.2.1 hdg rfl (h1.2 hg H locs ls hP hS hl)
  · cases h
theorem snd_lcmp (hdg : decode cc pc = .ok (.lcmp, 1)) : zSnd I own nm cc nL ret pc (op_lcmp (pc + 1)) := by
  refine ⟨lin_lcmp _, fun p l e R s m args below meth c G d Qf rv M0 Mr C call k hc hk L st M h => ?_⟩
  unfold op_lcmp at h
  split at h
  · have h1 := hk _ _ _ _ h
    refine ⟨h1.1, fun hg H locs ls hP hS hl => ?_⟩
    exact W.lcmp C.1.1 C.1.2.1 hdg (h1.2 hg H locs ls hP hS hl)
  · cases h
theorem snd_dup (hdg : decode cc pc = .ok (.dup, 1)) : zSnd I own nm cc nL ret pc (op_dup (pc + 1)) := by
  refine ⟨lin_dup _, fun p l e R s m args below meth c G d Qf rv M0 Mr C call k hc hk L st M h => ?_⟩
  unfold op_dup at h
  split at h
  · rename_i v r
    cases hz : zc2 v with
    | true => rw [hz] at h; cases h
    | false =>
      rw [hz] at h
      have h1 := hk _ _ _ _ h
      refine ⟨h1.1, fun hg H locs ls hP hS hl => ?_⟩
      exact lv_dup C.1.1 C.1.2.1 hdg (by rw [zrl_cat]; exact zc2_cat1 hz) (h1.2 hg H locs ls hP hS hl)
  · cases h
theorem snd_pop (hdg : decode cc pc = .ok (.pop, 1)) : zSnd I own nm cc nL ret pc (op_pop (pc + 1)) := by
  refine ⟨lin_pop _, fun p l e R s m args below meth c G d Qf rv M0 Mr C call k hc hk L st M h => ?_⟩
  unfold op_pop at h
  split at h
  · rename_i v r
    cases hz : zc2 v with
    | true => rw [hz] at h; cases h
    | false =>
      rw [hz] at h
      have h1 := hk _ _ _ _ h
      refine ⟨h1.1, fun hg H locs ls hP hS hl => ?_⟩
      exact lv_pop C.1.1 C.1.2.1 hdg (by rw [zrl_cat]; exact zc2_cat1 hz) (h1.2 hg H locs ls hP hS hl)
  · cases h
theorem snd_dup2 (hdg : decode cc pc = .ok (.dup2, 1)) : zSnd I own nm cc nL ret pc (op_dup2 (pc + 1)) := by
  refine ⟨lin_dup2 _, fun p l e R s m args below meth c G d Qf rv M0 Mr C call k hc hk L st M h => ?_⟩
  unfold op_dup2 at h
  split at h
  · rename_i v w r
    cases hz : zc2 v <;> cases hw : zc2 w <;> simp only [hz, hw, Bool.or_false, Bool.or_true, Bool.true_or, Bool.false_or, cond_true, cond_false] at h <;> try (cases h; done)
    have h1 := hk _ _ _ _ h
    refine ⟨h1.1, fun hg H locs ls hP hS hl => ?_⟩
    exact lv_dup2_11 C.1.1 C.1.2.1 hdg (by rw [zrl_cat]; exact zc2_cat1 hz) (by rw [zrl_cat]; exact zc2_cat1 hw) (h1.2 hg H locs ls hP hS hl)
  · cases h
theorem snd_dupx1 (hdg : decode cc pc = .ok (.dup_x1, 1)) : zSnd I own nm cc nL ret pc (op_dupx1 (pc + 1)) := by
  refine ⟨lin_dupx1 _, fun p l e R s m args below meth c G d Qf rv M0 Mr C call k hc hk L st M h => ?_⟩
  unfold op_dupx1 at h
  split at h
  · rename_i v w r
    cases hz : zc2 v <;> cases hw : zc2 w <;> simp only [hz, hw, Bool.or_false, Bool.or_true, Bool.true_or, Bool.false_or, cond_true, cond_false] at h <;> try (cases h; done)
    have h1 := hk _ _ _ _ h
    refine ⟨h1.1, fun hg H locs ls hP hS hl => ?_⟩
    exact lv_dup_x1 C.1.1 C.1.2.1 hdg (by rw [zrl_cat]; exact zc2_cat1 hz) (by rw [zrl_cat]; exact zc2_cat1 hw) (h1.2 hg H locs ls hP hS hl)
  · cases h
theorem snd_dupx2 (hdg : decode cc pc = .ok (.dup_x2, 1)) : zSnd I own nm cc nL ret pc (op_dupx2 (pc + 1)) := by
  refine ⟨lin_dupx2 _, fun p l e R s m args below meth c G d Qf rv M0 Mr C call k hc hk L st M h => ?_⟩
  unfold op_dupx2 at h
  split at h
  · rename_i v w u r
    cases hz : zc2 v <;> cases hw : zc2 w <;> cases hu : zc2 u <;> simp only [hz, hw, hu, Bool.or_false, Bool.or_true, Bool.true_or, Bool.false_or, cond_true, cond_false] at h <;> try (cases h; done)
    have h1 := hk _ _ _ _ h
    refine ⟨h1.1, fun hg H locs ls hP hS hl => ?_⟩
    exact lv_dup_x2 C.1.1 C.1.2.1 hdg (by rw [zrl_cat]; exact zc2_cat1 hz) (by rw [zrl_cat]; exact zc2_cat1 hw) (by rw [zrl_cat]; exact zc2_cat1 hu) (h1.2 hg H locs ls hP hS hl)
  · cases h
theorem snd_dup2l (hdg : decode cc pc = .ok (.dup2, 1)) : zSnd I own nm cc nL ret pc (op_dup2l (pc + 1)) := by
  refine ⟨lin_dup2l _, fun p l e R s m args below meth c G d Qf rv M0 Mr C call k hc hk L st M h => ?_⟩
  unfold op_dup2l at h
  split at h
  · have h1 := hk _ _ _ _ h
    refine ⟨h1.1, fun hg H locs ls hP hS hl => ?_⟩
    exact lv_dup2_2 C.1.1 C.1.2.1 hdg rfl (h1.2 hg H locs ls hP hS hl)
  · cases h
theorem snd_dup2x1 (hdg : decode cc pc = .ok (.dup2_x1, 1)) : zSnd I own nm cc nL ret pc (op_dup2x1 (pc + 1)) := by
  refine ⟨lin_dup2x1 _, fun p l e R s m args below meth c G d Qf rv M0 Mr C call k hc hk L st M h => ?_⟩
  unfold op_dup2x1 at h
  split at h
  · rename_i x w r
    cases hw : zc2 w with
    | true => rw [hw] at h; cases h
    | false =>
      rw [hw] at h
      have h1 := hk _ _ _ _ h
      refine ⟨h1.1, fun hg H locs ls hP hS hl => ?_⟩
      exact lv_dup2_x1_2 C.1.1 C.1.2.1 hdg rfl (by rw [zrl_cat]; exact zc2_cat1 hw) (h1.2 hg H locs ls hP hS hl)
  · cases h
theorem snd_dup2x2 (hdg : decode cc pc = .ok (.dup2_x2, 1)) : zSnd I own nm cc nL ret pc (op_dup2x2 (pc + 1)) := by
  refine ⟨lin_dup2x2 _, fun p l e R s m args below meth c G d Qf rv M0 Mr C call k hc hk L st M h => ?_⟩
  unfold op_dup2x2 at h
  split at h
  · rename_i x w u r
    cases hw : zc2 w <;> cases hu : zc2 u <;> simp only [hw, hu, Bool.or_false, Bool.or_true, Bool.true_or, Bool.false_or, cond_true, cond_false] at h <;> try (cases h; done)
    have h1 := hk _ _ _ _ h
    refine ⟨h1.1, fun hg H locs ls hP hS hl => ?_⟩
    exact lv_dup2_x2_2 C.1.1 C.1.2.1 hdg rfl (by rw [zrl_cat]; exact zc2_cat1 hw) (by rw [zrl_cat]; exact zc2_cat1 hu) (h1.2 hg H locs ls hP hS hl)
  · cases h
theorem snd_goto {off : Int} (hdg : decode cc pc = .ok (.goto off, 3)) (ht : (pc : Int) + off = (t : Int)) : zSnd I own nm cc nL ret pc (op_goto t) := by
  refine ⟨lin_goto _, fun p l e R s m args below meth c G d Qf rv M0 Mr C call k hc hk L st M h => ?_⟩
  have h1 := hk _ _ _ _ h
  refine ⟨h1.1, fun hg H locs ls hP hS hl => ?_⟩
  exact lv_goto C.1.1 C.1.2.1 hdg ht (h1.2 hg H locs ls hP hS hl)
theorem snd_eq {off : Int} (hdg : decode cc pc = .ok (.ifCond .eq off, 3)) (ht : (pc : Int) + off = (t : Int)) : zSnd I own nm cc nL ret pc (op_eq t (pc + 3)) := by
  refine ⟨lin_eq _ _, fun p l e R s m args below meth c G d Qf rv M0 Mr C call k hc hk L st M h => ?_⟩
  unfold op_eq at h
  split at h
  · split at h
    all_goals
      rename_i hc1
      have h1 := hk _ _ _ _ h
      refine ⟨h1.1, fun hg H locs ls hP hS hl => ?_⟩
      exact lv_if_eq C.1.1 C.1.2.1 hdg ht (fun q => by first | exact h1.2 hg H locs ls hP hS hl | exact absurd q hc1 | exact absurd hc1 q | exact absurd (by assumption) (by simpa using hc1)) (fun q => by first | exact h1.2 hg H locs ls hP hS hl | exact absurd q hc1 | exact absurd hc1 q)
  · cases h
theorem snd_ne {off : Int} (hdg : decode cc pc = .ok (.ifCond .ne off, 3)) (ht : (pc : Int) + off = (t : Int)) : zSnd I own nm cc nL ret pc (op_ne t (pc + 3)) := by
  refine ⟨lin_ne _ _, fun p l e R s m args below meth c G d Qf rv M0 Mr C call k hc hk L st M h => ?_⟩
  unfold op_ne at h
  split at h
  · split at h
    all_goals
      rename_i hc1
      have h1 := hk _ _ _ _ h
      refine ⟨h1.1, fun hg H locs ls hP hS hl => ?_⟩
      exact lv_if_ne C.1.1 C.1.2.1 hdg ht (fun q => by first | exact h1.2 hg H locs ls hP hS hl | exact absurd q hc1 | exact absurd hc1 q | exact absurd (by assumption) (by simpa using hc1)) (fun q => by first | exact h1.2 hg H locs ls hP hS hl | exact absurd q hc1 | exact absurd hc1 q)
  · cases h
theorem snd_lt {off : Int} (hdg : decode cc pc = .ok (.ifCond .lt off, 3)) (ht : (pc : Int) + off = (t : Int)) : zSnd I own nm cc nL ret pc (op_lt t (pc + 3)) := by
  refine ⟨lin_lt _ _, fun p l e R s m args below meth c G d Qf rv M0 Mr C call k hc hk L st M h => ?_⟩
  unfold op_lt at h
  split at h
  · split at h
    all_goals
      rename_i hc1
      have h1 := hk _ _ _ _ h
      refine ⟨h1.1, fun hg H locs ls hP hS hl => ?_⟩
      exact lv_if_lt C.1.1 C.1.2.1 hdg ht (fun q => by first | exact h1.2 hg H locs ls hP hS hl | exact absurd q hc1 | exact absurd hc1 q | exact absurd (by assumption) (by simpa using hc1)) (fun q => by first | exact h1.2 hg H locs ls hP hS hl | exact absurd q hc1 | exact absurd hc1 q)
  · cases h
theorem snd_ge {off : Int} (hdg : decode cc pc = .ok (.ifCond .ge off, 3)) (ht : (pc : Int) + off = (t : Int)) : zSnd I own nm cc nL ret pc (op_ge t (pc + 3)) := by
  refine ⟨lin_ge _ _, fun p l e R s m args below meth c G d Qf rv M0 Mr C call k hc hk L st M h => ?_⟩
  unfold op_ge at h
  split at h
  · split at h
    all_goals
      rename_i hc1
      have h1 := hk _ _ _ _ h
      refine ⟨h1.1, fun hg H locs ls hP hS hl => ?_⟩
      exact lv_if_ge C.1.1 C.1.2.1 hdg ht (fun q => by first | exact h1.2 hg H locs ls hP hS hl | exact absurd q hc1 | exact absurd hc1 q | exact absurd (by assumption) (by simpa using hc1)) (fun q => by first | exact h1.2 hg H locs ls hP hS hl | exact absurd q hc1 | exact absurd hc1 q)
  · cases h
theorem snd_le {off : Int} (hdg : decode cc pc = .ok (.ifCond .le off, 3)) (ht : (pc : Int) + off = (t : Int)) : zSnd I own nm cc nL ret pc (op_le t (pc + 3)) := by
  refine ⟨lin_le _ _, fun p l e R s m args below meth c G d Qf rv M0 Mr C call k hc hk L st M h => ?_⟩
  unfold op_le at h
  split at h
  · split at h
    all_goals
      rename_i hc1
      have h1 := hk _ _ _ _ h
      refine ⟨h1.1, fun hg H locs ls hP hS hl => ?_⟩
      exact lv_if_le C.1.1 C.1.2.1 hdg ht (fun q => by first | exact h1.2 hg H locs ls hP hS hl | exact absurd q hc1 | exact absurd hc1 q | exact absurd (by assumption) (by simpa using hc1)) (fun q => by first | exact h1.2 hg H locs ls hP hS hl | exact absurd q hc1 | exact absurd hc1 q)
  · cases h
theorem snd_gt {off : Int} (hdg : decode cc pc = .ok (.ifCond .gt off, 3)) (ht : (pc : Int) + off = (t : Int)) : zSnd I own nm cc nL ret pc (op_gt t (pc + 3)) := by
  refine ⟨lin_gt _ _, fun p l e R s m args below meth c G d Qf rv M0 Mr C call k hc hk L st M h => ?_⟩
  unfold op_gt at h
  split at h
  · split at h
    all_goals
      rename_i hc1
      have h1 := hk _ _ _ _ h
      refine ⟨h1.1, fun hg H locs ls hP hS hl => ?_⟩
      exact lv_if_gt C.1.1 C.1.2.1 hdg ht (fun q => by first | exact h1.2 hg H locs ls hP hS hl | exact absurd q hc1 | exact absurd hc1 q | exact absurd (by assumption) (by simpa using hc1)) (fun q => by first | exact h1.2 hg H locs ls hP hS hl | exact absurd q hc1 | exact absurd hc1 q)
  · cases h
theorem snd_ceq {off : Int} (hdg : decode cc pc = .ok (.if_icmp .eq off, 3)) (ht : (pc : Int) + off = (t : Int)) : zSnd I own nm cc nL ret pc (op_ceq t (pc + 3)) := by
  refine ⟨lin_ceq _ _, fun p l e R s m args below meth c G d Qf rv M0 Mr C call k hc hk L st M h => ?_⟩
  unfold op_ceq at h
  split at h
  · split at h
    all_goals
      rename_i hc1
      have h1 := hk _ _ _ _ h
      refine ⟨h1.1, fun hg H locs ls hP hS hl => ?_⟩
      exact lv_icmp_eq C.1.1 C.1.2.1 hdg ht (fun q => by first | exact h1.2 hg H locs ls hP hS hl | exact absurd q hc1 | exact absurd hc1 q | exact absurd (by assumption) (by simpa using hc1)) (fun q => by first | exact h1.2 hg H locs ls hP hS hl | exact absurd q hc1 | exact absurd hc1 q)
  · cases h
theorem snd_cne {off : Int} (hdg : decode cc pc = .ok (.if_icmp .ne off, 3)) (ht : (pc : Int) + off = (t : Int)) : zSnd I own nm cc nL ret pc (op_cne t (pc + 3)) := by
  refine ⟨lin_cne _ _, fun p l e R s m args below meth c G d Qf rv M0 Mr C call k hc hk L st M h => ?_⟩
  unfold op_cne at h
  split at h
  · split at h
    all_goals
      rename_i hc1
      have h1 := hk _ _ _ _ h
      refine ⟨h1.1, fun hg H locs ls hP hS hl => ?_⟩
      exact lv_icmp_ne C.1.1 C.1.2.1 hdg ht (fun q => by first | exact h1.2 hg H locs ls hP hS hl | exact absurd q hc1 | exact absurd hc1 q | exact absurd (by assumption) (by simpa using hc1)) (fun q => by first | exact h1.2 hg H locs ls hP hS hl | exact absurd q hc1 | exact absurd hc1 q)
  · cases h
theorem snd_clt {off : Int} (hdg : decode cc pc = .ok (.if_icmp .lt off, 3)) (ht : (pc : Int) + off = (t : Int)) : zSnd I own nm cc nL ret pc (op_clt t (pc + 3)) := by
  refine ⟨lin_clt _ _, fun p l e R s m args below meth c G d Qf rv M0 Mr C call k hc hk L st M h => ?_⟩
  unfold op_clt at h
  split at h
  · split at h
    all_goals
      rename_i hc1
      have h1 := hk _ _ _ _ h
      refine ⟨h1.1, fun hg H locs ls hP hS hl => ?_⟩
      exact lv_icmp_lt C.1.1 C.1.2.1 hdg ht (fun q => by first | exact h1.2 hg H locs ls hP hS hl | exact absurd q hc1 | exact absurd hc1 q | exact absurd (by assumption) (by simpa using hc1)) (fun q => by first | exact h1.2 hg H locs ls hP hS hl | exact absurd q hc1 | exact absurd hc1 q)
  · cases h
theorem snd_cge {off : Int} (hdg : decode cc pc = .ok (.if_icmp .ge off, 3)) (ht : (pc : Int) + off = (t : Int)) : zSnd I own nm cc nL ret pc (op_cge t (pc + 3)) := by
  refine ⟨lin_cge _ _, fun p l e R s m args below meth c G d Qf rv M0 Mr C call k hc hk L st M h => ?_⟩
  unfold op_cge at h
  split at h
  · split at h
    all_goals
      rename_i hc1
      have h1 := hk _ _ _ _ h
      refine ⟨h1.1, fun hg H locs ls hP hS hl => ?_⟩
      exact lv_icmp_ge C.1.1 C.1.2.1 hdg ht (fun q => by first | exact h1.2 hg H locs ls hP hS hl | exact absurd q hc1 | exact absurd hc1 q | exact absurd (by assumption) (by simpa using hc1)) (fun q => by first | exact h1.2 hg H locs ls hP hS hl | exact absurd q hc1 | exact absurd hc1 q)
  · cases h
theorem snd_cle {off : Int} (hdg : decode cc pc = .ok (.if_icmp .le off, 3)) (ht : (pc : Int) + off = (t : Int)) : zSnd I own nm cc nL ret pc (op_cle t (pc + 3)) := by
  refine ⟨lin_cle _ _, fun p l e R s m args below meth c G d Qf rv M0 Mr C call k hc hk L st M h => ?_⟩
  unfold op_cle at h
  split at h
  · split at h
    all_goals
      rename_i hc1
      have h1 := hk _ _ _ _ h
      refine ⟨h1.1, fun hg H locs ls hP hS hl => ?_⟩
      exact lv_icmp_le C.1.1 C.1.2.1 hdg ht (fun q => by first | exact h1.2 hg H locs ls hP hS hl | exact absurd q hc1 | exact absurd hc1 q | exact absurd (by assumption) (by simpa using hc1)) (fun q => by first | exact h1.2 hg H locs ls hP hS hl | exact absurd q hc1 | exact absurd hc1 q)
  · cases h
theorem snd_cgt {off : Int} (hdg : decode cc pc = .ok (.if_icmp .gt off, 3)) (ht : (pc : Int) + off = (t : Int)) : zSnd I own nm cc nL ret pc (op_cgt t (pc + 3)) := by
  refine ⟨lin_cgt _ _, fun p l e R s m args below meth c G d Qf rv M0 Mr C call k hc hk L st M h => ?_⟩
  unfold op_cgt at h
  split at h
  · split at h
    all_goals
      rename_i hc1
      have h1 := hk _ _ _ _ h
      refine ⟨h1.1, fun hg H locs ls hP hS hl => ?_⟩
      exact lv_icmp_gt C.1.1 C.1.2.1 hdg ht (fun q => by first | exact h1.2 hg H locs ls hP hS hl | exact absurd q hc1 | exact absurd hc1 q | exact absurd (by assumption) (by simpa using hc1)) (fun q => by first | exact h1.2 hg H locs ls hP hS hl | exact absurd q hc1 | exact absurd hc1 q)
  · cases h
end SND
