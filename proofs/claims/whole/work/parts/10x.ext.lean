/-! WHAT LIES OUTSIDE: the static array, String constants and their bytes, statics; and System.arraycopy -/
def op_xld (k n : Nat) : zO := fun _ kk L st M => kk n L (.retAddr (k + 1) :: st) M
def op_xget (n : Nat) : zO := fun _ k L st M => match st with
  | .retAddr 2 :: r => k n L (.retAddr 4 :: r) M
  | .retAddr 3 :: r => k n L (.retAddr 5 :: r) M
  | _ => none
def op_xcod (n : Nat) : zO := fun _ k L st M => match st with
  | .retAddr 2 :: r => k n L (.int 0 :: r) M
  | .retAddr 3 :: r => k n L (.int 0 :: r) M
  | _ => none
def op_xlen (n : Nat) : zO := fun _ k L st M => match st with
  | .retAddr 4 :: r => k n L (.int 67 :: r) M
  | .retAddr 5 :: r => k n L (.int 11 :: r) M
  | _ => none
def op_xbald (n : Nat) : zO := fun _ k L st M => match st with
  | .int i :: .retAddr 4 :: r => if 0 ≤ i.toInt ∧ i.toInt < 67 then k n L (.int ((zxB.getD 0 []).getD i.toNatClampNeg 0) :: r) M else none
  | .int i :: .retAddr 5 :: r => if 0 ≤ i.toInt ∧ i.toInt < 11 then k n L (.int ((zxB.getD 1 []).getD i.toNatClampNeg 0) :: r) M else none
  | _ => none
def op_xiald (n : Nat) : zO := fun _ k L st M => match st with
  | .int i :: .retAddr 1 :: r => if 0 ≤ i.toInt ∧ i.toInt < 3 then k n L (.int (zxS.getD i.toNatClampNeg 0) :: r) M else none
  | _ => none
/-- a call of a method of String -/
def op_callx (j na rt n : Nat) : zO := fun call k L st M =>
  match st.drop na with
  | .retAddr (r + 1) :: rest => bif (Nat.beq r 1 || Nat.beq r 2) && Nat.beq (st.take na).length na && Nat.ble (rest.map fun v => v.category).sum 8 then
      zbk rt (call j (.retAddr (r + 1) :: (st.take na).reverse) M) (fun w M' => k n L (w ++ rest) M')
    else none
  | _ => none
def op_creturn : zO := fun _ _ _ st M => match st with
  | [.int v] => if 0 ≤ v.toInt ∧ v.toInt ≤ 65535 then some (.int v, M) else none
  | _ => none
def op_breturn : zO := fun _ _ _ st M => match st with
  | [.int v] => if v = 0 then some (.int v, M) else none
  | _ => none
/-- ints copied from one array to another -/
def op_copy (n : Nat) : zO := fun _ k L st M => match st with
  | .int c :: .int dp :: .ref (r2 + 1) :: .int sp :: .ref (r1 + 1) :: rest => match M.1.2[r1]?, M.1.2[r2]? with
    | some [1, n1], some [1, n2] => bif Nat.ble (rest.map fun v => v.category).sum 8 then
        (if (0 ≤ sp.toInt ∧ 0 ≤ dp.toInt ∧ 0 ≤ c.toInt) ∧ sp.toInt + c.toInt ≤ (n1 : Int) ∧ dp.toInt + c.toInt ≤ (n2 : Int) then
          k n L rest (M.1, (fun a => if a = r2 + 1 then va_cpy (M.2.1 (r1 + 1)) (M.2.1 (r2 + 1)) sp.toNatClampNeg dp.toNatClampNeg c.toNatClampNeg else M.2.1 a), M.2.2) else none) else none
    | _, _ => none
  | _ => none
/-- Math.max, min, abs: by the library's contracts -/
def op_mi2 (f : Int32 → Int32 → Int32) (n : Nat) : zO := fun _ k L st M => match st with
  | .int y :: .int x :: r => bif Nat.ble (r.map fun v => v.category).sum 8 then k n L (.int (f x y) :: r) M else none
  | _ => none
def op_mi1 (f : Int32 → Int32) (n : Nat) : zO := fun _ k L st M => match st with
  | .int x :: r => bif Nat.ble (r.map fun v => v.category).sum 8 then k n L (.int (f x) :: r) M else none
  | _ => none
def op_ml2 (f : Int64 → Int64 → Int64) (n : Nat) : zO := fun _ k L st M => match st with
  | .long y :: .long x :: r => bif Nat.ble (r.map fun v => v.category).sum 8 then k n L (.long (f x y) :: r) M else none
  | _ => none
theorem zGr_row (M : zM) (r : Nat) (f : Nat → Int32) : zGr M (M.1, (fun a => if a = r + 1 then f else M.2.1 a), M.2.2) := zGr_same rfl (show (if 0 = r + 1 then f else M.2.1 0) = M.2.1 0 from if_neg (Nat.succ_ne_zero r).symm)
section EXT
variable {I : zI} {own nm : String} {cc : ByteArray} {nL : Nat} {ret : Option FieldType} {pc n t i : Nat}
theorem lin_xld (k n : Nat) : zlin (op_xld k n) := by
  intro call k L st M r h
  unfold op_xld at h ⊢
  try simp only [Bool.cond_eq_ite] at h ⊢
  repeat' (first | (cases h; done) | split at h)
  all_goals first
    | exact Or.inl (fun k' => h)
    | exact Or.inr ⟨_, _, _, _, h, fun k' hk => hk⟩
    | exact Or.inr ⟨_, _, _, _, h, fun k' hk => by first | (rw [if_pos (by assumption)]; exact hk) | (rw [if_neg (by assumption)]; exact hk) | (simp_all; done)⟩
    | exact Or.inl (fun k' => by simp_all)
theorem lin_xget (n : Nat) : zlin (op_xget n) := by
  intro call k L st M r h
  unfold op_xget at h ⊢
  try simp only [Bool.cond_eq_ite] at h ⊢
  repeat' (first | (cases h; done) | split at h)
  all_goals first
    | exact Or.inl (fun k' => h)
    | exact Or.inr ⟨_, _, _, _, h, fun k' hk => hk⟩
    | exact Or.inr ⟨_, _, _, _, h, fun k' hk => by first | (rw [if_pos (by assumption)]; exact hk) | (rw [if_neg (by assumption)]; exact hk) | (simp_all; done)⟩
    | exact Or.inl (fun k' => by simp_all)
theorem lin_xcod (n : Nat) : zlin (op_xcod n) := by
  intro call k L st M r h
  unfold op_xcod at h ⊢
  try simp only [Bool.cond_eq_ite] at h ⊢
  repeat' (first | (cases h; done) | split at h)
  all_goals first
    | exact Or.inl (fun k' => h)
    | exact Or.inr ⟨_, _, _, _, h, fun k' hk => hk⟩
    | exact Or.inr ⟨_, _, _, _, h, fun k' hk => by first | (rw [if_pos (by assumption)]; exact hk) | (rw [if_neg (by assumption)]; exact hk) | (simp_all; done)⟩
    | exact Or.inl (fun k' => by simp_all)
theorem lin_xlen (n : Nat) : zlin (op_xlen n) := by
  intro call k L st M r h
  unfold op_xlen at h ⊢
  try simp only [Bool.cond_eq_ite] at h ⊢
  repeat' (first | (cases h; done) | split at h)
  all_goals first
    | exact Or.inl (fun k' => h)
    | exact Or.inr ⟨_, _, _, _, h, fun k' hk => hk⟩
    | exact Or.inr ⟨_, _, _, _, h, fun k' hk => by first | (rw [if_pos (by assumption)]; exact hk) | (rw [if_neg (by assumption)]; exact hk) | (simp_all; done)⟩
    | exact Or.inl (fun k' => by simp_all)
theorem lin_xbald (n : Nat) : zlin (op_xbald n) := by
  intro call k L st M r h
  unfold op_xbald at h ⊢
  try simp only [Bool.cond_eq_ite] at h ⊢
  repeat' (first | (cases h; done) | split at h)
  all_goals first
    | exact Or.inl (fun k' => h)
    | exact Or.inr ⟨_, _, _, _, h, fun k' hk => hk⟩
    | exact Or.inr ⟨_, _, _, _, h, fun k' hk => by first | (rw [if_pos (by assumption)]; exact hk) | (rw [if_neg (by assumption)]; exact hk) | (simp_all; done)⟩
    | exact Or.inl (fun k' => by simp_all)
theorem lin_xiald (n : Nat) : zlin (op_xiald n) := by
  intro call k L st M r h
  unfold op_xiald at h ⊢
  try simp only [Bool.cond_eq_ite] at h ⊢
  repeat' (first | (cases h; done) | split at h)
  all_goals first
    | exact Or.inl (fun k' => h)
    | exact Or.inr ⟨_, _, _, _, h, fun k' hk => hk⟩
    | exact Or.inr ⟨_, _, _, _, h, fun k' hk => by first | (rw [if_pos (by assumption)]; exact hk) | (rw [if_neg (by assumption)]; exact hk) | (simp_all; done)⟩
    | exact Or.inl (fun k' => by simp_all)
theorem lin_copy (n : Nat) : zlin (op_copy n) := by
  intro call k L st M r h
  unfold op_copy at h ⊢
  try simp only [Bool.cond_eq_ite] at h ⊢
  repeat' (first | (cases h; done) | split at h)
  all_goals first
    | exact Or.inl (fun k' => h)
    | exact Or.inr ⟨_, _, _, _, h, fun k' hk => hk⟩
    | exact Or.inr ⟨_, _, _, _, h, fun k' hk => by first | (rw [if_pos (by assumption)]; exact hk) | (rw [if_neg (by assumption)]; exact hk) | (simp_all; done)⟩
    | exact Or.inl (fun k' => by simp_all)
theorem lin_creturn  : zlin (op_creturn ) := by
  intro call k L st M r h
  unfold op_creturn at h ⊢
  try simp only [Bool.cond_eq_ite] at h ⊢
  repeat' (first | (cases h; done) | split at h)
  all_goals first
    | exact Or.inl (fun k' => h)
    | exact Or.inr ⟨_, _, _, _, h, fun k' hk => hk⟩
    | exact Or.inr ⟨_, _, _, _, h, fun k' hk => by first | (rw [if_pos (by assumption)]; exact hk) | (rw [if_neg (by assumption)]; exact hk) | (simp_all; done)⟩
    | exact Or.inl (fun k' => by simp_all)
theorem lin_breturn  : zlin (op_breturn ) := by
  intro call k L st M r h
  unfold op_breturn at h ⊢
  try simp only [Bool.cond_eq_ite] at h ⊢
  repeat' (first | (cases h; done) | split at h)
  all_goals first
    | exact Or.inl (fun k' => h)
    | exact Or.inr ⟨_, _, _, _, h, fun k' hk => hk⟩
    | exact Or.inr ⟨_, _, _, _, h, fun k' hk => by first | (rw [if_pos (by assumption)]; exact hk) | (rw [if_neg (by assumption)]; exact hk) | (simp_all; done)⟩
    | exact Or.inl (fun k' => by simp_all)
theorem lin_mi2 (f : Int32 → Int32 → Int32) (n : Nat) : zlin (op_mi2 f n) := by
  intro call k L st M r h
  unfold op_mi2 at h ⊢
  try simp only [Bool.cond_eq_ite] at h ⊢
  repeat' (first | (cases h; done) | split at h)
  all_goals first
    | exact Or.inl (fun k' => h)
    | exact Or.inr ⟨_, _, _, _, h, fun k' hk => hk⟩
    | exact Or.inr ⟨_, _, _, _, h, fun k' hk => by first | (rw [if_pos (by assumption)]; exact hk) | (rw [if_neg (by assumption)]; exact hk) | (simp_all; done)⟩
    | exact Or.inl (fun k' => by simp_all)
theorem gw_mi2 (f : Int32 → Int32 → Int32) (n : Nat) : zgw I ret (op_mi2 f n) := by
  intro call kk rv Mr hc hk L st M h
  unfold op_mi2 at h
  try simp only [Bool.cond_eq_ite] at h
  repeat' (first | (cases h; done) | split at h)
  all_goals exact hk _ _ _ _ h
theorem lin_mi1 (f : Int32 → Int32) (n : Nat) : zlin (op_mi1 f n) := by
  intro call k L st M r h
  unfold op_mi1 at h ⊢
  try simp only [Bool.cond_eq_ite] at h ⊢
  repeat' (first | (cases h; done) | split at h)
  all_goals first
    | exact Or.inl (fun k' => h)
    | exact Or.inr ⟨_, _, _, _, h, fun k' hk => hk⟩
    | exact Or.inr ⟨_, _, _, _, h, fun k' hk => by first | (rw [if_pos (by assumption)]; exact hk) | (rw [if_neg (by assumption)]; exact hk) | (simp_all; done)⟩
    | exact Or.inl (fun k' => by simp_all)
theorem gw_mi1 (f : Int32 → Int32) (n : Nat) : zgw I ret (op_mi1 f n) := by
  intro call kk rv Mr hc hk L st M h
  unfold op_mi1 at h
  try simp only [Bool.cond_eq_ite] at h
  repeat' (first | (cases h; done) | split at h)
  all_goals exact hk _ _ _ _ h
theorem lin_ml2 (f : Int64 → Int64 → Int64) (n : Nat) : zlin (op_ml2 f n) := by
  intro call k L st M r h
  unfold op_ml2 at h ⊢
  try simp only [Bool.cond_eq_ite] at h ⊢
  repeat' (first | (cases h; done) | split at h)
  all_goals first
    | exact Or.inl (fun k' => h)
    | exact Or.inr ⟨_, _, _, _, h, fun k' hk => hk⟩
    | exact Or.inr ⟨_, _, _, _, h, fun k' hk => by first | (rw [if_pos (by assumption)]; exact hk) | (rw [if_neg (by assumption)]; exact hk) | (simp_all; done)⟩
    | exact Or.inl (fun k' => by simp_all)
theorem gw_ml2 (f : Int64 → Int64 → Int64) (n : Nat) : zgw I ret (op_ml2 f n) := by
  intro call kk rv Mr hc hk L st M h
  unfold op_ml2 at h
  try simp only [Bool.cond_eq_ite] at h
  repeat' (first | (cases h; done) | split at h)
  all_goals exact hk _ _ _ _ h
theorem lin_callx (j na rt n : Nat) : zlin (op_callx j na rt n) := by
  intro call k L st M r h
  unfold op_callx at h ⊢
  split at h
  · rename_i rr rest hd
    obtain ⟨hb, h2⟩ := zbif h (by nofun)
    obtain ⟨L', st', M', h3, h4⟩ := zbk_lin (g := fun w => w ++ rest) h2
    exact Or.inr ⟨_, _, _, _, h3, fun k' hk => by rw [hb]; exact h4 k' hk⟩
  · cases h
theorem gw_xld (k n : Nat) : zgw I ret (op_xld k n) := by
  intro call kk rv Mr hc hk L st M h
  unfold op_xld at h
  try simp only [Bool.cond_eq_ite] at h
  repeat' (first | (cases h; done) | split at h)
  all_goals exact hk _ _ _ _ h
theorem gw_xget (n : Nat) : zgw I ret (op_xget n) := by
  intro call kk rv Mr hc hk L st M h
  unfold op_xget at h
  try simp only [Bool.cond_eq_ite] at h
  repeat' (first | (cases h; done) | split at h)
  all_goals exact hk _ _ _ _ h
theorem gw_xcod (n : Nat) : zgw I ret (op_xcod n) := by
  intro call kk rv Mr hc hk L st M h
  unfold op_xcod at h
  try simp only [Bool.cond_eq_ite] at h
  repeat' (first | (cases h; done) | split at h)
  all_goals exact hk _ _ _ _ h
theorem gw_xlen (n : Nat) : zgw I ret (op_xlen n) := by
  intro call kk rv Mr hc hk L st M h
  unfold op_xlen at h
  try simp only [Bool.cond_eq_ite] at h
  repeat' (first | (cases h; done) | split at h)
  all_goals exact hk _ _ _ _ h
theorem gw_xbald (n : Nat) : zgw I ret (op_xbald n) := by
  intro call kk rv Mr hc hk L st M h
  unfold op_xbald at h
  try simp only [Bool.cond_eq_ite] at h
  repeat' (first | (cases h; done) | split at h)
  all_goals exact hk _ _ _ _ h
theorem gw_xiald (n : Nat) : zgw I ret (op_xiald n) := by
  intro call kk rv Mr hc hk L st M h
  unfold op_xiald at h
  try simp only [Bool.cond_eq_ite] at h
  repeat' (first | (cases h; done) | split at h)
  all_goals exact hk _ _ _ _ h
theorem gw_copy (n : Nat) : zgw I ret (op_copy n) := by
  intro call k rv Mr hc hk L st M h
  unfold op_copy at h
  simp only [Bool.cond_eq_ite] at h
  repeat' (first | (cases h; done) | split at h)
  all_goals
    have h1 := hk _ _ _ _ h
    exact ⟨(zGr_row M _ _).tr h1.1, h1.2⟩
theorem gw_callx (j na rt n : Nat) : zgw I ret (op_callx j na rt n) := by
  intro call k rv Mr hc hk L st M h
  unfold op_callx at h
  split at h
  · obtain ⟨-, h2⟩ := zbif h (by nofun)
    obtain ⟨v, M', hcall, h3, -⟩ := zbk_some h2
    have h1 := hk _ _ _ _ h3
    exact ⟨(hc _ _ _ _ _ hcall).1.tr h1.1, h1.2⟩
  · cases h
theorem zchar_ok {v : Int32} (hv : 0 ≤ v.toInt ∧ v.toInt ≤ 65535) : narrow .char (.int v) = .int v := by
  have hn : v.toUInt32.toNat = v.toInt.toNat := by
    have h1 : v.toInt = v.toBitVec.toInt := rfl
    have h2 := BitVec.toInt_eq_toNat_cond v.toBitVec
    have h3 : v.toBitVec.toNat = v.toUInt32.toNat := rfl
    have h4 := v.toBitVec.isLt
    rw [← h1, h3] at h2
    rw [h3] at h4
    split at h2 <;> omega
  have e : v.toUInt32.toUInt16.toUInt32 = v.toUInt32 := by
    apply UInt32.toNat_inj.mp
    simp only [UInt16.toNat_toUInt32, UInt32.toNat_toUInt16]
    omega
  show Value.int v.toUInt32.toUInt16.toUInt32.toInt32 = Value.int v
  rw [e]
  rfl
theorem gw_creturn (hr : ret = some .char) : zgw I ret op_creturn := by
  subst hr
  intro call k rv Mr hc hk L st M h
  unfold op_creturn at h
  split at h
  · split at h
    · rename_i hv
      cases h
      exact ⟨zGr.rf _, Or.inl ⟨_, rfl, zchar_ok hv⟩⟩
    · cases h
  · cases h
theorem gw_breturn (hr : ret = some .byte) : zgw I ret op_breturn := by
  subst hr
  intro call k rv Mr hc hk L st M h
  unfold op_breturn at h
  split at h
  · split at h
    · rename_i hv
      cases h
      exact ⟨zGr.rf _, Or.inl ⟨_, rfl, by rw [hv]; rfl⟩⟩
    · cases h
  · cases h
theorem zStr_facts {G : zG} {U : State} {H : Heap} (h : zStr G U H) {k : Nat} (hk : k < 5) : ∃ a, G.2.2.2.2 k = some a := by
  obtain ⟨a0, a1, a2, v1, v2, ⟨h0, h1, h2, h3, h4⟩, -⟩ := h
  match k, hk with
  | 0, _ => exact ⟨_, h0⟩
  | 1, _ => exact ⟨_, h1⟩
  | 2, _ => exact ⟨_, h2⟩
  | 3, _ => exact ⟨_, h3⟩
  | 4, _ => exact ⟨_, h4⟩
theorem snd_ldcS1 (ho : own = "ClayHouse$Tape") (hdg : decode cc pc = .ok (.ldc 81, 2)) : zSnd I own nm cc nL ret pc (op_xld 1 (pc + 2)) := by
  refine ⟨lin_xld _ _, fun p l e R s m args below meth c G d Qf rv M0 Mr C call k hc hk L st M h => ?_⟩
  have h1 := hk _ _ _ _ h
  refine ⟨h1.1, fun hg H locs ls hP hS hl => ?_⟩
  obtain ⟨a0, a1, a2, v1, v2, ⟨g0, g1, g2, g3, g4⟩, q1, q2, q3, q4, q5, q6, q7⟩ := C.2.1.2.2.2.2.2.2
  have h2 := h1.2 hg H locs ls hP hS hl
  rw [List.map_cons, show zrl G (.retAddr (1 + 1)) = va_rf (G.2.2.2.2 1) from rfl, g1] at h2
  exact va_ldcS C.1.1 C.1.2.1 C.1.2.2.2.1 (by rw [ho]; exact q3) hdg h2
theorem snd_ldcS2 (ho : own = "ClayHouse$Tape") (hdg : decode cc pc = .ok (.ldc 74, 2)) : zSnd I own nm cc nL ret pc (op_xld 2 (pc + 2)) := by
  refine ⟨lin_xld _ _, fun p l e R s m args below meth c G d Qf rv M0 Mr C call k hc hk L st M h => ?_⟩
  have h1 := hk _ _ _ _ h
  refine ⟨h1.1, fun hg H locs ls hP hS hl => ?_⟩
  obtain ⟨a0, a1, a2, v1, v2, ⟨g0, g1, g2, g3, g4⟩, q1, q2, q3, q4, q5, q6, q7⟩ := C.2.1.2.2.2.2.2.2
  have h2 := h1.2 hg H locs ls hP hS hl
  rw [List.map_cons, show zrl G (.retAddr (2 + 1)) = va_rf (G.2.2.2.2 2) from rfl, g2] at h2
  exact va_ldcS C.1.1 C.1.2.1 C.1.2.2.2.1 (by rw [ho]; exact q4) hdg h2
theorem snd_getsS {idx : Nat} (hlink : Cond.fieldLink own idx "ClayHouse$Flocks" "SHEKELS" "[I" ∈ lw_gd) (hdg : decode cc pc = .ok (.getstatic idx, 3)) : zSnd I own nm cc nL ret pc (op_xld 0 (pc + 3)) := by
  refine ⟨lin_xld _ _, fun p l e R s m args below meth c G d Qf rv M0 Mr C call k hc hk L st M h => ?_⟩
  have h1 := hk _ _ _ _ h
  refine ⟨h1.1, fun hg H locs ls hP hS hl => ?_⟩
  obtain ⟨a0, a1, a2, v1, v2, ⟨g0, g1, g2, g3, g4⟩, q1, q2, q3, q4, q5, q6, q7⟩ := C.2.1.2.2.2.2.2.2
  have h2 := h1.2 hg H locs ls hP hS hl
  rw [List.map_cons, show zrl G (.retAddr (0 + 1)) = va_rf (G.2.2.2.2 0) from rfl, g0] at h2
  exact va_gets C.1.1 C.1.2.1 q1 hS C.1.2.2.2.1 (C.1.2.2.2.2.2 _ hlink) (fun x hx => hx) hdg h2
theorem snd_getsF {idx : Nat} (hlink : Cond.fieldLink own idx "jdk/internal/util/Preconditions" "SIOOBE_FORMATTER" "Ljava/util/function/BiFunction;" ∈ lw_gd) (hdg : decode cc pc = .ok (.getstatic idx, 3)) : zSnd I own nm cc nL ret pc (op_xld 5 (pc + 3)) := by
  refine ⟨lin_xld _ _, fun p l e R s m args below meth c G d Qf rv M0 Mr C call k hc hk L st M h => ?_⟩
  have h1 := hk _ _ _ _ h
  refine ⟨h1.1, fun hg H locs ls hP hS hl => ?_⟩
  obtain ⟨a0, a1, a2, v1, v2, ⟨g0, g1, g2, g3, g4⟩, q1, q2, q3, q4, q5, q6, q7⟩ := C.2.1.2.2.2.2.2.2
  have h2 := h1.2 hg H locs ls hP hS hl
  rw [List.map_cons, show zrl G (.retAddr (5 + 1)) = va_rf (G.2.2.2.2 5) from rfl] at h2
  exact va_gets C.1.1 C.1.2.1 q7 hS C.1.2.2.2.1 (C.1.2.2.2.2.2 _ hlink) (fun x hx => hx) hdg h2
theorem snd_getsC {idx : Nat} (hlink : Cond.fieldLink own idx "java/lang/String" "COMPACT_STRINGS" "Z" ∈ lw_gd) (hdg : decode cc pc = .ok (.getstatic idx, 3)) : zSnd I own nm cc nL ret pc (op_const (.int 1) (pc + 3)) := by
  refine ⟨lin_const _ _, fun p l e R s m args below meth c G d Qf rv M0 Mr C call k hc hk L st M h => ?_⟩
  have h1 := hk _ _ _ _ h
  refine ⟨h1.1, fun hg H locs ls hP hS hl => ?_⟩
  obtain ⟨a0, a1, a2, v1, v2, ⟨g0, g1, g2, g3, g4⟩, q1, q2, q3, q4, q5, q6, q7⟩ := C.2.1.2.2.2.2.2.2
  exact va_gets C.1.1 C.1.2.1 q6 hS C.1.2.2.2.1 (C.1.2.2.2.2.2 _ hlink) (fun x hx => hx) hdg (h1.2 hg H locs ls hP hS hl)
theorem snd_xget {idx : Nat} (hlink : Cond.fieldLink own idx "java/lang/String" "value" "[B" ∈ lw_gd) (hdg : decode cc pc = .ok (.getfield idx, 3)) : zSnd I own nm cc nL ret pc (op_xget (pc + 3)) := by
  refine ⟨lin_xget _, fun p l e R s m args below meth c G d Qf rv M0 Mr C call k hc hk L st M h => ?_⟩
  unfold op_xget at h
  split at h
  · have h1 := hk _ _ _ _ h
    refine ⟨h1.1, fun hg H locs ls hP hS hl => ?_⟩
    obtain ⟨a0, a1, a2, v1, v2, ⟨g0, g1, g2, g3, g4⟩, q1, q2, q3, q4, q5, q6, q7⟩ := C.2.1.2.2.2.2.2.2
    have h2 := h1.2 hg H locs ls hP hS hl
    rw [List.map_cons, show zrl G (.retAddr 4) = va_rf (G.2.2.2.2 3) from rfl, g3] at h2
    rw [List.map_cons, show zrl G (.retAddr 2) = va_rf (G.2.2.2.2 1) from rfl, g1]
    exact vk_getf C.1.1 C.1.2.1 (q5.1 0 (by decide)).2.2.1 hS C.1.2.2.2.1 (C.1.2.2.2.2.2 _ hlink) (fun x hx => hx) hdg h2
  · have h1 := hk _ _ _ _ h
    refine ⟨h1.1, fun hg H locs ls hP hS hl => ?_⟩
    obtain ⟨a0, a1, a2, v1, v2, ⟨g0, g1, g2, g3, g4⟩, q1, q2, q3, q4, q5, q6, q7⟩ := C.2.1.2.2.2.2.2.2
    have h2 := h1.2 hg H locs ls hP hS hl
    rw [List.map_cons, show zrl G (.retAddr 5) = va_rf (G.2.2.2.2 4) from rfl, g4] at h2
    rw [List.map_cons, show zrl G (.retAddr 3) = va_rf (G.2.2.2.2 2) from rfl, g2]
    exact vk_getf C.1.1 C.1.2.1 (q5.1 1 (by decide)).2.2.1 hS C.1.2.2.2.1 (C.1.2.2.2.2.2 _ hlink) (fun x hx => hx) hdg h2
  · cases h
theorem snd_xcod {idx : Nat} (hlink : Cond.fieldLink own idx "java/lang/String" "coder" "B" ∈ lw_gd) (hdg : decode cc pc = .ok (.getfield idx, 3)) : zSnd I own nm cc nL ret pc (op_xcod (pc + 3)) := by
  refine ⟨lin_xcod _, fun p l e R s m args below meth c G d Qf rv M0 Mr C call k hc hk L st M h => ?_⟩
  unfold op_xcod at h
  split at h
  · have h1 := hk _ _ _ _ h
    refine ⟨h1.1, fun hg H locs ls hP hS hl => ?_⟩
    obtain ⟨a0, a1, a2, v1, v2, ⟨g0, g1, g2, g3, g4⟩, q1, q2, q3, q4, q5, q6, q7⟩ := C.2.1.2.2.2.2.2.2
    rw [List.map_cons, show zrl G (.retAddr 2) = va_rf (G.2.2.2.2 1) from rfl, g1]
    exact vk_getf C.1.1 C.1.2.1 (q5.1 0 (by decide)).2.1 hS C.1.2.2.2.1 (C.1.2.2.2.2.2 _ hlink) (fun x hx => hx) hdg (h1.2 hg H locs ls hP hS hl)
  · have h1 := hk _ _ _ _ h
    refine ⟨h1.1, fun hg H locs ls hP hS hl => ?_⟩
    obtain ⟨a0, a1, a2, v1, v2, ⟨g0, g1, g2, g3, g4⟩, q1, q2, q3, q4, q5, q6, q7⟩ := C.2.1.2.2.2.2.2.2
    rw [List.map_cons, show zrl G (.retAddr 3) = va_rf (G.2.2.2.2 2) from rfl, g2]
    exact vk_getf C.1.1 C.1.2.1 (q5.1 1 (by decide)).2.1 hS C.1.2.2.2.1 (C.1.2.2.2.2.2 _ hlink) (fun x hx => hx) hdg (h1.2 hg H locs ls hP hS hl)
  · cases h
theorem snd_xlen (hdg : decode cc pc = .ok (.arraylength, 1)) : zSnd I own nm cc nL ret pc (op_xlen (pc + 1)) := by
  refine ⟨lin_xlen _, fun p l e R s m args below meth c G d Qf rv M0 Mr C call k hc hk L st M h => ?_⟩
  unfold op_xlen at h
  split at h
  · have h1 := hk _ _ _ _ h
    refine ⟨h1.1, fun hg H locs ls hP hS hl => ?_⟩
    obtain ⟨a0, a1, a2, v1, v2, ⟨g0, g1, g2, g3, g4⟩, q1, q2, q3, q4, q5, q6, q7⟩ := C.2.1.2.2.2.2.2.2
    rw [List.map_cons, show zrl G (.retAddr 4) = va_rf (G.2.2.2.2 3) from rfl, g3]
    exact va_tlen C.1.1 C.1.2.1 (q5.1 0 (by decide)).2.2.2 hS rfl hdg (h1.2 hg H locs ls hP hS hl)
  · have h1 := hk _ _ _ _ h
    refine ⟨h1.1, fun hg H locs ls hP hS hl => ?_⟩
    obtain ⟨a0, a1, a2, v1, v2, ⟨g0, g1, g2, g3, g4⟩, q1, q2, q3, q4, q5, q6, q7⟩ := C.2.1.2.2.2.2.2.2
    rw [List.map_cons, show zrl G (.retAddr 5) = va_rf (G.2.2.2.2 4) from rfl, g4]
    exact va_tlen C.1.1 C.1.2.1 (q5.1 1 (by decide)).2.2.2 hS rfl hdg (h1.2 hg H locs ls hP hS hl)
  · cases h
theorem snd_xbald (hdg : decode cc pc = .ok (.baload, 1)) : zSnd I own nm cc nL ret pc (op_xbald (pc + 1)) := by
  refine ⟨lin_xbald _, fun p l e R s m args below meth c G d Qf rv M0 Mr C call k hc hk L st M h => ?_⟩
  unfold op_xbald at h
  split at h
  · split at h
    · rename_i hin
      have h1 := hk _ _ _ _ h
      refine ⟨h1.1, fun hg H locs ls hP hS hl => ?_⟩
      obtain ⟨a0, a1, a2, v1, v2, ⟨g0, g1, g2, g3, g4⟩, q1, q2, q3, q4, q5, q6, q7⟩ := C.2.1.2.2.2.2.2.2
      rw [List.map_cons, List.map_cons, show zrl G (.retAddr 4) = va_rf (G.2.2.2.2 3) from rfl, g3]
      exact va_tb C.1.1 C.1.2.1 (q5.1 0 (by decide)).2.2.2 hS (zin_vp hin) rfl hdg (h1.2 hg H locs ls hP hS hl)
    · cases h
  · split at h
    · rename_i hin
      have h1 := hk _ _ _ _ h
      refine ⟨h1.1, fun hg H locs ls hP hS hl => ?_⟩
      obtain ⟨a0, a1, a2, v1, v2, ⟨g0, g1, g2, g3, g4⟩, q1, q2, q3, q4, q5, q6, q7⟩ := C.2.1.2.2.2.2.2.2
      rw [List.map_cons, List.map_cons, show zrl G (.retAddr 5) = va_rf (G.2.2.2.2 4) from rfl, g4]
      exact va_tb C.1.1 C.1.2.1 (q5.1 1 (by decide)).2.2.2 hS (zin_vp hin) rfl hdg (h1.2 hg H locs ls hP hS hl)
    · cases h
  · cases h
theorem snd_xiald (hdg : decode cc pc = .ok (.iaload, 1)) : zSnd I own nm cc nL ret pc (op_xiald (pc + 1)) := by
  refine ⟨lin_xiald _, fun p l e R s m args below meth c G d Qf rv M0 Mr C call k hc hk L st M h => ?_⟩
  unfold op_xiald at h
  split at h
  · split at h
    · rename_i hin
      have h1 := hk _ _ _ _ h
      refine ⟨h1.1, fun hg H locs ls hP hS hl => ?_⟩
      obtain ⟨a0, a1, a2, v1, v2, ⟨g0, g1, g2, g3, g4⟩, q1, q2, q3, q4, q5, q6, q7⟩ := C.2.1.2.2.2.2.2.2
      rw [List.map_cons, List.map_cons, show zrl G (.retAddr 1) = va_rf (G.2.2.2.2 0) from rfl, g0]
      exact va_ti C.1.1 C.1.2.1 q2 hS (zin_vp hin) rfl hdg (h1.2 hg H locs ls hP hS hl)
    · cases h
  · cases h
theorem snd_i2b (hdg : decode cc pc = .ok (.i2b, 1)) : zSnd I own nm cc nL ret pc (op_i1 (fun x => x.toInt8.toInt32) (pc + 1)) := snd_i1 fun x st p l e R s m args below meth c H locs cells slots Q ls hx hb ho hts hW => lv_i2b hx hb hdg rfl hW
theorem snd_creturn (hr : ret = some .char) (hdg : decode cc pc = .ok (.ireturn, 1)) : zSnd I own nm cc nL ret pc op_creturn := by
  subst hr
  refine ⟨lin_creturn, fun p l e R s m args below meth c G d Qf rv M0 Mr C0 call k hc hk L st M h => ?_⟩
  unfold op_creturn at h
  split at h
  · rename_i v
    split at h
    · rename_i hv
      cases h
      have hz : zkok (some .char) (.int v) := Or.inl ⟨_, rfl, zchar_ok hv⟩
      exact ⟨⟨zGr.rf _, hz⟩, fun hg H locs ls hP hS hl => C0.2.2.2 hz pc H locs ls hdg hP hS⟩
    · cases h
  · cases h
theorem snd_breturn (hr : ret = some .byte) (hdg : decode cc pc = .ok (.ireturn, 1)) : zSnd I own nm cc nL ret pc op_breturn := by
  subst hr
  refine ⟨lin_breturn, fun p l e R s m args below meth c G d Qf rv M0 Mr C0 call k hc hk L st M h => ?_⟩
  unfold op_breturn at h
  split at h
  · rename_i v
    split at h
    · rename_i hv
      cases h
      have hz : zkok (some .byte) (.int v) := Or.inl ⟨_, rfl, by rw [hv]; rfl⟩
      exact ⟨⟨zGr.rf _, hz⟩, fun hg H locs ls hP hS hl => C0.2.2.2 hz pc H locs ls hdg hP hS⟩
    · cases h
  · cases h
theorem snd_virtualX {j na rt idx : Nat} (hj : zMth I j na) (hl : Cond.methodLink own idx (I j).1 ∈ lw_gd) (hin : Cond.instanceMethod (I j).1 ∈ lw_gd) (hse : Cond.selects "java/lang/String" (I j).1 (I j).1 ∈ lw_gd) (hdg : decode cc pc = .ok (.invokevirtual idx, 3)) : zSnd I own nm cc nL ret pc (op_callx j na rt (pc + 3)) := by
  refine ⟨lin_callx _ _ _ _, fun p l e R s m args below meth c G d Qf rv M0 Mr C call k hc hk L st M h => ?_⟩
  unfold op_callx at h
  split at h
  · rename_i _ r rest hdrop
    obtain ⟨hb, h2⟩ := zbif h (by nofun)
    clear h
    rw [Bool.and_eq_true, Bool.and_eq_true, Bool.or_eq_true] at hb
    have hr12 : r = 1 ∨ r = 2 := hb.1.1.imp Nat.eq_of_beq_eq_true Nat.eq_of_beq_eq_true
    obtain ⟨v, M', hcall, h3, -⟩ := zbk_some h2
    obtain ⟨g1, hv, hM⟩ := hc _ _ _ _ _ hcall
    have h1 := hk _ _ _ _ h3
    refine ⟨⟨g1.tr h1.1.1, h1.1.2⟩, fun hg H locs ls hP hS hl => ?_⟩
    obtain ⟨⟨hx, hbb, hml, hown, hnm, hts⟩, hw, ⟨hR1, hR2, hR3, hR4⟩, -⟩ := id C
    have g2 := hg.tr g1
    have g3 := h1.1.1
    refine zW_size fun hz => ?_
    have hworld := zWorld_of hw hg hP hS rfl hz
    have hlen : (st.take na).length = na := Nat.eq_of_beq_eq_true hb.1.2
    obtain ⟨a0, a1, a2, v1, v2, ⟨x0, x1, x2, x3, x4⟩, q1, q2, q3, q4, q5, q6, q7⟩ := hw.2.2.2.2.2.2
    obtain ⟨b, hbr, hrecv⟩ : ∃ b, G.2.2.2.2 r = some b ∧ ∃ cellB : Cell, H[b]? = some cellB ∧ cellB.vm.isStatics = false ∧ s.vm.findClass "java/lang/String" = some cellB.cls := by
      rcases hr12 with rfl | rfl
      · exact ⟨_, x1, vk_recv q5 (i := 0) (by decide) hS⟩
      · exact ⟨_, x2, vk_recv q5 (i := 1) (by decide) hS⟩
    have hzr : zrl G (.retAddr (r + 1)) = .ref b := by
      show va_rf (G.2.2.2.2 r) = _
      rw [hbr]
      rfl
    have hPc : zPc G (.retAddr (r + 1) :: (st.take na).reverse) M = va_Pc (.ref b :: (st.take na).reverse.map (zrl G)) (zWorld G M) := by
      unfold zPc
      rw [List.map_cons, hzr]
    have hrun := va_runV (e := e) (below := below) (meth := meth) (locs := locs) (cells := zlen M - zlen M0) (slots := zsl M - zsl M0) (g := F0 m pc ls (st.map (zrl G))) (rest := rest.map (zrl G)) (As := (st.take na).reverse.map (zrl G)) (b := b) ⟨hx, hbb, hml, hown, hts⟩ hM ⟨callB_of na hts (zwd_good hj) rfl rfl rfl (hts _ hj.2.1) (hts _ ‹_›) hj.2.2.1 ⟨hR3, by show 8 + ((I j).2.2.1 + 11) + 40 * d ≤ R.locals; have := hj.2.2.2; omega⟩, hts _ hin, hts _ hse⟩ ⟨zPc_blind G _ M, hrecv, fun U hU hW => by rw [hPc]; exact ⟨rfl, hworld U hU hW⟩⟩ rfl (by simp only [List.length_map, List.length_reverse]; exact hlen) hl.2.1 (by rw [List.map_reverse, List.reverse_reverse]; have e := List.take_append_drop na st; rw [hdrop] at e; rw [← e]; simp only [List.map_append, List.map_cons]; rw [show ((List.take na st ++ Value.retAddr (r + 1) :: rest).take na) = List.take na st by rw [e]]; rw [hzr]) (lv_room (by rw [zcat_map]; exact Nat.le_of_ble_eq_true hb.2)) hdg
      ⟨by have a1 := hg.1; have a2 := g1.1; have a3 := g3.1; omega, by have a1 := hg.2.1; have a2 := g1.2.1; have a3 := g3.2.1; omega⟩
    refine zW_call hrun hS fun H1 locs1 hP1 hS1 => ?_
    rw [zpush hv]
    have e1 : zlen M - zlen M0 + (zlen M' - zlen M) = zlen M' - zlen M0 := by have a1 := hg.1; have a2 := g1.1; omega
    have e2 : zsl M - zsl M0 + (zsl M' - zsl M) = zsl M' - zsl M0 := by have a1 := hg.2.1; have a2 := g1.2.1; omega
    rw [e1, e2]
    exact h1.2 g2 H1 locs1 ls hP1 hS1 hl
  · cases h
theorem snd_copy {idx : Nat} (hlink : Cond.methodLink own idx arraycopyName ∈ lw_gd) (hnat : Cond.native arraycopyName ∈ lw_gd) (hstat : Cond.static arraycopyName ∈ lw_gd) (hini : Cond.initialized "java/lang/System" ∈ lw_gd) (hdg : decode cc pc = .ok (.invokestatic idx, 3)) : zSnd I own nm cc nL ret pc (op_copy (pc + 3)) := by
  refine ⟨lin_copy _, fun p l e R s m args below meth c G d Qf rv M0 Mr C call k hc hk L st M h => ?_⟩
  unfold op_copy at h
  split at h
  · rename_i _ cn dp r2 sp r1 rest
    split at h
    · rename_i _ _ n1 n2 hs1 hs2
      obtain ⟨hb, h2⟩ := zbif h (by nofun)
      clear h
      split at h2
      · rename_i hin
        have h1 := hk _ _ _ _ h2
        have g1 : zGr M (M.1, (fun a => if a = r2 + 1 then va_cpy (M.2.1 (r1 + 1)) (M.2.1 (r2 + 1)) sp.toNatClampNeg dp.toNatClampNeg cn.toNatClampNeg else M.2.1 a), M.2.2) := zGr_row M r2 _
        refine ⟨⟨g1.tr h1.1.1, h1.1.2⟩, fun hg H locs ls hP hS hl => ?_⟩
        obtain ⟨⟨hx, hbb, hml, hown, hnm, hts⟩, hw, ⟨hR1, hR2, hR3, hR4⟩, -⟩ := id C
        have nn : ∀ z : Int32, z.toNatClampNeg = z.toInt.toNat := fun z => rfl
        have nl : ∀ z : Int32, 0 ≤ z.toInt → ¬ z < 0 := fun z hz q => by have := Int32.lt_iff_toInt_lt.mp q; simp at this; omega
        refine va_copyi hx hbb (by rw [hml]; exact hl.2.1.symm) hown (hts _ hlink) (hts _ hnat) (hts _ hstat) (hts _ hini) hw.2.2.1 hP (zws_D G M) hS r1 r2 0 0 (c0 := G.2.2.2.1 1) (c1 := G.2.2.2.1 1) (n0 := n1) (n1 := n2) (f := M.2.1 (r1 + 1)) (g := M.2.1 (r2 + 1)) (ty := .int) (by rw [zws_at G M hs1]; rfl) (by rw [zws_at G M hs2]; rfl) rfl rfl rfl (nl _ hin.1.1) (nl _ hin.1.2.1) (nl _ hin.1.2.2) (by rw [nn, nn]; omega) (by rw [nn, nn]; omega) (fun _ _ => rfl) (by omega) ?_ hdg fun H1 locs1 hP1 _ hS1 => ?_
        · rw [zcat_map]
          have hb' : (rest.map fun v => v.category).sum ≤ 8 := Nat.le_of_ble_eq_true hb
          have e : nativeFrameWords "java/lang/System" "arraycopy" 5 + 11 ≤ 32 := by decide
          omega
        · have e : zcl G (M.1, (fun a => if a = r2 + 1 then va_cpy (M.2.1 (r1 + 1)) (M.2.1 (r2 + 1)) sp.toNatClampNeg dp.toNatClampNeg cn.toNatClampNeg else M.2.1 a), M.2.2) (r2 + 1) [1, n2] = .inl (G.2.2.2.1 1, n2, .inl (va_cpy (M.2.1 (r1 + 1)) (M.2.1 (r2 + 1)) sp.toNatClampNeg dp.toNatClampNeg cn.toNatClampNeg)) := by
            show (Sum.inl (G.2.2.2.1 1, n2, Sum.inl (if r2 + 1 = r2 + 1 then _ else _)) : va_E) = _
            rw [if_pos rfl]
          rw [← e, ← zws_set (M' := (M.1, (fun a => if a = r2 + 1 then va_cpy (M.2.1 (r1 + 1)) (M.2.1 (r2 + 1)) sp.toNatClampNeg dp.toNatClampNeg cn.toNatClampNeg else M.2.1 a), M.2.2)) (zset_same hs2).symm hs2 (fun a ha => ⟨if_neg ha, rfl⟩)] at hP1
          exact h1.2 (hg.tr g1) H1 locs1 ls hP1 hS1 hl
      · cases h2
    · cases h
  · cases h
theorem snd_mmax {idx : Nat} (hlink : Cond.methodLink own idx Lib.Math.max.name ∈ lw_gd) (hstat : Cond.static Lib.Math.max.name ∈ lw_gd) (hini : Cond.initialized "java/lang/Math" ∈ lw_gd) (hcode : Cond.code Lib.Math.max.name Lib.Math.max.code 2 (some .int) ∈ lw_gd) (hdg : decode cc pc = .ok (.invokestatic idx, 3)) : zSnd I own nm cc nL ret pc (op_mi2 (fun x y => if x < y then y else x) (pc + 3)) := by
  refine ⟨lin_mi2 _ _, fun p l e R s m args below meth c G d Qf rv M0 Mr C call k hc hk L st M h => ?_⟩
  unfold op_mi2 at h
  split at h
  · rename_i r
    obtain ⟨hb, h2⟩ := zbif h (by nofun)
    have h1 := hk _ _ _ _ h2
    refine ⟨h1.1, fun hg H locs ls hP hS hl => ?_⟩
    obtain ⟨⟨hx, hbb, hml, hown, hnm, hts⟩, hw, ⟨hR1, hR2, hR3, hR4⟩, -⟩ := id C
    have hb' : (r.map fun v => v.category).sum ≤ 8 := Nat.le_of_ble_eq_true hb
    have g1 : zlen M ≤ zlen Mr := h1.1.1.1
    have g2 : zsl M ≤ zsl Mr := h1.1.1.2.1
    exact va_mmax hx hbb (by rw [hml]; exact hl.2.1.symm) hown (hts _ hlink) (hts _ hstat) (hts _ hini) (hts _ hcode) (by omega) (by rw [zcat_map]; omega) (by omega) (by omega) hdg (h1.2 hg H locs ls hP hS hl)
  · cases h
theorem snd_mmin {idx : Nat} (hlink : Cond.methodLink own idx Lib.Math.min.name ∈ lw_gd) (hstat : Cond.static Lib.Math.min.name ∈ lw_gd) (hini : Cond.initialized "java/lang/Math" ∈ lw_gd) (hcode : Cond.code Lib.Math.min.name Lib.Math.min.code 2 (some .int) ∈ lw_gd) (hdg : decode cc pc = .ok (.invokestatic idx, 3)) : zSnd I own nm cc nL ret pc (op_mi2 (fun x y => if y < x then y else x) (pc + 3)) := by
  refine ⟨lin_mi2 _ _, fun p l e R s m args below meth c G d Qf rv M0 Mr C call k hc hk L st M h => ?_⟩
  unfold op_mi2 at h
  split at h
  · rename_i r
    obtain ⟨hb, h2⟩ := zbif h (by nofun)
    have h1 := hk _ _ _ _ h2
    refine ⟨h1.1, fun hg H locs ls hP hS hl => ?_⟩
    obtain ⟨⟨hx, hbb, hml, hown, hnm, hts⟩, hw, ⟨hR1, hR2, hR3, hR4⟩, -⟩ := id C
    have hb' : (r.map fun v => v.category).sum ≤ 8 := Nat.le_of_ble_eq_true hb
    have g1 : zlen M ≤ zlen Mr := h1.1.1.1
    have g2 : zsl M ≤ zsl Mr := h1.1.1.2.1
    exact va_mmin hx hbb (by rw [hml]; exact hl.2.1.symm) hown (hts _ hlink) (hts _ hstat) (hts _ hini) (hts _ hcode) (by omega) (by rw [zcat_map]; omega) (by omega) (by omega) hdg (h1.2 hg H locs ls hP hS hl)
  · cases h
theorem snd_mabs {idx : Nat} (hlink : Cond.methodLink own idx Lib.Math.abs.name ∈ lw_gd) (hstat : Cond.static Lib.Math.abs.name ∈ lw_gd) (hini : Cond.initialized "java/lang/Math" ∈ lw_gd) (hcode : Cond.code Lib.Math.abs.name Lib.Math.abs.code 1 (some .int) ∈ lw_gd) (hdg : decode cc pc = .ok (.invokestatic idx, 3)) : zSnd I own nm cc nL ret pc (op_mi1 (fun x => if 0 ≤ x then x else 0 - x) (pc + 3)) := by
  refine ⟨lin_mi1 _ _, fun p l e R s m args below meth c G d Qf rv M0 Mr C call k hc hk L st M h => ?_⟩
  unfold op_mi1 at h
  split at h
  · rename_i r
    obtain ⟨hb, h2⟩ := zbif h (by nofun)
    have h1 := hk _ _ _ _ h2
    refine ⟨h1.1, fun hg H locs ls hP hS hl => ?_⟩
    obtain ⟨⟨hx, hbb, hml, hown, hnm, hts⟩, hw, ⟨hR1, hR2, hR3, hR4⟩, -⟩ := id C
    have hb' : (r.map fun v => v.category).sum ≤ 8 := Nat.le_of_ble_eq_true hb
    have g1 : zlen M ≤ zlen Mr := h1.1.1.1
    have g2 : zsl M ≤ zsl Mr := h1.1.1.2.1
    exact va_mabs hx hbb (by rw [hml]; exact hl.2.1.symm) hown (hts _ hlink) (hts _ hstat) (hts _ hini) (hts _ hcode) (by omega) (by rw [zcat_map]; omega) (by omega) (by omega) hdg (h1.2 hg H locs ls hP hS hl)
  · cases h
theorem snd_mmaxl {idx : Nat} (hlink : Cond.methodLink own idx Lib.MathLoose.max_long.x ∈ lw_gd) (hstat : Cond.static Lib.MathLoose.max_long.x ∈ lw_gd) (hini : Cond.initialized "java/lang/Math" ∈ lw_gd) (hcode : Cond.code Lib.MathLoose.max_long.x Lib.MathLoose.max_long.code 4 (some .long) ∈ lw_gd) (hdg : decode cc pc = .ok (.invokestatic idx, 3)) : zSnd I own nm cc nL ret pc (op_ml2 (fun x y => if y < x then x else y) (pc + 3)) := by
  refine ⟨lin_ml2 _ _, fun p l e R s m args below meth c G d Qf rv M0 Mr C call k hc hk L st M h => ?_⟩
  unfold op_ml2 at h
  split at h
  · rename_i r
    obtain ⟨hb, h2⟩ := zbif h (by nofun)
    have h1 := hk _ _ _ _ h2
    refine ⟨h1.1, fun hg H locs ls hP hS hl => ?_⟩
    obtain ⟨⟨hx, hbb, hml, hown, hnm, hts⟩, hw, ⟨hR1, hR2, hR3, hR4⟩, -⟩ := id C
    have hb' : (r.map fun v => v.category).sum ≤ 8 := Nat.le_of_ble_eq_true hb
    have g1 : zlen M ≤ zlen Mr := h1.1.1.1
    have g2 : zsl M ≤ zsl Mr := h1.1.1.2.1
    exact va_mmax_long hx hbb (by rw [hml]; exact hl.2.1.symm) hown (hts _ hlink) (hts _ hstat) (hts _ hini) (hts _ hcode) (by omega) (by rw [zcat_map]; omega) (by omega) (by omega) hdg (h1.2 hg H locs ls hP hS hl)
  · cases h
theorem snd_mminl {idx : Nat} (hlink : Cond.methodLink own idx Lib.MathLoose.min_long.x ∈ lw_gd) (hstat : Cond.static Lib.MathLoose.min_long.x ∈ lw_gd) (hini : Cond.initialized "java/lang/Math" ∈ lw_gd) (hcode : Cond.code Lib.MathLoose.min_long.x Lib.MathLoose.min_long.code 4 (some .long) ∈ lw_gd) (hdg : decode cc pc = .ok (.invokestatic idx, 3)) : zSnd I own nm cc nL ret pc (op_ml2 (fun x y => if y < x then y else x) (pc + 3)) := by
  refine ⟨lin_ml2 _ _, fun p l e R s m args below meth c G d Qf rv M0 Mr C call k hc hk L st M h => ?_⟩
  unfold op_ml2 at h
  split at h
  · rename_i r
    obtain ⟨hb, h2⟩ := zbif h (by nofun)
    have h1 := hk _ _ _ _ h2
    refine ⟨h1.1, fun hg H locs ls hP hS hl => ?_⟩
    obtain ⟨⟨hx, hbb, hml, hown, hnm, hts⟩, hw, ⟨hR1, hR2, hR3, hR4⟩, -⟩ := id C
    have hb' : (r.map fun v => v.category).sum ≤ 8 := Nat.le_of_ble_eq_true hb
    have g1 : zlen M ≤ zlen Mr := h1.1.1.1
    have g2 : zsl M ≤ zsl Mr := h1.1.1.2.1
    exact va_mmin_long hx hbb (by rw [hml]; exact hl.2.1.symm) hown (hts _ hlink) (hts _ hstat) (hts _ hini) (hts _ hcode) (by omega) (by rw [zcat_map]; omega) (by omega) (by omega) hdg (h1.2 hg H locs ls hP hS hl)
  · cases h
end EXT
