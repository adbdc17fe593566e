/-! THE SIMULATION: what the machine computes, the bytecode does. Here: the words for it, and what a world does when the memory moves -/
/-- where the cells lie: the first of ours, the script, the classes' numbers, the array classes by their kinds, the String constants -/
abbrev zG : Type := Nat × Nat × va_G × (Nat → ClassId) × (Nat → Option Nat)
def zrl (G : zG) (v : Value) : Value := match v with
  | .ref 0 => .ref G.2.1
  | .ref (k + 1) => .ref (G.1 + k)
  | .retAddr (k + 1) => va_rf (G.2.2.2.2 k)
  | v => v
def zA (G : zG) : Nat → Prop := fun q => G.1 ≤ q
def zcl (G : zG) (M : zM) (r : Nat) (sh : List Nat) : va_E := match sh with
  | 0 :: ci :: ks => .inr (ci, ks.mapIdx (fun s kd => zrl G (zfv (M.2.1 r) (M.2.2 r) s kd)))
  | t :: n :: _ => .inl (G.2.2.2.1 t, n, if t = 2 then .inr (.inl (M.2.2 r)) else .inl (M.2.1 r))
  | _ => .inl (0, 0, .inl (fun _ => 0))
def zws (G : zG) (M : zM) : va_W := M.1.2.mapIdx (fun k sh => (G.1 + k, zcl G M (k + 1) sh))
abbrev zlen (M : zM) : Nat := M.1.2.length
def zsz (sh : List Nat) : Nat := match sh with
  | 0 :: _ :: ks => ks.length
  | _ :: n :: _ => n
  | _ => 0
def zsl (M : zM) : Nat := (M.1.2.map zsz).sum
abbrev ztys (G : zG) : List (ClassId × FieldType) := [(G.2.2.2.1 1, .int), (G.2.2.2.1 2, .long), (G.2.2.2.1 3, .boolean), (G.2.2.2.1 4, .char)]
/-- what lies outside and never moves: the static array SHEKELS, the String constants and their bytes, three statics -/
def zxB : List (List Int32) := [[105, 110, 32, 111, 117, 116, 32, 115, 117, 109, 32, 103, 111, 111, 100, 32, 108, 111, 115, 116, 32, 103, 105, 118, 101, 32, 119, 104, 101, 110, 32, 111, 114, 32, 97, 110, 100, 32, 110, 111, 116, 32, 115, 111, 114, 116, 32, 97, 103, 101, 32, 100, 97, 121, 115, 32, 107, 105, 100, 115, 32, 109, 111, 110, 116, 104, 32], [59, 63, 43, 45, 42, 47, 40, 41, 60, 61, 62]]
def zxS : List Int32 := [6, 5, 3]
def zStr (G : zG) (U : State) (H : Heap) : Prop := ∃ a0 a1 a2 v1 v2 : Nat, (G.2.2.2.2 0 = some a0 ∧ G.2.2.2.2 1 = some a1 ∧ G.2.2.2.2 2 = some a2 ∧ G.2.2.2.2 3 = some v1 ∧ G.2.2.2.2 4 = some v2) ∧
  va_Z "ClayHouse$Flocks" "SHEKELS" "[I" (.ref a0) (zA G) U H ∧ va_T .int a0 3 (fun j => .int (zxS.getD j 0)) (zA G) U H ∧
  vk_R "ClayHouse$Tape" 81 "in out sum good lost give when or and not sort age days kids month " a1 U ∧ vk_R "ClayHouse$Tape" 74 ";?+-*/()<=>" a2 U ∧
  vk_S 2 [67, 11] zxB (fun i => if i = 0 then a1 else a2) (fun i => if i = 0 then v1 else v2) (zA G) U H ∧
  va_Z "java/lang/String" "COMPACT_STRINGS" "Z" (.int 1) (zA G) U H ∧ va_Z "jdk/internal/util/Preconditions" "SIOOBE_FORMATTER" "Ljava/util/function/BiFunction;" (va_rf (G.2.2.2.2 5)) (zA G) U H
theorem zStr_warm {G : zG} {U U' : State} {H H' : Heap} (hW : U.WarmedH U'.vm) (hq : ∀ q : Nat, q < G.1 → H'[q]? = H[q]?) (h : zStr G U H) : zStr G U' H' := by
  obtain ⟨a0, a1, a2, v1, v2, hG, h1, h2, h3, h4, h5, h6, h7⟩ := h
  have hk : ∀ a : Nat, a < H.size → ¬ zA G a → H'[a]? = H[a]? := fun a _ ha => hq a (Nat.not_le.mp ha)
  exact ⟨a0, a1, a2, v1, v2, hG, (h1.moved hW.alike).kept hk, (h2.moved hW.alike).kept hk, h3.warm hW, h4.warm hW, (h5.moved hW.alike).kept hk, (h6.moved hW.alike).kept hk, (h7.moved hW.alike).kept hk⟩
theorem zStr_same {G : zG} {U U' : State} {H : Heap} (hv : U'.vm = U.vm) (h : zStr G U H) : zStr G U' H := by
  obtain ⟨a0, a1, a2, v1, v2, hG, h1, h2, h3, h4, h5, h6, h7⟩ := h
  have hA : U.vm.Alike U'.vm := by rw [hv]; exact Vm.Alike.refl _
  exact ⟨a0, a1, a2, v1, v2, hG, h1.moved hA, h2.moved hA, h3.same hv, h4.same hv, h5.moved hA, h6.moved hA, h7.moved hA⟩
/-- the words that hold at every launch state alike, and those of nest mates -/
def zisN : Cond → Bool
  | .fieldLinkNest _ _ _ _ _ _ => true
  | .methodLinkNest _ _ _ _ => true
  | _ => false
def lw_gd : List Cond := lw_tbl.filter goodWord
def lw_nst : List Cond := lw_tbl.filter zisN
def zNst (U : State) : Prop := ∀ w ∈ lw_nst, va_Nw w U
theorem zNst.warm {s U : State} (hW : s.WarmedH U.vm) (h : zNst s) : zNst U := by
  intro w hw
  have hx := h w hw
  have hn : zisN w = true := (List.mem_filter.mp hw).2
  cases w with
  | fieldLinkNest a i b n d h => exact va_Nw.warmF hW hx
  | methodLinkNest a i x h => exact va_Nw.warmM hW hx
  | _ => cases hn
theorem zNst.same {s U : State} (hv : s.vm = U.vm) (h : zNst s) : zNst U := by
  intro w hw
  have hx := h w hw
  have hn : zisN w = true := (List.mem_filter.mp hw).2
  cases w with
  | fieldLinkNest a i b n d h => exact va_Nw.same rfl hv hx
  | methodLinkNest a i x h => exact va_Nw.same rfl hv hx
  | _ => cases hn
theorem lw_gd_good {big : List Cond} (hb : ∀ w ∈ lw_gd, w ∈ big) : GoodIn big lw_gd := fun w hw => ⟨hb w hw, good_of_word (List.mem_filter.mp hw).2⟩
theorem zrl_cat (G : zG) (v : Value) : (zrl G v).category = v.category := by
  unfold zrl
  split
  · rfl
  · rfl
  · cases G.2.2.2.2 _ <;> rfl
  · rfl
theorem zc2_cat (v : Value) : zc2 v = true ↔ v.category = 2 := by
  cases v <;> simp [zc2, Value.category]
theorem zc2_cat1 {v : Value} (h : zc2 v = false) : v.category = 1 := by
  cases v <;> first | rfl | cases h
theorem zws_at (G : zG) (M : zM) {k : Nat} {sh : List Nat} (h : M.1.2[k]? = some sh) : (zws G M)[k]? = some (G.1 + k, zcl G M (k + 1) sh) := by
  unfold zws
  rw [List.getElem?_mapIdx, h]
  rfl
theorem zws_in (G : zG) (M : zM) {k : Nat} {q : Nat × va_E} (h : (zws G M)[k]? = some q) : ∃ sh, M.1.2[k]? = some sh ∧ q = (G.1 + k, zcl G M (k + 1) sh) := by
  unfold zws at h
  rw [List.getElem?_mapIdx] at h
  cases hs : M.1.2[k]? with
  | none => rw [hs] at h; cases h
  | some sh => rw [hs] at h; exact ⟨sh, rfl, (Option.some.inj h).symm⟩
theorem zws_D (G : zG) (M : zM) : va_D (zA G) (zws G M) := by
  refine ⟨fun i j p q hi hj hpq => ?_, fun k q hk => ?_⟩
  · obtain ⟨_, -, e1⟩ := zws_in G M hi
    obtain ⟨_, -, e2⟩ := zws_in G M hj
    rw [e1, e2] at hpq
    exact Nat.add_left_cancel hpq
  · obtain ⟨_, -, e1⟩ := zws_in G M hk
    rw [e1]
    exact Nat.le_add_right _ _
theorem zws_len (G : zG) (M : zM) : (zws G M).length = zlen M := by simp [zws]
/-- a cell's content moves -/
theorem zws_set {G : zG} {M M' : zM} {k : Nat} {sh sh' : List Nat} (hs : M'.1.2 = M.1.2.set k sh') (h : M.1.2[k]? = some sh) (ho : ∀ a, a ≠ k + 1 → M'.2.1 a = M.2.1 a ∧ M'.2.2 a = M.2.2 a) : zws G M' = (zws G M).set k (G.1 + k, zcl G M' (k + 1) sh') := by
  have hk : k < M.1.2.length := (List.getElem?_eq_some_iff.mp h).1
  apply List.ext_getElem?
  intro j
  by_cases hj : j = k
  · subst hj
    rw [List.getElem?_set_self (by rw [zws_len]; exact hk)]
    exact zws_at G M' (by rw [hs, List.getElem?_set_self hk])
  · rw [List.getElem?_set_ne (Ne.symm hj)]
    unfold zws
    rw [List.getElem?_mapIdx, List.getElem?_mapIdx, hs, List.getElem?_set_ne (Ne.symm hj)]
    cases hx : M.1.2[j]? with
    | none => rfl
    | some x =>
      have e := ho (j + 1) (fun q => hj (Nat.succ.inj q))
      show some _ = some _
      congr 2
      unfold zcl
      rw [e.1, e.2]
theorem zws_push {G : zG} {M M' : zM} {sh' : List Nat} (hs : M'.1.2 = M.1.2 ++ [sh']) (ho : ∀ a, a ≤ zlen M → M'.2.1 a = M.2.1 a ∧ M'.2.2 a = M.2.2 a) : zws G M' = zws G M ++ [(G.1 + zlen M, zcl G M' (zlen M + 1) sh')] := by
  apply List.ext_getElem?
  intro j
  by_cases hj : j < zlen M
  · rw [List.getElem?_append_left (by rw [zws_len]; exact hj)]
    unfold zws
    rw [List.getElem?_mapIdx, List.getElem?_mapIdx, hs, List.getElem?_append_left hj]
    have hx : M.1.2[j]? = some M.1.2[j] := List.getElem?_eq_getElem hj
    rw [hx]
    have e := ho (j + 1) hj
    show some _ = some _
    congr 2
    unfold zcl
    rw [e.1, e.2]
  · by_cases he : j = zlen M
    · subst he
      have h1 : M'.1.2[zlen M]? = some sh' := by rw [hs]; simp
      rw [zws_at G M' h1, List.getElem?_append_right (by rw [zws_len]; exact Nat.le_refl _), zws_len]
      simp
    · have h1 : (zws G M')[j]? = none := by
        rw [List.getElem?_eq_none_iff, zws_len]
        show M'.1.2.length ≤ j
        rw [hs]
        have e0 : zlen M = M.1.2.length := rfl
        simp
        omega
      rw [h1]
      symm
      rw [List.getElem?_eq_none_iff]
      simp [zws_len]
      omega
theorem zup_self (μ : zMu) (r i : Nat) (v : Int32) : zup μ r i v r = upd (μ r) i v := by unfold zup; rw [if_pos rfl]
theorem zup_ne (μ : zMu) {r a : Nat} (i : Nat) (v : Int32) (h : a ≠ r) : zup μ r i v a = μ a := by unfold zup; rw [if_neg h]
theorem zupl_self (μ : zNu) (r i : Nat) (v : Int64) : zupl μ r i v r = vp_updL (μ r) i v := by unfold zupl; rw [if_pos rfl]
theorem zupl_ne (μ : zNu) {r a : Nat} (i : Nat) (v : Int64) (h : a ≠ r) : zupl μ r i v a = μ a := by unfold zupl; rw [if_neg h]
/-- the locals -/
def zpairs (G : zG) (L : zL) : List (Nat × Value) := (List.range L.length).filterMap (fun i => if zget L i = zU then none else some (i, zrl G (zget L i)))
def zlk (G : zG) (ls : Array Slot) (nL : Nat) (L : zL) : Prop := L.length = nL ∧ lv_has ls nL (zpairs G L)
theorem zget_lt : ∀ {L : zL} {i : Nat}, zget L i ≠ zU → i < L.length
  | [], i, h => absurd rfl h
  | a :: l, 0, h => Nat.zero_lt_succ _
  | a :: l, i + 1, h => Nat.succ_lt_succ (zget_lt (L := l) h)
theorem zpairs_in {G : zG} {L : zL} {i : Nat} (h : zget L i ≠ zU) : (i, zrl G (zget L i)) ∈ zpairs G L := by
  unfold zpairs
  rw [List.mem_filterMap]
  exact ⟨i, List.mem_range.mpr (zget_lt h), by rw [if_neg h]⟩
theorem zpairs_out {G : zG} {L : zL} {q : Nat × Value} (h : q ∈ zpairs G L) : zget L q.1 ≠ zU ∧ q.2 = zrl G (zget L q.1) := by
  unfold zpairs at h
  rw [List.mem_filterMap] at h
  obtain ⟨i, -, hi⟩ := h
  by_cases hz : zget L i = zU
  · rw [if_pos hz] at hi; cases hi
  · rw [if_neg hz] at hi
    cases hi
    exact ⟨hz, rfl⟩
theorem zlk_get {G : zG} {ls : Array Slot} {nL : Nat} {L : zL} (h : zlk G ls nL L) {i : Nat} {v : Value} (hv : zget L i = v) (hu : v ≠ zU) : ls[i]? = some (.val (zrl G v)) := by
  subst hv
  exact h.2.2.2 (i, _) (zpairs_in hu)
theorem zset_len : ∀ (L : zL) (i : Nat) (v : Value), (zset L i v).length = L.length
  | [], _, _ => rfl
  | _ :: _, 0, _ => rfl
  | _ :: l, i + 1, v => by show (zset l i v).length + 1 = l.length + 1; rw [zset_len l i v]
theorem zset_self : ∀ {L : zL} {i : Nat} (v : Value), i < L.length → zget (zset L i v) i = v
  | [], i, v, h => by cases h
  | _ :: l, 0, v, h => rfl
  | _ :: l, i + 1, v, h => zset_self (L := l) v (Nat.lt_of_succ_lt_succ h)
theorem zset_ne : ∀ {L : zL} {i j : Nat} (v : Value), j ≠ i → zget (zset L i v) j = zget L j
  | [], _, _, _, _ => rfl
  | _ :: l, 0, 0, v, h => absurd rfl h
  | _ :: l, 0, j + 1, v, h => rfl
  | _ :: l, i + 1, 0, v, h => rfl
  | _ :: l, i + 1, j + 1, v, h => zset_ne (L := l) v (fun q => h (congrArg Nat.succ q))
theorem zlk_sub {G : zG} {ls : Array Slot} {nL : Nat} {L' : zL} {lv : List (Nat × Value)} (hl : L'.length = nL) (h : lv_has ls nL lv) (hs : ∀ q ∈ zpairs G L', q ∈ lv) : zlk G ls nL L' := ⟨hl, h.1, h.2.1, fun q hq => h.2.2 q (hs q hq)⟩
theorem zclr_cat {v : Value} (h : zclr v ≠ zU) : zclr v = v ∧ ¬ v.category = 2 := by
  unfold zclr at h ⊢
  cases hz : zc2 v with
  | true => rw [hz] at h; exact absurd rfl h
  | false =>
    refine ⟨rfl, fun q => ?_⟩
    rw [(zc2_cat v).mpr q] at hz
    cases hz
theorem zst_len (L : zL) (i : Nat) (v : Value) : (zst L i v).length = L.length := by
  cases i with
  | zero => exact zset_len _ _ _
  | succ j => show (zset (zset L j _) (j + 1) v).length = _; rw [zset_len, zset_len]
theorem zst_self {L : zL} {i : Nat} (v : Value) (h : i < L.length) : zget (zst L i v) i = v := by
  cases i with
  | zero => exact zset_self v h
  | succ j => exact zset_self v (by rw [zset_len]; exact h)
theorem zst_ne {L : zL} {i j : Nat} (v : Value) (h : j ≠ i) (hu : zget (zst L i v) j ≠ zU) : zget (zst L i v) j = zget L j ∧ (j + 1 = i → ¬ (zget L j).category = 2) := by
  cases i with
  | zero => exact ⟨zset_ne v h, fun q => by omega⟩
  | succ i =>
    have e : zget (zst L (i + 1) v) j = zget (zset L i (zclr (zget L i))) j := zset_ne v h
    by_cases hj : j = i
    · subst hj
      by_cases hl : j < L.length
      · rw [e, zset_self _ hl] at hu
        rw [e, zset_self _ hl]
        exact ⟨(zclr_cat hu).1, fun _ => (zclr_cat hu).2⟩
      · exact absurd (zget_lt hu) (by rw [zst_len]; exact hl)
    · rw [e, zset_ne _ hj]
      exact ⟨rfl, fun q => by omega⟩
theorem zlk_store1 {G : zG} {ls ls' : Array Slot} {nL i : Nat} {L : zL} {x : Value} (h : zlk G ls nL L) (hi : i < nL) (h' : lv_has ls' nL ((i, zrl G x) :: (zpairs G L).filter (fun q => !(q.1 == i) && !(q.1 + 1 == i && q.2.category == 2)))) : zlk G ls' nL (zst L i x) := by
  refine zlk_sub (by rw [zst_len]; exact h.1) h' fun q hq => ?_
  obtain ⟨h1, h2⟩ := zpairs_out hq
  by_cases hqi : q.1 = i
  · obtain ⟨a, b⟩ := q
    simp only at hqi h1 h2
    subst hqi
    rw [zst_self x (by rw [h.1]; exact hi)] at h2
    rw [h2]
    exact List.mem_cons_self
  · obtain ⟨e1, e2⟩ := zst_ne x hqi h1
    rw [e1] at h1 h2
    refine List.mem_cons_of_mem _ (List.mem_filter.mpr ⟨?_, ?_⟩)
    · obtain ⟨a, b⟩ := q
      simp only at h1 h2 ⊢
      rw [h2]
      exact zpairs_in h1
    · have e3 : (q.1 == i) = false := by simpa using hqi
      rw [e3, h2, zrl_cat]
      by_cases hz : q.1 + 1 = i
      · have := e2 hz
        simp [this]
      · simp [hz]
theorem zlk_store2 {G : zG} {ls ls' : Array Slot} {nL i : Nat} {L : zL} {x : Value} (h : zlk G ls nL L) (hi : i + 1 < nL) (h' : lv_has ls' nL ((i, zrl G x) :: (zpairs G L).filter (fun q => !(q.1 == i) && (!(q.1 == i + 1) && !(q.1 + 1 == i && q.2.category == 2))))) : zlk G ls' nL (zset (zst L i x) (i + 1) zU) := by
  refine zlk_sub (by rw [zset_len, zst_len]; exact h.1) h' fun q hq => ?_
  obtain ⟨h1, h2⟩ := zpairs_out hq
  have hq1 : q.1 ≠ i + 1 := by
    intro hz
    rw [hz, zset_self zU (by rw [zst_len, h.1]; exact hi)] at h1
    exact h1 rfl
  rw [zset_ne zU hq1] at h1 h2
  by_cases hqi : q.1 = i
  · obtain ⟨a, b⟩ := q
    simp only at hqi h1 h2
    subst hqi
    rw [zst_self x (by rw [h.1]; omega)] at h2
    rw [h2]
    exact List.mem_cons_self
  · obtain ⟨e1, e2⟩ := zst_ne x hqi h1
    rw [e1] at h1 h2
    refine List.mem_cons_of_mem _ (List.mem_filter.mpr ⟨?_, ?_⟩)
    · obtain ⟨a, b⟩ := q
      simp only at h1 h2 ⊢
      rw [h2]
      exact zpairs_in h1
    · have e3 : (q.1 == i) = false := by simpa using hqi
      have e4 : (q.1 == i + 1) = false := by simpa using hq1
      rw [e3, e4, h2, zrl_cat]
      by_cases hz : q.1 + 1 = i
      · have := e2 hz
        simp [this]
      · simp [hz]
