/-! GROWTH: what an instruction leaves is no smaller; its own lemma, for it needs no machine -/
def zgw (I : zI) (ret : Option FieldType) (op : zO) : Prop := ∀ (call : zC) (k : zK) (rv : Value) (Mr : zM), (∀ (j : Nat) (a : zL) (M : zM) (v : Value) (M' : zM), call j a M = some (v, M') → zGr M M' ∧ zkok (I j).2.2.2 v) →
  (∀ (pc' : Nat) (L st : zL) (M : zM), k pc' L st M = some (rv, Mr) → zGr M Mr ∧ zkok ret rv) → ∀ (L st : zL) (M : zM), op call k L st M = some (rv, Mr) → zGr M Mr ∧ zkok ret rv
theorem zGr_zup (M : zM) (r i : Nat) (v : Int32) : zGr M (M.1, zup M.2.1 (r + 1) i v, M.2.2) := zGr_same rfl (zup_ne M.2.1 i v (Nat.succ_ne_zero r).symm)
section GW
variable {I : zI} {ret : Option FieldType}
theorem gw_const (v : Value) (n : Nat) : zgw I ret (op_const v n) := by
  intro call k rv Mr hc hk L st M h
  unfold op_const at h
  try simp only [Bool.cond_eq_ite] at h
  repeat' (first | (cases h; done) | split at h)
  all_goals exact hk _ _ _ _ h
theorem gw_ild (i : Nat) (n : Nat) : zgw I ret (op_ild i n) := by
  intro call k rv Mr hc hk L st M h
  unfold op_ild at h
  try simp only [Bool.cond_eq_ite] at h
  repeat' (first | (cases h; done) | split at h)
  all_goals exact hk _ _ _ _ h
theorem gw_lld (i : Nat) (n : Nat) : zgw I ret (op_lld i n) := by
  intro call k rv Mr hc hk L st M h
  unfold op_lld at h
  try simp only [Bool.cond_eq_ite] at h
  repeat' (first | (cases h; done) | split at h)
  all_goals exact hk _ _ _ _ h
theorem gw_ald (i : Nat) (n : Nat) : zgw I ret (op_ald i n) := by
  intro call k rv Mr hc hk L st M h
  unfold op_ald at h
  try simp only [Bool.cond_eq_ite] at h
  repeat' (first | (cases h; done) | split at h)
  all_goals exact hk _ _ _ _ h
theorem gw_ist (i : Nat) (n : Nat) : zgw I ret (op_ist i n) := by
  intro call k rv Mr hc hk L st M h
  unfold op_ist at h
  try simp only [Bool.cond_eq_ite] at h
  repeat' (first | (cases h; done) | split at h)
  all_goals exact hk _ _ _ _ h
theorem gw_lst (i : Nat) (n : Nat) : zgw I ret (op_lst i n) := by
  intro call k rv Mr hc hk L st M h
  unfold op_lst at h
  try simp only [Bool.cond_eq_ite] at h
  repeat' (first | (cases h; done) | split at h)
  all_goals exact hk _ _ _ _ h
theorem gw_ast (i : Nat) (n : Nat) : zgw I ret (op_ast i n) := by
  intro call k rv Mr hc hk L st M h
  unfold op_ast at h
  try simp only [Bool.cond_eq_ite] at h
  repeat' (first | (cases h; done) | split at h)
  all_goals exact hk _ _ _ _ h
theorem gw_iinc (i : Nat) (c : Int32) (n : Nat) : zgw I ret (op_iinc i c n) := by
  intro call k rv Mr hc hk L st M h
  unfold op_iinc at h
  try simp only [Bool.cond_eq_ite] at h
  repeat' (first | (cases h; done) | split at h)
  all_goals exact hk _ _ _ _ h
theorem gw_i2 (f : Int32 → Int32 → Int32) (n : Nat) : zgw I ret (op_i2 f n) := by
  intro call k rv Mr hc hk L st M h
  unfold op_i2 at h
  try simp only [Bool.cond_eq_ite] at h
  repeat' (first | (cases h; done) | split at h)
  all_goals exact hk _ _ _ _ h
theorem gw_i2z (f : Int32 → Int32 → Int32) (n : Nat) : zgw I ret (op_i2z f n) := by
  intro call k rv Mr hc hk L st M h
  unfold op_i2z at h
  try simp only [Bool.cond_eq_ite] at h
  repeat' (first | (cases h; done) | split at h)
  all_goals exact hk _ _ _ _ h
theorem gw_l2 (g : Int64 → Int64 → Int64) (n : Nat) : zgw I ret (op_l2 g n) := by
  intro call k rv Mr hc hk L st M h
  unfold op_l2 at h
  try simp only [Bool.cond_eq_ite] at h
  repeat' (first | (cases h; done) | split at h)
  all_goals exact hk _ _ _ _ h
theorem gw_l2z (g : Int64 → Int64 → Int64) (n : Nat) : zgw I ret (op_l2z g n) := by
  intro call k rv Mr hc hk L st M h
  unfold op_l2z at h
  try simp only [Bool.cond_eq_ite] at h
  repeat' (first | (cases h; done) | split at h)
  all_goals exact hk _ _ _ _ h
theorem gw_lsh (h : Int64 → Int32 → Int64) (n : Nat) : zgw I ret (op_lsh h n) := by
  intro call k rv Mr hc hk L st M h
  unfold op_lsh at h
  try simp only [Bool.cond_eq_ite] at h
  repeat' (first | (cases h; done) | split at h)
  all_goals exact hk _ _ _ _ h
theorem gw_i1 (f1 : Int32 → Int32) (n : Nat) : zgw I ret (op_i1 f1 n) := by
  intro call k rv Mr hc hk L st M h
  unfold op_i1 at h
  try simp only [Bool.cond_eq_ite] at h
  repeat' (first | (cases h; done) | split at h)
  all_goals exact hk _ _ _ _ h
theorem gw_l1 (g1 : Int64 → Int64) (n : Nat) : zgw I ret (op_l1 g1 n) := by
  intro call k rv Mr hc hk L st M h
  unfold op_l1 at h
  try simp only [Bool.cond_eq_ite] at h
  repeat' (first | (cases h; done) | split at h)
  all_goals exact hk _ _ _ _ h
theorem gw_i2l (n : Nat) : zgw I ret (op_i2l n) := by
  intro call k rv Mr hc hk L st M h
  unfold op_i2l at h
  try simp only [Bool.cond_eq_ite] at h
  repeat' (first | (cases h; done) | split at h)
  all_goals exact hk _ _ _ _ h
theorem gw_l2i (n : Nat) : zgw I ret (op_l2i n) := by
  intro call k rv Mr hc hk L st M h
  unfold op_l2i at h
  try simp only [Bool.cond_eq_ite] at h
  repeat' (first | (cases h; done) | split at h)
  all_goals exact hk _ _ _ _ h
theorem gw_lcmp (n : Nat) : zgw I ret (op_lcmp n) := by
  intro call k rv Mr hc hk L st M h
  unfold op_lcmp at h
  try simp only [Bool.cond_eq_ite] at h
  repeat' (first | (cases h; done) | split at h)
  all_goals exact hk _ _ _ _ h
theorem gw_dup (n : Nat) : zgw I ret (op_dup n) := by
  intro call k rv Mr hc hk L st M h
  unfold op_dup at h
  try simp only [Bool.cond_eq_ite] at h
  repeat' (first | (cases h; done) | split at h)
  all_goals exact hk _ _ _ _ h
theorem gw_dup2 (n : Nat) : zgw I ret (op_dup2 n) := by
  intro call k rv Mr hc hk L st M h
  unfold op_dup2 at h
  try simp only [Bool.cond_eq_ite] at h
  repeat' (first | (cases h; done) | split at h)
  all_goals exact hk _ _ _ _ h
theorem gw_pop (n : Nat) : zgw I ret (op_pop n) := by
  intro call k rv Mr hc hk L st M h
  unfold op_pop at h
  try simp only [Bool.cond_eq_ite] at h
  repeat' (first | (cases h; done) | split at h)
  all_goals exact hk _ _ _ _ h
theorem gw_dup2l (n : Nat) : zgw I ret (op_dup2l n) := by
  intro call k rv Mr hc hk L st M h
  unfold op_dup2l at h
  try simp only [Bool.cond_eq_ite] at h
  repeat' (first | (cases h; done) | split at h)
  all_goals exact hk _ _ _ _ h
theorem gw_dupx1 (n : Nat) : zgw I ret (op_dupx1 n) := by
  intro call k rv Mr hc hk L st M h
  unfold op_dupx1 at h
  try simp only [Bool.cond_eq_ite] at h
  repeat' (first | (cases h; done) | split at h)
  all_goals exact hk _ _ _ _ h
theorem gw_dupx2 (n : Nat) : zgw I ret (op_dupx2 n) := by
  intro call k rv Mr hc hk L st M h
  unfold op_dupx2 at h
  try simp only [Bool.cond_eq_ite] at h
  repeat' (first | (cases h; done) | split at h)
  all_goals exact hk _ _ _ _ h
theorem gw_dup2x1 (n : Nat) : zgw I ret (op_dup2x1 n) := by
  intro call k rv Mr hc hk L st M h
  unfold op_dup2x1 at h
  try simp only [Bool.cond_eq_ite] at h
  repeat' (first | (cases h; done) | split at h)
  all_goals exact hk _ _ _ _ h
theorem gw_dup2x2 (n : Nat) : zgw I ret (op_dup2x2 n) := by
  intro call k rv Mr hc hk L st M h
  unfold op_dup2x2 at h
  try simp only [Bool.cond_eq_ite] at h
  repeat' (first | (cases h; done) | split at h)
  all_goals exact hk _ _ _ _ h
theorem gw_goto (n : Nat) : zgw I ret (op_goto n) := by
  intro call k rv Mr hc hk L st M h
  unfold op_goto at h
  try simp only [Bool.cond_eq_ite] at h
  repeat' (first | (cases h; done) | split at h)
  all_goals exact hk _ _ _ _ h
theorem gw_eq (t : Nat) (n : Nat) : zgw I ret (op_eq t n) := by
  intro call k rv Mr hc hk L st M h
  unfold op_eq at h
  try simp only [Bool.cond_eq_ite] at h
  repeat' (first | (cases h; done) | split at h)
  all_goals exact hk _ _ _ _ h
theorem gw_ne (t : Nat) (n : Nat) : zgw I ret (op_ne t n) := by
  intro call k rv Mr hc hk L st M h
  unfold op_ne at h
  try simp only [Bool.cond_eq_ite] at h
  repeat' (first | (cases h; done) | split at h)
  all_goals exact hk _ _ _ _ h
theorem gw_lt (t : Nat) (n : Nat) : zgw I ret (op_lt t n) := by
  intro call k rv Mr hc hk L st M h
  unfold op_lt at h
  try simp only [Bool.cond_eq_ite] at h
  repeat' (first | (cases h; done) | split at h)
  all_goals exact hk _ _ _ _ h
theorem gw_ge (t : Nat) (n : Nat) : zgw I ret (op_ge t n) := by
  intro call k rv Mr hc hk L st M h
  unfold op_ge at h
  try simp only [Bool.cond_eq_ite] at h
  repeat' (first | (cases h; done) | split at h)
  all_goals exact hk _ _ _ _ h
theorem gw_le (t : Nat) (n : Nat) : zgw I ret (op_le t n) := by
  intro call k rv Mr hc hk L st M h
  unfold op_le at h
  try simp only [Bool.cond_eq_ite] at h
  repeat' (first | (cases h; done) | split at h)
  all_goals exact hk _ _ _ _ h
theorem gw_gt (t : Nat) (n : Nat) : zgw I ret (op_gt t n) := by
  intro call k rv Mr hc hk L st M h
  unfold op_gt at h
  try simp only [Bool.cond_eq_ite] at h
  repeat' (first | (cases h; done) | split at h)
  all_goals exact hk _ _ _ _ h
theorem gw_ceq (t : Nat) (n : Nat) : zgw I ret (op_ceq t n) := by
  intro call k rv Mr hc hk L st M h
  unfold op_ceq at h
  try simp only [Bool.cond_eq_ite] at h
  repeat' (first | (cases h; done) | split at h)
  all_goals exact hk _ _ _ _ h
theorem gw_cne (t : Nat) (n : Nat) : zgw I ret (op_cne t n) := by
  intro call k rv Mr hc hk L st M h
  unfold op_cne at h
  try simp only [Bool.cond_eq_ite] at h
  repeat' (first | (cases h; done) | split at h)
  all_goals exact hk _ _ _ _ h
theorem gw_clt (t : Nat) (n : Nat) : zgw I ret (op_clt t n) := by
  intro call k rv Mr hc hk L st M h
  unfold op_clt at h
  try simp only [Bool.cond_eq_ite] at h
  repeat' (first | (cases h; done) | split at h)
  all_goals exact hk _ _ _ _ h
theorem gw_cge (t : Nat) (n : Nat) : zgw I ret (op_cge t n) := by
  intro call k rv Mr hc hk L st M h
  unfold op_cge at h
  try simp only [Bool.cond_eq_ite] at h
  repeat' (first | (cases h; done) | split at h)
  all_goals exact hk _ _ _ _ h
theorem gw_cle (t : Nat) (n : Nat) : zgw I ret (op_cle t n) := by
  intro call k rv Mr hc hk L st M h
  unfold op_cle at h
  try simp only [Bool.cond_eq_ite] at h
  repeat' (first | (cases h; done) | split at h)
  all_goals exact hk _ _ _ _ h
theorem gw_cgt (t : Nat) (n : Nat) : zgw I ret (op_cgt t n) := by
  intro call k rv Mr hc hk L st M h
  unfold op_cgt at h
  try simp only [Bool.cond_eq_ite] at h
  repeat' (first | (cases h; done) | split at h)
  all_goals exact hk _ _ _ _ h
theorem gw_get (a : Nat) (b : Nat) (n : Nat) : zgw I ret (op_get a b n) := by
  intro call k rv Mr hc hk L st M h
  unfold op_get at h
  try simp only [Bool.cond_eq_ite] at h
  repeat' (first | (cases h; done) | split at h)
  all_goals exact hk _ _ _ _ h
theorem gw_ald1 (t : Nat) (n : Nat) : zgw I ret (op_ald1 t n) := by
  intro call k rv Mr hc hk L st M h
  unfold op_ald1 at h
  try simp only [Bool.cond_eq_ite] at h
  repeat' (first | (cases h; done) | split at h)
  all_goals exact hk _ _ _ _ h
theorem gw_lald (n : Nat) : zgw I ret (op_lald n) := by
  intro call k rv Mr hc hk L st M h
  unfold op_lald at h
  try simp only [Bool.cond_eq_ite] at h
  repeat' (first | (cases h; done) | split at h)
  all_goals exact hk _ _ _ _ h
theorem gw_alen (t : Nat) (n : Nat) : zgw I ret (op_alen t n) := by
  intro call k rv Mr hc hk L st M h
  unfold op_alen at h
  try simp only [Bool.cond_eq_ite] at h
  repeat' (first | (cases h; done) | split at h)
  all_goals exact hk _ _ _ _ h
theorem gw_slen (n : Nat) : zgw I ret (op_slen n) := by
  intro call k rv Mr hc hk L st M h
  unfold op_slen at h
  try simp only [Bool.cond_eq_ite] at h
  repeat' (first | (cases h; done) | split at h)
  all_goals exact hk _ _ _ _ h
theorem gw_obj (n : Nat) : zgw I ret (op_obj n) := by
  intro call k rv Mr hc hk L st M h
  unfold op_obj at h
  try simp only [Bool.cond_eq_ite] at h
  repeat' (first | (cases h; done) | split at h)
  all_goals exact hk _ _ _ _ h
theorem gw_bad  : zgw I ret (op_bad ) := by
  intro call k rv Mr hc hk L st M h
  unfold op_bad at h
  try simp only [Bool.cond_eq_ite] at h
  repeat' (first | (cases h; done) | split at h)
  all_goals exact hk _ _ _ _ h
theorem gw_sw (ts : List (Int32 × Nat)) (d : Nat) : zgw I ret (op_sw ts d) := by
  intro call k rv Mr hc hk L st M h
  unfold op_sw at h
  split at h
  · rw [zsw_id] at h
    exact hk _ _ _ _ h
  · cases h
theorem gw_puti (a b n : Nat) : zgw I ret (op_puti a b n) := by
  intro call k rv Mr hc hk L st M h
  unfold op_puti at h
  simp only [Bool.cond_eq_ite] at h
  repeat' (first | (cases h; done) | split at h)
  all_goals
    have h1 := hk _ _ _ _ h
    exact ⟨(zGr_zup M _ _ _).tr h1.1, h1.2⟩
theorem gw_putl (a b n : Nat) : zgw I ret (op_putl a b n) := by
  intro call k rv Mr hc hk L st M h
  unfold op_putl at h
  simp only [Bool.cond_eq_ite] at h
  repeat' (first | (cases h; done) | split at h)
  all_goals
    have h1 := hk _ _ _ _ h
    exact ⟨(zGr_same rfl rfl).tr h1.1, h1.2⟩
theorem gw_putr (a b n : Nat) : zgw I ret (op_putr a b n) := by
  intro call k rv Mr hc hk L st M h
  unfold op_putr at h
  simp only [Bool.cond_eq_ite] at h
  repeat' (first | (cases h; done) | split at h)
  all_goals
    have h1 := hk _ _ _ _ h
    refine ⟨(zGr_set (by assumption) ?_).tr h1.1, h1.2⟩
    show (List.set _ _ _).length = List.length _
    rw [List.length_set]
theorem gw_ast1 (t n : Nat) : zgw I ret (op_ast1 t n) := by
  intro call k rv Mr hc hk L st M h
  unfold op_ast1 at h
  simp only [Bool.cond_eq_ite] at h
  repeat' (first | (cases h; done) | split at h)
  all_goals
    have h1 := hk _ _ _ _ h
    exact ⟨(zGr_zup M _ _ _).tr h1.1, h1.2⟩
theorem gw_last (n : Nat) : zgw I ret (op_last n) := by
  intro call k rv Mr hc hk L st M h
  unfold op_last at h
  repeat' (first | (cases h; done) | split at h)
  all_goals
    have h1 := hk _ _ _ _ h
    exact ⟨(zGr_same rfl rfl).tr h1.1, h1.2⟩
theorem gw_new (ci : Nat) (ks : List Nat) (n : Nat) : zgw I ret (op_new ci ks n) := by
  intro call k rv Mr hc hk L st M h
  have h1 := hk _ _ _ _ h
  exact ⟨(zpushM_gr M (0 :: ci :: ks)).tr h1.1, h1.2⟩
theorem gw_newa (t n : Nat) : zgw I ret (op_newa t n) := by
  intro call k rv Mr hc hk L st M h
  unfold op_newa at h
  repeat' (first | (cases h; done) | split at h)
  all_goals
    have h1 := hk _ _ _ _ h
    exact ⟨(zpushM_gr M [t, _]).tr h1.1, h1.2⟩
theorem gw_calls (j na rt n : Nat) : zgw I ret (op_calls j na rt n) := by
  intro call k rv Mr hc hk L st M h
  unfold op_calls at h
  obtain ⟨-, h2⟩ := zbif h (by nofun)
  obtain ⟨v, M', hcall, h3, -⟩ := zbk_some h2
  have h1 := hk _ _ _ _ h3
  exact ⟨(hc _ _ _ _ _ hcall).1.tr h1.1, h1.2⟩
theorem gw_callv (j ci na rt n : Nat) : zgw I ret (op_callv j ci na rt n) := by
  intro call k rv Mr hc hk L st M h
  unfold op_callv at h
  split at h
  · split at h
    · obtain ⟨-, h2⟩ := zbif h (by nofun)
      obtain ⟨v, M', hcall, h3, -⟩ := zbk_some h2
      have h1 := hk _ _ _ _ h3
      exact ⟨(hc _ _ _ _ _ hcall).1.tr h1.1, h1.2⟩
    · cases h
  · cases h
theorem gw_calli (j na n : Nat) : zgw I ret (op_calli j na n) := by
  intro call k rv Mr hc hk L st M h
  unfold op_calli at h
  split at h
  · obtain ⟨-, h2⟩ := zbif h (by nofun)
    clear h
    unfold zbv at h2
    split at h2
    · rename_i hcall
      have h1 := hk _ _ _ _ h2
      exact ⟨(hc _ _ _ _ _ hcall).1.tr h1.1, h1.2⟩
    · cases h2
  · cases h
theorem gw_ireturn (hr : ret = some .int) : zgw I ret op_ireturn := by
  subst hr
  intro call k rv Mr hc hk L st M h
  unfold op_ireturn at h
  split at h
  · cases h; exact ⟨zGr.rf _, Or.inl ⟨_, rfl, rfl⟩⟩
  · cases h
theorem gw_zreturn (hr : ret = some .boolean) : zgw I ret op_zreturn := by
  subst hr
  intro call k rv Mr hc hk L st M h
  unfold op_zreturn at h
  split at h
  · split at h
    · rename_i hv
      cases h
      exact ⟨zGr.rf _, Or.inl ⟨_, rfl, by rcases hv with rfl | rfl <;> rfl⟩⟩
    · cases h
  · cases h
theorem gw_lreturn (hr : ret = some .long) : zgw I ret op_lreturn := by
  subst hr
  intro call k rv Mr hc hk L st M h
  unfold op_lreturn at h
  split at h
  · cases h; exact ⟨zGr.rf _, Or.inr ⟨_, rfl, rfl⟩⟩
  · cases h
theorem gw_vreturn (hr : ret = none) : zgw I ret op_vreturn := by
  subst hr
  intro call k rv Mr hc hk L st M h
  unfold op_vreturn at h
  split at h
  · cases h; exact ⟨zGr.rf _, rfl⟩
  · cases h
end GW
/-- a row of a method's code: sound, and growing -/
def zRow (I : zI) (own nm : String) (cc : ByteArray) (nL : Nat) (ret : Option FieldType) (pc : Nat) (op : zO) : Prop := zSnd I own nm cc nL ret pc op ∧ zgw I ret op
def zMthOK (I : zI) (T : Nat → Nat × (Nat → zO)) (j : Nat) : Prop := (∀ pc, zRow I (I j).1.cls (I j).1.name (I j).2.1 (I j).2.2.1 (I j).2.2.2 pc ((T j).2 pc)) ∧ (T j).1 = (I j).2.2.1 ∧ plainName (I j).1.cls = true
theorem zrun_at {I : zI} {own nm : String} {cc : ByteArray} {nL : Nat} {ret : Option FieldType} {code : Nat → zO} (hs : ∀ pc, zRow I own nm cc nL ret pc (code pc)) {p : Program} {l : Launch} {e : Env} {R : Room} {s : State} {m : MethodId} {args : Array Value} {below : List Frame} {meth : Method} {c : Code} {G : zG} {d : Nat} {Qf : State → Prop} {rv : Value} {M0 Mr : zM}
    (C : zCtx p l e R s m args below meth c G own nm cc nL ret d Qf rv M0 Mr) {call : zC} (hc : zCal l G I d call) : ∀ (n pc : Nat) (L st : zL) (M : zM), zrun code call n pc L st M = some (rv, Mr) → zAt p l e R s m args below meth c G nL ret Qf rv M0 Mr pc L st M
  | 0, _, _, _, _, h => by cases h
  | n + 1, pc, L, st, M, h => (hs pc).1.2 p l e R s m args below meth c G d Qf rv M0 Mr C call (zrun code call n) hc (zrun_at hs C hc n) L st M h
theorem zrun_gw {I : zI} {own nm : String} {cc : ByteArray} {nL : Nat} {ret : Option FieldType} {code : Nat → zO} (hs : ∀ pc, zRow I own nm cc nL ret pc (code pc)) {rv : Value} {Mr : zM} {call : zC} (hc : ∀ (j : Nat) (a : zL) (M : zM) (v : Value) (M' : zM), call j a M = some (v, M') → zGr M M' ∧ zkok (I j).2.2.2 v) :
    ∀ (n pc : Nat) (L st : zL) (M : zM), zrun code call n pc L st M = some (rv, Mr) → zGr M Mr ∧ zkok ret rv
  | 0, _, _, _, _, h => by cases h
  | n + 1, pc, L, st, M, h => (hs pc).2 call (zrun code call n) rv Mr hc (zrun_gw hs hc n) L st M h
theorem zargs_len (G : zG) : ∀ a : zL, (zargs a).length = (lg_sl (a.map (zrl G))).length
  | [] => rfl
  | v :: r => by
    have ih := zargs_len G r
    have e : lg_sl ((v :: r).map (zrl G)) = (if (zrl G v).category = 2 then [.val (zrl G v), .second] else [.val (zrl G v)]) ++ lg_sl (r.map (zrl G)) := rfl
    rw [e, zrl_cat]
    unfold zargs
    cases hz : zc2 v with
    | true =>
      rw [if_pos ((zc2_cat v).mp hz)]
      simp [ih]
    | false =>
      rw [if_neg (fun q => by rw [(zc2_cat v).mpr q] at hz; cases hz)]
      simp [ih]
theorem zargs_get (G : zG) : ∀ (a : zL) (o i : Nat), zget (zargs a) i ≠ zU → (o + i, zrl G (zget (zargs a) i)) ∈ lv_args o (a.map (zrl G))
  | [], o, i, h => absurd rfl h
  | v :: r, o, i, h => by
    have e : lv_args o ((v :: r).map (zrl G)) = (o, zrl G v) :: lv_args (if (zrl G v).category = 2 then o + 2 else o + 1) (r.map (zrl G)) := rfl
    rw [e, zrl_cat]
    unfold zargs at h ⊢
    cases hz : zc2 v with
    | true =>
      rw [hz] at h
      rw [if_pos ((zc2_cat v).mp hz)]
      match i, h with
      | 0, h => exact List.mem_cons_self
      | 1, h => exact absurd rfl h
      | i + 2, h =>
        have h1 := zargs_get G r (o + 2) i h
        have e2 : o + 2 + i = o + (i + 2) := by omega
        rw [e2] at h1
        exact List.mem_cons_of_mem _ h1
    | false =>
      rw [hz] at h
      rw [if_neg (fun q => by rw [(zc2_cat v).mpr q] at hz; cases hz)]
      match i, h with
      | 0, h => exact List.mem_cons_self
      | i + 1, h =>
        have h1 := zargs_get G r (o + 1) i h
        have e2 : o + 1 + i = o + (i + 1) := by omega
        rw [e2] at h1
        exact List.mem_cons_of_mem _ h1
theorem zget_app : ∀ (a : zL) (n i : Nat), zget (a ++ List.replicate n zU) i ≠ zU → zget (a ++ List.replicate n zU) i = zget a i
  | [], 0, i, h => rfl
  | [], n + 1, 0, h => absurd rfl h
  | [], n + 1, i + 1, h => by
    have h1 := zget_app [] n i h
    exact h1
  | v :: r, n, 0, h => rfl
  | v :: r, n, i + 1, h => zget_app r n i h
/-- the locals with which a method begins -/
theorem zent_lk {G : zG} {nL : Nat} {a : zL} (h : (zargs a).length ≤ nL) : zlk G ((lg_sl (a.map (zrl G)) ++ List.replicate (nL - (lg_sl (a.map (zrl G))).length) Slot.unset).toArray) nL (zent nL a) := by
  have hl := lv_entry (a.map (zrl G)) (n := nL) (by rw [← zargs_len G a]; exact h)
  refine zlk_sub (by simp only [zent, List.length_append, List.length_replicate]; omega) hl fun q hq => ?_
  obtain ⟨h1, h2⟩ := zpairs_out hq
  have h3 := zget_app _ _ _ h1
  unfold zent at h1 h2
  rw [h3] at h2
  rw [h3] at h1
  have h4 := zargs_get G a 0 q.1 h1
  rw [Nat.zero_add] at h4
  obtain ⟨q1, q2⟩ := q
  simp only at h2 h4
  rw [h2]
  exact h4
