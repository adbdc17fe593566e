/-! THE MACHINE: a flat memory (every object and array by its number, ints and longs apart), and what the bytecode computes over it, as a function -/
abbrev zL : Type := List Value
abbrev zS : Type := Nat × List (List Nat)
abbrev zMu : Type := Nat → Nat → Int32
abbrev zNu : Type := Nat → Nat → Int64
abbrev zM : Type := zS × zMu × zNu
abbrev zR : Type := Option (Value × zM)
abbrev zK : Type := Nat → zL → zL → zM → zR
abbrev zC : Type := Nat → zL → zM → zR
abbrev zO : Type := zC → zK → zL → zL → zM → zR
/-- a place without a value -/
abbrev zU : Value := .retAddr 0
def zget : zL → Nat → Value
  | [], _ => zU
  | a :: _, 0 => a
  | _ :: l, n + 1 => zget l n
def zset : zL → Nat → Value → zL
  | [], _, _ => []
  | _ :: l, 0, v => v :: l
  | a :: l, n + 1, v => a :: zset l n v
def zc2 (v : Value) : Bool := match v with
  | .long _ => true
  | .double _ => true
  | _ => false
/-- a store at i spoils a long that begins ahead of it -/
def zclr (v : Value) : Value := bif zc2 v then zU else v
def zst (L : zL) (i : Nat) (v : Value) : zL := match i with
  | 0 => zset L 0 v
  | j + 1 => zset (zset L j (zclr (zget L j))) (j + 1) v
def zup (μ : zMu) (r i : Nat) (v : Int32) : zMu := fun a => if a = r then upd (μ r) i v else μ a
def zupl (ν : zNu) (r i : Nat) (v : Int64) : zNu := fun a => if a = r then vp_updL (ν r) i v else ν a
def zrow0 {α : Type} (z : α) (μ : Nat → Nat → α) (r : Nat) : Nat → Nat → α := fun a => if a = r then fun _ => z else μ a
/-- what a field holds: its kind 0 an int, 1 a long, 2 null, q + 3 the cell q -/
def zfv (μ : Nat → Int32) (ν : Nat → Int64) (slot kd : Nat) : Value := match kd with
  | 0 => .int (μ slot)
  | 1 => .long (ν slot)
  | 2 => .null
  | q + 3 => .ref q
def op_bad : zO := fun _ _ _ _ _ => none
def op_const (v : Value) (n : Nat) : zO := fun _ k L st M => k n L (v :: st) M
def op_ild (i n : Nat) : zO := fun _ k L st M => match zget L i with
  | .int x => k n L (.int x :: st) M
  | _ => none
def op_lld (i n : Nat) : zO := fun _ k L st M => match zget L i with
  | .long x => k n L (.long x :: st) M
  | _ => none
def op_ald (i n : Nat) : zO := fun _ k L st M => match zget L i with
  | .ref x => k n L (.ref x :: st) M
  | .retAddr (x + 1) => k n L (.retAddr (x + 1) :: st) M
  | _ => none
def op_ist (i n : Nat) : zO := fun _ k L st M => match st with
  | .int x :: r => k n (zst L i (.int x)) r M
  | _ => none
def op_lst (i n : Nat) : zO := fun _ k L st M => match st with
  | .long x :: r => k n (zset (zst L i (.long x)) (i + 1) zU) r M
  | _ => none
def op_ast (i n : Nat) : zO := fun _ k L st M => match st with
  | .ref x :: r => k n (zst L i (.ref x)) r M
  | _ => none
def op_iinc (i : Nat) (c : Int32) (n : Nat) : zO := fun _ k L st M => match zget L i with
  | .int x => k n (zst L i (.int (x + c))) st M
  | _ => none
def op_i2 (f : Int32 → Int32 → Int32) (n : Nat) : zO := fun _ k L st M => match st with
  | .int y :: .int x :: r => k n L (.int (f x y) :: r) M
  | _ => none
def op_i2z (f : Int32 → Int32 → Int32) (n : Nat) : zO := fun _ k L st M => match st with
  | .int y :: .int x :: r => if y = 0 then none else k n L (.int (f x y) :: r) M
  | _ => none
def op_l2 (f : Int64 → Int64 → Int64) (n : Nat) : zO := fun _ k L st M => match st with
  | .long y :: .long x :: r => k n L (.long (f x y) :: r) M
  | _ => none
def op_l2z (f : Int64 → Int64 → Int64) (n : Nat) : zO := fun _ k L st M => match st with
  | .long y :: .long x :: r => if y = 0 then none else k n L (.long (f x y) :: r) M
  | _ => none
def op_lsh (f : Int64 → Int32 → Int64) (n : Nat) : zO := fun _ k L st M => match st with
  | .int y :: .long x :: r => k n L (.long (f x y) :: r) M
  | _ => none
def op_i1 (f : Int32 → Int32) (n : Nat) : zO := fun _ k L st M => match st with
  | .int x :: r => k n L (.int (f x) :: r) M
  | _ => none
def op_l1 (f : Int64 → Int64) (n : Nat) : zO := fun _ k L st M => match st with
  | .long x :: r => k n L (.long (f x) :: r) M
  | _ => none
def op_i2l (n : Nat) : zO := fun _ k L st M => match st with
  | .int x :: r => k n L (.long x.toInt64 :: r) M
  | _ => none
def op_l2i (n : Nat) : zO := fun _ k L st M => match st with
  | .long x :: r => k n L (.int x.toInt32 :: r) M
  | _ => none
/-- lcmp and the jump behind it stay two: -1, 0, 1 -/
def op_lcmp (n : Nat) : zO := fun _ k L st M => match st with
  | .long y :: .long x :: r => k n L (.int (lg_cmp x y) :: r) M
  | _ => none
def op_dup (n : Nat) : zO := fun _ k L st M => match st with
  | v :: r => bif zc2 v then none else k n L (v :: v :: r) M
  | _ => none
def op_dup2 (n : Nat) : zO := fun _ k L st M => match st with
  | v :: w :: r => bif zc2 v || zc2 w then none else k n L (v :: w :: v :: w :: r) M
  | _ => none
def op_pop (n : Nat) : zO := fun _ k L st M => match st with
  | v :: r => bif zc2 v then none else k n L r M
  | _ => none
def op_dup2l (n : Nat) : zO := fun _ k L st M => match st with
  | .long x :: r => k n L (.long x :: .long x :: r) M
  | _ => none
def op_dupx1 (n : Nat) : zO := fun _ k L st M => match st with
  | v :: w :: r => bif zc2 v || zc2 w then none else k n L (v :: w :: v :: r) M
  | _ => none
def op_dupx2 (n : Nat) : zO := fun _ k L st M => match st with
  | v :: w :: u :: r => bif zc2 v || zc2 w || zc2 u then none else k n L (v :: w :: u :: v :: r) M
  | _ => none
def op_dup2x1 (n : Nat) : zO := fun _ k L st M => match st with
  | .long x :: w :: r => bif zc2 w then none else k n L (.long x :: w :: .long x :: r) M
  | _ => none
def op_dup2x2 (n : Nat) : zO := fun _ k L st M => match st with
  | .long x :: w :: u :: r => bif zc2 w || zc2 u then none else k n L (.long x :: w :: u :: .long x :: r) M
  | _ => none
def op_goto (t : Nat) : zO := fun _ k L st M => k t L st M
def op_eq (t n : Nat) : zO := fun _ k L st M => match st with
  | .int x :: r => if x = 0 then k t L r M else k n L r M
  | _ => none
def op_ne (t n : Nat) : zO := fun _ k L st M => match st with
  | .int x :: r => if x = 0 then k n L r M else k t L r M
  | _ => none
def op_lt (t n : Nat) : zO := fun _ k L st M => match st with
  | .int x :: r => if x < 0 then k t L r M else k n L r M
  | _ => none
def op_ge (t n : Nat) : zO := fun _ k L st M => match st with
  | .int x :: r => if 0 ≤ x then k t L r M else k n L r M
  | _ => none
def op_le (t n : Nat) : zO := fun _ k L st M => match st with
  | .int x :: r => if x ≤ 0 then k t L r M else k n L r M
  | _ => none
def op_gt (t n : Nat) : zO := fun _ k L st M => match st with
  | .int x :: r => if 0 < x then k t L r M else k n L r M
  | _ => none
def op_ceq (t n : Nat) : zO := fun _ k L st M => match st with
  | .int y :: .int x :: r => if x = y then k t L r M else k n L r M
  | _ => none
def op_cne (t n : Nat) : zO := fun _ k L st M => match st with
  | .int y :: .int x :: r => if x = y then k n L r M else k t L r M
  | _ => none
def op_clt (t n : Nat) : zO := fun _ k L st M => match st with
  | .int y :: .int x :: r => if x < y then k t L r M else k n L r M
  | _ => none
def op_cge (t n : Nat) : zO := fun _ k L st M => match st with
  | .int y :: .int x :: r => if y ≤ x then k t L r M else k n L r M
  | _ => none
def op_cle (t n : Nat) : zO := fun _ k L st M => match st with
  | .int y :: .int x :: r => if x ≤ y then k t L r M else k n L r M
  | _ => none
def op_cgt (t n : Nat) : zO := fun _ k L st M => match st with
  | .int y :: .int x :: r => if y < x then k t L r M else k n L r M
  | _ => none
def zsw {α : Type} (k : Nat → α) (x : Int32) (d : Nat) : List (Int32 × Nat) → α
  | [] => k d
  | q :: r => if x = q.1 then k q.2 else zsw k x d r
def op_sw (ts : List (Int32 × Nat)) (d : Nat) : zO := fun _ k L st M => match st with
  | .int x :: r => zsw (fun t => k t L r M) x d ts
  | _ => none
def op_get (ci slot n : Nat) : zO := fun _ k L st M => match st with
  | .ref (r + 1) :: rest => match M.1.2[r]? with
    | some (0 :: c :: ks) => bif Nat.beq c ci then match ks[slot]? with
      | some kd => k n L (zfv (M.2.1 (r + 1)) (M.2.2 (r + 1)) slot kd :: rest) M
      | none => none
      else none
    | _ => none
  | _ => none
def op_puti (ci slot n : Nat) : zO := fun _ k L st M => match st with
  | .int x :: .ref (r + 1) :: rest => match M.1.2[r]? with
    | some (0 :: c :: ks) => bif Nat.beq c ci then match ks[slot]? with
      | some 0 => k n L rest (M.1, zup M.2.1 (r + 1) slot x, M.2.2)
      | _ => none
      else none
    | _ => none
  | _ => none
def op_putl (ci slot n : Nat) : zO := fun _ k L st M => match st with
  | .long x :: .ref (r + 1) :: rest => match M.1.2[r]? with
    | some (0 :: c :: ks) => bif Nat.beq c ci then match ks[slot]? with
      | some 1 => k n L rest (M.1, M.2.1, zupl M.2.2 (r + 1) slot x)
      | _ => none
      else none
    | _ => none
  | _ => none
def op_putr (ci slot n : Nat) : zO := fun _ k L st M => match st with
  | .ref q :: .ref (r + 1) :: rest => match M.1.2[r]? with
    | some (0 :: c :: ks) => bif Nat.beq c ci then match ks[slot]? with
      | some (_ + 2) => k n L rest ((M.1.1, M.1.2.set r (0 :: c :: ks.set slot (q + 3))), M.2.1, M.2.2)
      | _ => none
      else none
    | _ => none
  | _ => none
/-- t: 1 ints, 3 booleans, 4 chars; the script is cell 0 -/
def op_ald1 (t n : Nat) : zO := fun _ k L st M => match st with
  | .int i :: .ref (r + 1) :: rest => match M.1.2[r]? with
    | some [t', len] => bif Nat.beq t' t then (if 0 ≤ i.toInt ∧ i.toInt < (len : Int) then k n L (.int (M.2.1 (r + 1) i.toNatClampNeg) :: rest) M else none) else none
    | _ => none
  | .int i :: .ref 0 :: rest => bif Nat.beq t 1 then (if 0 ≤ i.toInt ∧ i.toInt < (M.1.1 : Int) then k n L (.int (M.2.1 0 i.toNatClampNeg) :: rest) M else none) else none
  | _ => none
def op_lald (n : Nat) : zO := fun _ k L st M => match st with
  | .int i :: .ref (r + 1) :: rest => match M.1.2[r]? with
    | some [2, len] => if 0 ≤ i.toInt ∧ i.toInt < (len : Int) then k n L (.long (M.2.2 (r + 1) i.toNatClampNeg) :: rest) M else none
    | _ => none
  | _ => none
def znar (t : Nat) (x : Int32) : Int32 := match t with
  | 3 => vp_nar .boolean x
  | 4 => vp_nar .char x
  | _ => x
def op_ast1 (t n : Nat) : zO := fun _ k L st M => match st with
  | .int x :: .int i :: .ref (r + 1) :: rest => match M.1.2[r]? with
    | some [t', len] => bif Nat.beq t' t then (if 0 ≤ i.toInt ∧ i.toInt < (len : Int) then k n L rest (M.1, zup M.2.1 (r + 1) i.toNatClampNeg (znar t x), M.2.2) else none) else none
    | _ => none
  | _ => none
def op_last (n : Nat) : zO := fun _ k L st M => match st with
  | .long x :: .int i :: .ref (r + 1) :: rest => match M.1.2[r]? with
    | some [2, len] => if 0 ≤ i.toInt ∧ i.toInt < (len : Int) then k n L rest (M.1, M.2.1, zupl M.2.2 (r + 1) i.toNatClampNeg x) else none
    | _ => none
  | _ => none
def op_alen (t n : Nat) : zO := fun _ k L st M => match st with
  | .ref (r + 1) :: rest => match M.1.2[r]? with
    | some [t', len] => bif Nat.beq t' t then k n L (.int (Int32.ofNat len) :: rest) M else none
    | _ => none
  | _ => none
def op_slen (n : Nat) : zO := fun _ k L st M => match st with
  | .ref 0 :: rest => k n L (.int (Int32.ofNat M.1.1) :: rest) M
  | _ => none
def op_new (ci : Nat) (ks : List Nat) (n : Nat) : zO := fun _ k L st M =>
  k n L (.ref (M.1.2.length + 1) :: st) ((M.1.1, M.1.2 ++ [0 :: ci :: ks]), zrow0 0 M.2.1 (M.1.2.length + 1), zrow0 0 M.2.2 (M.1.2.length + 1))
def op_newa (t n : Nat) : zO := fun _ k L st M => match st with
  | .int c :: r => if 0 ≤ c.toInt ∧ c.toInt ≤ 16777216 then k n L (.ref (M.1.2.length + 1) :: r) ((M.1.1, M.1.2 ++ [[t, c.toNatClampNeg]]), zrow0 0 M.2.1 (M.1.2.length + 1), zrow0 0 M.2.2 (M.1.2.length + 1)) else none
  | _ => none
def op_obj (n : Nat) : zO := fun _ k L st M => match st with
  | .ref _ :: r => bif Nat.ble (r.map fun v => v.category).sum 8 then k n L r M else none
  | _ => none
/-- what a call answers, by its kind: 0 nothing, 1 an int, 2 a long -/
def zbv (r : zR) (f : zM → zR) : zR := match r with
  | some (.null, M) => f M
  | _ => none
def zbi (r : zR) (f : Int32 → zM → zR) : zR := match r with
  | some (.int v, M) => f v M
  | _ => none
def zbl (r : zR) (f : Int64 → zM → zR) : zR := match r with
  | some (.long v, M) => f v M
  | _ => none
def zbk (rt : Nat) (r : zR) (f : zL → zM → zR) : zR := match rt with
  | 0 => zbv r (f [])
  | 1 => zbi r (fun v => f [.int v])
  | _ => zbl r (fun v => f [.long v])
/-- a call of method j (static) with na values of the stack; rt: the kind of its answer -/
def op_calls (j na rt n : Nat) : zO := fun call k L st M =>
  bif Nat.beq (st.take na).length na && Nat.ble ((st.drop na).map fun v => v.category).sum 8 then
    zbk rt (call j (st.take na).reverse M) (fun w M' => k n L (w ++ st.drop na) M')
  else none
/-- a call of method j of an object of class ci, with na values beside it -/
def op_callv (j ci na rt n : Nat) : zO := fun call k L st M =>
  match st.drop na with
  | .ref (r + 1) :: rest => match M.1.2[r]? with
    | some (0 :: c :: _) => bif Nat.beq c ci && Nat.beq (st.take na).length na && Nat.ble (rest.map fun v => v.category).sum 8 then
        zbk rt (call j (.ref (r + 1) :: (st.take na).reverse) M) (fun w M' => k n L (w ++ rest) M')
      else none
    | _ => none
  | _ => none
/-- a constructor's call -/
def op_calli (j na n : Nat) : zO := fun call k L st M =>
  match st.drop na with
  | .ref (r + 1) :: rest => bif Nat.beq (st.take na).length na && Nat.ble (rest.map fun v => v.category).sum 8 then
      zbv (call j (.ref (r + 1) :: (st.take na).reverse) M) (fun M' => k n L rest M')
    else none
  | _ => none
def op_ireturn : zO := fun _ _ _ st M => match st with
  | [.int v] => some (.int v, M)
  | _ => none
def op_zreturn : zO := fun _ _ _ st M => match st with
  | [.int v] => if v = 0 ∨ v = 1 then some (.int v, M) else none
  | _ => none
def op_lreturn : zO := fun _ _ _ st M => match st with
  | [.long v] => some (.long v, M)
  | _ => none
def op_vreturn : zO := fun _ _ _ st M => match st with
  | [] => some (.null, M)
  | _ => none
/-- an instruction goes on at most once -/
def zlin (op : zO) : Prop := ∀ (call : zC) (k : zK) (L st : zL) (M : zM) (r : Value × zM), op call k L st M = some r →
  (∀ k' : zK, op call k' L st M = some r) ∨ ∃ (pc' : Nat) (L' st' : zL) (M' : zM), k pc' L' st' M' = some r ∧ ∀ k' : zK, k' pc' L' st' M' = some r → op call k' L st M = some r
def zgood (code : Nat → zO) : Prop := ∀ pc, zlin (code pc)
def zrun (code : Nat → zO) (call : zC) : Nat → zK
  | 0 => fun _ _ _ _ => none
  | n + 1 => fun pc L st M => code pc call (zrun code call n) L st M
theorem zrun_succ {code : Nat → zO} {call : zC} (hg : zgood code) : ∀ (n pc : Nat) (L st : zL) (M : zM) (r : Value × zM), zrun code call n pc L st M = some r → zrun code call (n + 1) pc L st M = some r
  | 0, _, _, _, _, _, h => by cases h
  | n + 1, pc, L, st, M, r, h => by
    rcases hg pc call (zrun code call n) L st M r h with h1 | ⟨pc', L', st', M', h1, h2⟩
    · exact h1 _
    · exact h2 _ (zrun_succ hg n pc' L' st' M' r h1)
theorem zrun_add {code : Nat → zO} {call : zC} (hg : zgood code) {n pc : Nat} {L st : zL} {M : zM} {r : Value × zM} (h : zrun code call n pc L st M = some r) : ∀ m, zrun code call (n + m) pc L st M = some r
  | 0 => h
  | m + 1 => zrun_succ hg (n + m) pc L st M r (zrun_add hg h m)
theorem zrun_le {code : Nat → zO} {call : zC} (hg : zgood code) {n m pc : Nat} {L st : zL} {M : zM} {r : Value × zM} (hnm : n ≤ m) (h : zrun code call n pc L st M = some r) : zrun code call m pc L st M = some r := by
  have h1 := zrun_add hg h (m - n)
  rwa [Nat.add_sub_cancel' hnm] at h1
/-- what a method's body comes to from a place of its code, if it comes to an end -/
noncomputable def zE (code : Nat → zO) (call : zC) : zK := fun pc L st M =>
  @dite zR (∃ (r : Value × zM) (n : Nat), zrun code call n pc L st M = some r) (Classical.propDecidable _) (fun h => some (Classical.choose h)) (fun _ => none)
theorem zE_iff {code : Nat → zO} {call : zC} (hg : zgood code) {pc : Nat} {L st : zL} {M : zM} {r : Value × zM} : zE code call pc L st M = some r ↔ ∃ n : Nat, zrun code call n pc L st M = some r := by
  constructor
  · intro h
    unfold zE at h
    by_cases hx : ∃ (r : Value × zM) (n : Nat), zrun code call n pc L st M = some r
    · rw [dif_pos hx] at h
      obtain ⟨n, hn⟩ := Classical.choose_spec hx
      rw [Option.some.inj h] at hn
      exact ⟨n, hn⟩
    · rw [dif_neg hx] at h
      cases h
  · intro h
    obtain ⟨n, hn⟩ := h
    unfold zE
    have hx : ∃ (r : Value × zM) (n : Nat), zrun code call n pc L st M = some r := ⟨r, n, hn⟩
    rw [dif_pos hx]
    obtain ⟨m, hm⟩ := Classical.choose_spec hx
    have h1 := zrun_le hg (Nat.le_max_left n m) hn
    have h2 := zrun_le hg (Nat.le_max_right n m) hm
    rw [h1] at h2
    exact h2.symm
theorem zE_step {code : Nat → zO} {call : zC} (hg : zgood code) (pc : Nat) (L st : zL) (M : zM) : zE code call pc L st M = code pc call (zE code call) L st M := by
  have key : ∀ r : Value × zM, zE code call pc L st M = some r ↔ code pc call (zE code call) L st M = some r := by
    intro r
    rw [zE_iff hg]
    constructor
    · rintro ⟨n, hn⟩
      cases n with
      | zero => cases hn
      | succ n =>
        rcases hg pc call (zrun code call n) L st M r hn with h1 | ⟨pc', L', st', M', h1, h2⟩
        · exact h1 _
        · exact h2 _ ((zE_iff hg).mpr ⟨n, h1⟩)
    · intro h
      rcases hg pc call (zE code call) L st M r h with h1 | ⟨pc', L', st', M', h1, h2⟩
      · exact ⟨1, h1 _⟩
      · obtain ⟨n, hn⟩ := (zE_iff hg).mp h1
        exact ⟨n + 1, h2 _ hn⟩
  cases h : code pc call (zE code call) L st M with
  | some r => exact (key r).mpr h
  | none =>
    cases h2 : zE code call pc L st M with
    | none => rfl
    | some r =>
      have h3 := (key r).mp h2
      rw [h] at h3
      cases h3
def zmem : List Nat → Nat → Bool
  | [], _ => false
  | a :: l, n => bif Nat.beq n a then true else zmem l n
/-- n steps, and on with k; a place of cuts isn't entered -/
def zrunc (cuts : List Nat) (code : Nat → zO) (call : zC) (k : zK) : Nat → zK
  | 0 => k
  | n + 1 => fun pc L st M => bif zmem cuts pc then k pc L st M else code pc call (zrunc cuts code call k n) L st M
theorem zE_runc' {code : Nat → zO} {call : zC} (hg : zgood code) (cuts : List Nat) : ∀ n : Nat, zrunc cuts code call (zE code call) n = zE code call
  | 0 => rfl
  | n + 1 => by
    funext pc L st M
    show (bif zmem cuts pc then zE code call pc L st M else code pc call (zrunc cuts code call (zE code call) n) L st M) = _
    cases zmem cuts pc with
    | true => rfl
    | false =>
      show code pc call (zrunc cuts code call (zE code call) n) L st M = _
      rw [zE_runc' hg cuts n, ← zE_step hg]
theorem zE_runc {code : Nat → zO} {call : zC} (hg : zgood code) (cuts : List Nat) (n pc : Nat) (L st : zL) (M : zM) : zE code call pc L st M = code pc call (zrunc cuts code call (zE code call) n) L st M := by
  rw [zE_runc' hg cuts n, ← zE_step hg]
/-- a method's code, as rows by their places -/
def zlk1 : List (Nat × zO) → Nat → zO
  | [], _ => op_bad
  | q :: r, pc => bif Nat.beq pc q.1 then q.2 else zlk1 r pc
def zlk2 : List (Nat × List (Nat × zO)) → Nat → zO
  | [], _ => op_bad
  | q :: r, pc => bif Nat.ble pc q.1 then zlk1 q.2 pc else zlk2 r pc
theorem zlk1_all {P : Nat → zO → Prop} (hb : ∀ pc, P pc op_bad) : ∀ (t : List (Nat × zO)), (∀ q ∈ t, P q.1 q.2) → ∀ pc, P pc (zlk1 t pc)
  | [], _, pc => hb pc
  | q :: r, h, pc => by
    show P pc (bif Nat.beq pc q.1 then q.2 else zlk1 r pc)
    cases hq : Nat.beq pc q.1 with
    | true =>
      have e : pc = q.1 := Nat.eq_of_beq_eq_true hq
      rw [e]
      exact h q List.mem_cons_self
    | false => exact zlk1_all hb r (fun x hx => h x (List.mem_cons_of_mem _ hx)) pc
theorem zlk2_all {P : Nat → zO → Prop} (hb : ∀ pc, P pc op_bad) : ∀ (t : List (Nat × List (Nat × zO))), (∀ c ∈ t, ∀ q ∈ c.2, P q.1 q.2) → ∀ pc, P pc (zlk2 t pc)
  | [], _, pc => hb pc
  | q :: r, h, pc => by
    show P pc (bif Nat.ble pc q.1 then zlk1 q.2 pc else zlk2 r pc)
    cases Nat.ble pc q.1 with
    | true => exact zlk1_all hb q.2 (h q List.mem_cons_self) pc
    | false => exact zlk2_all hb r (fun x hx => h x (List.mem_cons_of_mem _ hx)) pc
/-- a method's first locals -/
def zargs : zL → zL
  | [] => []
  | v :: r => bif zc2 v then v :: zU :: zargs r else v :: zargs r
def zent (n : Nat) (args : zL) : zL := zargs args ++ List.replicate (n - (zargs args).length) zU
/-- methods by numbers: the size of the locals, the code; calls to the depth d -/
noncomputable def zF (T : Nat → Nat × (Nat → zO)) : Nat → zC
  | 0 => fun _ _ _ => none
  | d + 1 => fun j args M => bif Nat.ble (zargs args).length (T j).1 then zE (T j).2 (zF T d) 0 (zent (T j).1 args) [] M else none
theorem lin_const (v : Value) (n : Nat) : zlin (op_const v n) := by
  intro call k L st M r h
  unfold op_const at h ⊢
  try simp only [Bool.cond_eq_ite] at h ⊢
  repeat' (first | (cases h; done) | split at h)
  all_goals first
    | exact Or.inl (fun k' => h)
    | exact Or.inr ⟨_, _, _, _, h, fun k' hk => hk⟩
    | exact Or.inr ⟨_, _, _, _, h, fun k' hk => by first | (rw [if_pos (by assumption)]; exact hk) | (rw [if_neg (by assumption)]; exact hk) | (simp_all; done)⟩
    | exact Or.inl (fun k' => by simp_all)
theorem lin_ild (i : Nat) (n : Nat) : zlin (op_ild i n) := by
  intro call k L st M r h
  unfold op_ild at h ⊢
  try simp only [Bool.cond_eq_ite] at h ⊢
  repeat' (first | (cases h; done) | split at h)
  all_goals first
    | exact Or.inl (fun k' => h)
    | exact Or.inr ⟨_, _, _, _, h, fun k' hk => hk⟩
    | exact Or.inr ⟨_, _, _, _, h, fun k' hk => by first | (rw [if_pos (by assumption)]; exact hk) | (rw [if_neg (by assumption)]; exact hk) | (simp_all; done)⟩
    | exact Or.inl (fun k' => by simp_all)
theorem lin_lld (i : Nat) (n : Nat) : zlin (op_lld i n) := by
  intro call k L st M r h
  unfold op_lld at h ⊢
  try simp only [Bool.cond_eq_ite] at h ⊢
  repeat' (first | (cases h; done) | split at h)
  all_goals first
    | exact Or.inl (fun k' => h)
    | exact Or.inr ⟨_, _, _, _, h, fun k' hk => hk⟩
    | exact Or.inr ⟨_, _, _, _, h, fun k' hk => by first | (rw [if_pos (by assumption)]; exact hk) | (rw [if_neg (by assumption)]; exact hk) | (simp_all; done)⟩
    | exact Or.inl (fun k' => by simp_all)
theorem lin_ald (i : Nat) (n : Nat) : zlin (op_ald i n) := by
  intro call k L st M r h
  unfold op_ald at h ⊢
  try simp only [Bool.cond_eq_ite] at h ⊢
  repeat' (first | (cases h; done) | split at h)
  all_goals first
    | exact Or.inl (fun k' => h)
    | exact Or.inr ⟨_, _, _, _, h, fun k' hk => hk⟩
    | exact Or.inr ⟨_, _, _, _, h, fun k' hk => by first | (rw [if_pos (by assumption)]; exact hk) | (rw [if_neg (by assumption)]; exact hk) | (simp_all; done)⟩
    | exact Or.inl (fun k' => by simp_all)
theorem lin_ist (i : Nat) (n : Nat) : zlin (op_ist i n) := by
  intro call k L st M r h
  unfold op_ist at h ⊢
  try simp only [Bool.cond_eq_ite] at h ⊢
  repeat' (first | (cases h; done) | split at h)
  all_goals first
    | exact Or.inl (fun k' => h)
    | exact Or.inr ⟨_, _, _, _, h, fun k' hk => hk⟩
    | exact Or.inr ⟨_, _, _, _, h, fun k' hk => by first | (rw [if_pos (by assumption)]; exact hk) | (rw [if_neg (by assumption)]; exact hk) | (simp_all; done)⟩
    | exact Or.inl (fun k' => by simp_all)
theorem lin_lst (i : Nat) (n : Nat) : zlin (op_lst i n) := by
  intro call k L st M r h
  unfold op_lst at h ⊢
  try simp only [Bool.cond_eq_ite] at h ⊢
  repeat' (first | (cases h; done) | split at h)
  all_goals first
    | exact Or.inl (fun k' => h)
    | exact Or.inr ⟨_, _, _, _, h, fun k' hk => hk⟩
    | exact Or.inr ⟨_, _, _, _, h, fun k' hk => by first | (rw [if_pos (by assumption)]; exact hk) | (rw [if_neg (by assumption)]; exact hk) | (simp_all; done)⟩
    | exact Or.inl (fun k' => by simp_all)
theorem lin_ast (i : Nat) (n : Nat) : zlin (op_ast i n) := by
  intro call k L st M r h
  unfold op_ast at h ⊢
  try simp only [Bool.cond_eq_ite] at h ⊢
  repeat' (first | (cases h; done) | split at h)
  all_goals first
    | exact Or.inl (fun k' => h)
    | exact Or.inr ⟨_, _, _, _, h, fun k' hk => hk⟩
    | exact Or.inr ⟨_, _, _, _, h, fun k' hk => by first | (rw [if_pos (by assumption)]; exact hk) | (rw [if_neg (by assumption)]; exact hk) | (simp_all; done)⟩
    | exact Or.inl (fun k' => by simp_all)
theorem lin_iinc (i : Nat) (c : Int32) (n : Nat) : zlin (op_iinc i c n) := by
  intro call k L st M r h
  unfold op_iinc at h ⊢
  try simp only [Bool.cond_eq_ite] at h ⊢
  repeat' (first | (cases h; done) | split at h)
  all_goals first
    | exact Or.inl (fun k' => h)
    | exact Or.inr ⟨_, _, _, _, h, fun k' hk => hk⟩
    | exact Or.inr ⟨_, _, _, _, h, fun k' hk => by first | (rw [if_pos (by assumption)]; exact hk) | (rw [if_neg (by assumption)]; exact hk) | (simp_all; done)⟩
    | exact Or.inl (fun k' => by simp_all)
theorem lin_i2 (f : Int32 → Int32 → Int32) (n : Nat) : zlin (op_i2 f n) := by
  intro call k L st M r h
  unfold op_i2 at h ⊢
  try simp only [Bool.cond_eq_ite] at h ⊢
  repeat' (first | (cases h; done) | split at h)
  all_goals first
    | exact Or.inl (fun k' => h)
    | exact Or.inr ⟨_, _, _, _, h, fun k' hk => hk⟩
    | exact Or.inr ⟨_, _, _, _, h, fun k' hk => by first | (rw [if_pos (by assumption)]; exact hk) | (rw [if_neg (by assumption)]; exact hk) | (simp_all; done)⟩
    | exact Or.inl (fun k' => by simp_all)
theorem lin_i2z (f : Int32 → Int32 → Int32) (n : Nat) : zlin (op_i2z f n) := by
  intro call k L st M r h
  unfold op_i2z at h ⊢
  try simp only [Bool.cond_eq_ite] at h ⊢
  repeat' (first | (cases h; done) | split at h)
  all_goals first
    | exact Or.inl (fun k' => h)
    | exact Or.inr ⟨_, _, _, _, h, fun k' hk => hk⟩
    | exact Or.inr ⟨_, _, _, _, h, fun k' hk => by first | (rw [if_pos (by assumption)]; exact hk) | (rw [if_neg (by assumption)]; exact hk) | (simp_all; done)⟩
    | exact Or.inl (fun k' => by simp_all)
theorem lin_l2 (g : Int64 → Int64 → Int64) (n : Nat) : zlin (op_l2 g n) := by
  intro call k L st M r h
  unfold op_l2 at h ⊢
  try simp only [Bool.cond_eq_ite] at h ⊢
  repeat' (first | (cases h; done) | split at h)
  all_goals first
    | exact Or.inl (fun k' => h)
    | exact Or.inr ⟨_, _, _, _, h, fun k' hk => hk⟩
    | exact Or.inr ⟨_, _, _, _, h, fun k' hk => by first | (rw [if_pos (by assumption)]; exact hk) | (rw [if_neg (by assumption)]; exact hk) | (simp_all; done)⟩
    | exact Or.inl (fun k' => by simp_all)
theorem lin_l2z (g : Int64 → Int64 → Int64) (n : Nat) : zlin (op_l2z g n) := by
  intro call k L st M r h
  unfold op_l2z at h ⊢
  try simp only [Bool.cond_eq_ite] at h ⊢
  repeat' (first | (cases h; done) | split at h)
  all_goals first
    | exact Or.inl (fun k' => h)
    | exact Or.inr ⟨_, _, _, _, h, fun k' hk => hk⟩
    | exact Or.inr ⟨_, _, _, _, h, fun k' hk => by first | (rw [if_pos (by assumption)]; exact hk) | (rw [if_neg (by assumption)]; exact hk) | (simp_all; done)⟩
    | exact Or.inl (fun k' => by simp_all)
theorem lin_lsh (h : Int64 → Int32 → Int64) (n : Nat) : zlin (op_lsh h n) := by
  intro call k L st M r h
  unfold op_lsh at h ⊢
  try simp only [Bool.cond_eq_ite] at h ⊢
  repeat' (first | (cases h; done) | split at h)
  all_goals first
    | exact Or.inl (fun k' => h)
    | exact Or.inr ⟨_, _, _, _, h, fun k' hk => hk⟩
    | exact Or.inr ⟨_, _, _, _, h, fun k' hk => by first | (rw [if_pos (by assumption)]; exact hk) | (rw [if_neg (by assumption)]; exact hk) | (simp_all; done)⟩
    | exact Or.inl (fun k' => by simp_all)
theorem lin_i1 (f1 : Int32 → Int32) (n : Nat) : zlin (op_i1 f1 n) := by
  intro call k L st M r h
  unfold op_i1 at h ⊢
  try simp only [Bool.cond_eq_ite] at h ⊢
  repeat' (first | (cases h; done) | split at h)
  all_goals first
    | exact Or.inl (fun k' => h)
    | exact Or.inr ⟨_, _, _, _, h, fun k' hk => hk⟩
    | exact Or.inr ⟨_, _, _, _, h, fun k' hk => by first | (rw [if_pos (by assumption)]; exact hk) | (rw [if_neg (by assumption)]; exact hk) | (simp_all; done)⟩
    | exact Or.inl (fun k' => by simp_all)
theorem lin_l1 (g1 : Int64 → Int64) (n : Nat) : zlin (op_l1 g1 n) := by
  intro call k L st M r h
  unfold op_l1 at h ⊢
  try simp only [Bool.cond_eq_ite] at h ⊢
  repeat' (first | (cases h; done) | split at h)
  all_goals first
    | exact Or.inl (fun k' => h)
    | exact Or.inr ⟨_, _, _, _, h, fun k' hk => hk⟩
    | exact Or.inr ⟨_, _, _, _, h, fun k' hk => by first | (rw [if_pos (by assumption)]; exact hk) | (rw [if_neg (by assumption)]; exact hk) | (simp_all; done)⟩
    | exact Or.inl (fun k' => by simp_all)
theorem lin_i2l (n : Nat) : zlin (op_i2l n) := by
  intro call k L st M r h
  unfold op_i2l at h ⊢
  try simp only [Bool.cond_eq_ite] at h ⊢
  repeat' (first | (cases h; done) | split at h)
  all_goals first
    | exact Or.inl (fun k' => h)
    | exact Or.inr ⟨_, _, _, _, h, fun k' hk => hk⟩
    | exact Or.inr ⟨_, _, _, _, h, fun k' hk => by first | (rw [if_pos (by assumption)]; exact hk) | (rw [if_neg (by assumption)]; exact hk) | (simp_all; done)⟩
    | exact Or.inl (fun k' => by simp_all)
theorem lin_l2i (n : Nat) : zlin (op_l2i n) := by
  intro call k L st M r h
  unfold op_l2i at h ⊢
  try simp only [Bool.cond_eq_ite] at h ⊢
  repeat' (first | (cases h; done) | split at h)
  all_goals first
    | exact Or.inl (fun k' => h)
    | exact Or.inr ⟨_, _, _, _, h, fun k' hk => hk⟩
    | exact Or.inr ⟨_, _, _, _, h, fun k' hk => by first | (rw [if_pos (by assumption)]; exact hk) | (rw [if_neg (by assumption)]; exact hk) | (simp_all; done)⟩
    | exact Or.inl (fun k' => by simp_all)
theorem lin_lcmp (n : Nat) : zlin (op_lcmp n) := by
  intro call k L st M r h
  unfold op_lcmp at h ⊢
  try simp only [Bool.cond_eq_ite] at h ⊢
  repeat' (first | (cases h; done) | split at h)
  all_goals first
    | exact Or.inl (fun k' => h)
    | exact Or.inr ⟨_, _, _, _, h, fun k' hk => hk⟩
    | exact Or.inr ⟨_, _, _, _, h, fun k' hk => by first | (rw [if_pos (by assumption)]; exact hk) | (rw [if_neg (by assumption)]; exact hk) | (simp_all; done)⟩
    | exact Or.inl (fun k' => by simp_all)
theorem lin_dup (n : Nat) : zlin (op_dup n) := by
  intro call k L st M r h
  unfold op_dup at h ⊢
  try simp only [Bool.cond_eq_ite] at h ⊢
  repeat' (first | (cases h; done) | split at h)
  all_goals first
    | exact Or.inl (fun k' => h)
    | exact Or.inr ⟨_, _, _, _, h, fun k' hk => hk⟩
    | exact Or.inr ⟨_, _, _, _, h, fun k' hk => by first | (rw [if_pos (by assumption)]; exact hk) | (rw [if_neg (by assumption)]; exact hk) | (simp_all; done)⟩
    | exact Or.inl (fun k' => by simp_all)
theorem lin_dup2 (n : Nat) : zlin (op_dup2 n) := by
  intro call k L st M r h
  unfold op_dup2 at h ⊢
  try simp only [Bool.cond_eq_ite] at h ⊢
  repeat' (first | (cases h; done) | split at h)
  all_goals first
    | exact Or.inl (fun k' => h)
    | exact Or.inr ⟨_, _, _, _, h, fun k' hk => hk⟩
    | exact Or.inr ⟨_, _, _, _, h, fun k' hk => by first | (rw [if_pos (by assumption)]; exact hk) | (rw [if_neg (by assumption)]; exact hk) | (simp_all; done)⟩
    | exact Or.inl (fun k' => by simp_all)
theorem lin_pop (n : Nat) : zlin (op_pop n) := by
  intro call k L st M r h
  unfold op_pop at h ⊢
  try simp only [Bool.cond_eq_ite] at h ⊢
  repeat' (first | (cases h; done) | split at h)
  all_goals first
    | exact Or.inl (fun k' => h)
    | exact Or.inr ⟨_, _, _, _, h, fun k' hk => hk⟩
    | exact Or.inr ⟨_, _, _, _, h, fun k' hk => by first | (rw [if_pos (by assumption)]; exact hk) | (rw [if_neg (by assumption)]; exact hk) | (simp_all; done)⟩
    | exact Or.inl (fun k' => by simp_all)
theorem lin_dup2l (n : Nat) : zlin (op_dup2l n) := by
  intro call k L st M r h
  unfold op_dup2l at h ⊢
  try simp only [Bool.cond_eq_ite] at h ⊢
  repeat' (first | (cases h; done) | split at h)
  all_goals first
    | exact Or.inl (fun k' => h)
    | exact Or.inr ⟨_, _, _, _, h, fun k' hk => hk⟩
    | exact Or.inr ⟨_, _, _, _, h, fun k' hk => by first | (rw [if_pos (by assumption)]; exact hk) | (rw [if_neg (by assumption)]; exact hk) | (simp_all; done)⟩
    | exact Or.inl (fun k' => by simp_all)
theorem lin_dupx1 (n : Nat) : zlin (op_dupx1 n) := by
  intro call k L st M r h
  unfold op_dupx1 at h ⊢
  try simp only [Bool.cond_eq_ite] at h ⊢
  repeat' (first | (cases h; done) | split at h)
  all_goals first
    | exact Or.inl (fun k' => h)
    | exact Or.inr ⟨_, _, _, _, h, fun k' hk => hk⟩
    | exact Or.inr ⟨_, _, _, _, h, fun k' hk => by first | (rw [if_pos (by assumption)]; exact hk) | (rw [if_neg (by assumption)]; exact hk) | (simp_all; done)⟩
    | exact Or.inl (fun k' => by simp_all)
theorem lin_dupx2 (n : Nat) : zlin (op_dupx2 n) := by
  intro call k L st M r h
  unfold op_dupx2 at h ⊢
  try simp only [Bool.cond_eq_ite] at h ⊢
  repeat' (first | (cases h; done) | split at h)
  all_goals first
    | exact Or.inl (fun k' => h)
    | exact Or.inr ⟨_, _, _, _, h, fun k' hk => hk⟩
    | exact Or.inr ⟨_, _, _, _, h, fun k' hk => by first | (rw [if_pos (by assumption)]; exact hk) | (rw [if_neg (by assumption)]; exact hk) | (simp_all; done)⟩
    | exact Or.inl (fun k' => by simp_all)
theorem lin_dup2x1 (n : Nat) : zlin (op_dup2x1 n) := by
  intro call k L st M r h
  unfold op_dup2x1 at h ⊢
  try simp only [Bool.cond_eq_ite] at h ⊢
  repeat' (first | (cases h; done) | split at h)
  all_goals first
    | exact Or.inl (fun k' => h)
    | exact Or.inr ⟨_, _, _, _, h, fun k' hk => hk⟩
    | exact Or.inr ⟨_, _, _, _, h, fun k' hk => by first | (rw [if_pos (by assumption)]; exact hk) | (rw [if_neg (by assumption)]; exact hk) | (simp_all; done)⟩
    | exact Or.inl (fun k' => by simp_all)
theorem lin_dup2x2 (n : Nat) : zlin (op_dup2x2 n) := by
  intro call k L st M r h
  unfold op_dup2x2 at h ⊢
  try simp only [Bool.cond_eq_ite] at h ⊢
  repeat' (first | (cases h; done) | split at h)
  all_goals first
    | exact Or.inl (fun k' => h)
    | exact Or.inr ⟨_, _, _, _, h, fun k' hk => hk⟩
    | exact Or.inr ⟨_, _, _, _, h, fun k' hk => by first | (rw [if_pos (by assumption)]; exact hk) | (rw [if_neg (by assumption)]; exact hk) | (simp_all; done)⟩
    | exact Or.inl (fun k' => by simp_all)
theorem lin_goto (n : Nat) : zlin (op_goto n) := by
  intro call k L st M r h
  unfold op_goto at h ⊢
  try simp only [Bool.cond_eq_ite] at h ⊢
  repeat' (first | (cases h; done) | split at h)
  all_goals first
    | exact Or.inl (fun k' => h)
    | exact Or.inr ⟨_, _, _, _, h, fun k' hk => hk⟩
    | exact Or.inr ⟨_, _, _, _, h, fun k' hk => by first | (rw [if_pos (by assumption)]; exact hk) | (rw [if_neg (by assumption)]; exact hk) | (simp_all; done)⟩
    | exact Or.inl (fun k' => by simp_all)
theorem lin_eq (t : Nat) (n : Nat) : zlin (op_eq t n) := by
  intro call k L st M r h
  unfold op_eq at h ⊢
  try simp only [Bool.cond_eq_ite] at h ⊢
  repeat' (first | (cases h; done) | split at h)
  all_goals first
    | exact Or.inl (fun k' => h)
    | exact Or.inr ⟨_, _, _, _, h, fun k' hk => hk⟩
    | exact Or.inr ⟨_, _, _, _, h, fun k' hk => by first | (rw [if_pos (by assumption)]; exact hk) | (rw [if_neg (by assumption)]; exact hk) | (simp_all; done)⟩
    | exact Or.inl (fun k' => by simp_all)
theorem lin_ne (t : Nat) (n : Nat) : zlin (op_ne t n) := by
  intro call k L st M r h
  unfold op_ne at h ⊢
  try simp only [Bool.cond_eq_ite] at h ⊢
  repeat' (first | (cases h; done) | split at h)
  all_goals first
    | exact Or.inl (fun k' => h)
    | exact Or.inr ⟨_, _, _, _, h, fun k' hk => hk⟩
    | exact Or.inr ⟨_, _, _, _, h, fun k' hk => by first | (rw [if_pos (by assumption)]; exact hk) | (rw [if_neg (by assumption)]; exact hk) | (simp_all; done)⟩
    | exact Or.inl (fun k' => by simp_all)
theorem lin_lt (t : Nat) (n : Nat) : zlin (op_lt t n) := by
  intro call k L st M r h
  unfold op_lt at h ⊢
  try simp only [Bool.cond_eq_ite] at h ⊢
  repeat' (first | (cases h; done) | split at h)
  all_goals first
    | exact Or.inl (fun k' => h)
    | exact Or.inr ⟨_, _, _, _, h, fun k' hk => hk⟩
    | exact Or.inr ⟨_, _, _, _, h, fun k' hk => by first | (rw [if_pos (by assumption)]; exact hk) | (rw [if_neg (by assumption)]; exact hk) | (simp_all; done)⟩
    | exact Or.inl (fun k' => by simp_all)
theorem lin_ge (t : Nat) (n : Nat) : zlin (op_ge t n) := by
  intro call k L st M r h
  unfold op_ge at h ⊢
  try simp only [Bool.cond_eq_ite] at h ⊢
  repeat' (first | (cases h; done) | split at h)
  all_goals first
    | exact Or.inl (fun k' => h)
    | exact Or.inr ⟨_, _, _, _, h, fun k' hk => hk⟩
    | exact Or.inr ⟨_, _, _, _, h, fun k' hk => by first | (rw [if_pos (by assumption)]; exact hk) | (rw [if_neg (by assumption)]; exact hk) | (simp_all; done)⟩
    | exact Or.inl (fun k' => by simp_all)
theorem lin_le (t : Nat) (n : Nat) : zlin (op_le t n) := by
  intro call k L st M r h
  unfold op_le at h ⊢
  try simp only [Bool.cond_eq_ite] at h ⊢
  repeat' (first | (cases h; done) | split at h)
  all_goals first
    | exact Or.inl (fun k' => h)
    | exact Or.inr ⟨_, _, _, _, h, fun k' hk => hk⟩
    | exact Or.inr ⟨_, _, _, _, h, fun k' hk => by first | (rw [if_pos (by assumption)]; exact hk) | (rw [if_neg (by assumption)]; exact hk) | (simp_all; done)⟩
    | exact Or.inl (fun k' => by simp_all)
theorem lin_gt (t : Nat) (n : Nat) : zlin (op_gt t n) := by
  intro call k L st M r h
  unfold op_gt at h ⊢
  try simp only [Bool.cond_eq_ite] at h ⊢
  repeat' (first | (cases h; done) | split at h)
  all_goals first
    | exact Or.inl (fun k' => h)
    | exact Or.inr ⟨_, _, _, _, h, fun k' hk => hk⟩
    | exact Or.inr ⟨_, _, _, _, h, fun k' hk => by first | (rw [if_pos (by assumption)]; exact hk) | (rw [if_neg (by assumption)]; exact hk) | (simp_all; done)⟩
    | exact Or.inl (fun k' => by simp_all)
theorem lin_ceq (t : Nat) (n : Nat) : zlin (op_ceq t n) := by
  intro call k L st M r h
  unfold op_ceq at h ⊢
  try simp only [Bool.cond_eq_ite] at h ⊢
  repeat' (first | (cases h; done) | split at h)
  all_goals first
    | exact Or.inl (fun k' => h)
    | exact Or.inr ⟨_, _, _, _, h, fun k' hk => hk⟩
    | exact Or.inr ⟨_, _, _, _, h, fun k' hk => by first | (rw [if_pos (by assumption)]; exact hk) | (rw [if_neg (by assumption)]; exact hk) | (simp_all; done)⟩
    | exact Or.inl (fun k' => by simp_all)
theorem lin_cne (t : Nat) (n : Nat) : zlin (op_cne t n) := by
  intro call k L st M r h
  unfold op_cne at h ⊢
  try simp only [Bool.cond_eq_ite] at h ⊢
  repeat' (first | (cases h; done) | split at h)
  all_goals first
    | exact Or.inl (fun k' => h)
    | exact Or.inr ⟨_, _, _, _, h, fun k' hk => hk⟩
    | exact Or.inr ⟨_, _, _, _, h, fun k' hk => by first | (rw [if_pos (by assumption)]; exact hk) | (rw [if_neg (by assumption)]; exact hk) | (simp_all; done)⟩
    | exact Or.inl (fun k' => by simp_all)
theorem lin_clt (t : Nat) (n : Nat) : zlin (op_clt t n) := by
  intro call k L st M r h
  unfold op_clt at h ⊢
  try simp only [Bool.cond_eq_ite] at h ⊢
  repeat' (first | (cases h; done) | split at h)
  all_goals first
    | exact Or.inl (fun k' => h)
    | exact Or.inr ⟨_, _, _, _, h, fun k' hk => hk⟩
    | exact Or.inr ⟨_, _, _, _, h, fun k' hk => by first | (rw [if_pos (by assumption)]; exact hk) | (rw [if_neg (by assumption)]; exact hk) | (simp_all; done)⟩
    | exact Or.inl (fun k' => by simp_all)
theorem lin_cge (t : Nat) (n : Nat) : zlin (op_cge t n) := by
  intro call k L st M r h
  unfold op_cge at h ⊢
  try simp only [Bool.cond_eq_ite] at h ⊢
  repeat' (first | (cases h; done) | split at h)
  all_goals first
    | exact Or.inl (fun k' => h)
    | exact Or.inr ⟨_, _, _, _, h, fun k' hk => hk⟩
    | exact Or.inr ⟨_, _, _, _, h, fun k' hk => by first | (rw [if_pos (by assumption)]; exact hk) | (rw [if_neg (by assumption)]; exact hk) | (simp_all; done)⟩
    | exact Or.inl (fun k' => by simp_all)
theorem lin_cle (t : Nat) (n : Nat) : zlin (op_cle t n) := by
  intro call k L st M r h
  unfold op_cle at h ⊢
  try simp only [Bool.cond_eq_ite] at h ⊢
  repeat' (first | (cases h; done) | split at h)
  all_goals first
    | exact Or.inl (fun k' => h)
    | exact Or.inr ⟨_, _, _, _, h, fun k' hk => hk⟩
    | exact Or.inr ⟨_, _, _, _, h, fun k' hk => by first | (rw [if_pos (by assumption)]; exact hk) | (rw [if_neg (by assumption)]; exact hk) | (simp_all; done)⟩
    | exact Or.inl (fun k' => by simp_all)
theorem lin_cgt (t : Nat) (n : Nat) : zlin (op_cgt t n) := by
  intro call k L st M r h
  unfold op_cgt at h ⊢
  try simp only [Bool.cond_eq_ite] at h ⊢
  repeat' (first | (cases h; done) | split at h)
  all_goals first
    | exact Or.inl (fun k' => h)
    | exact Or.inr ⟨_, _, _, _, h, fun k' hk => hk⟩
    | exact Or.inr ⟨_, _, _, _, h, fun k' hk => by first | (rw [if_pos (by assumption)]; exact hk) | (rw [if_neg (by assumption)]; exact hk) | (simp_all; done)⟩
    | exact Or.inl (fun k' => by simp_all)
theorem lin_get (a : Nat) (b : Nat) (n : Nat) : zlin (op_get a b n) := by
  intro call k L st M r h
  unfold op_get at h ⊢
  try simp only [Bool.cond_eq_ite] at h ⊢
  repeat' (first | (cases h; done) | split at h)
  all_goals first
    | exact Or.inl (fun k' => h)
    | exact Or.inr ⟨_, _, _, _, h, fun k' hk => hk⟩
    | exact Or.inr ⟨_, _, _, _, h, fun k' hk => by first | (rw [if_pos (by assumption)]; exact hk) | (rw [if_neg (by assumption)]; exact hk) | (simp_all; done)⟩
    | exact Or.inl (fun k' => by simp_all)
theorem lin_puti (a : Nat) (b : Nat) (n : Nat) : zlin (op_puti a b n) := by
  intro call k L st M r h
  unfold op_puti at h ⊢
  try simp only [Bool.cond_eq_ite] at h ⊢
  repeat' (first | (cases h; done) | split at h)
  all_goals first
    | exact Or.inl (fun k' => h)
    | exact Or.inr ⟨_, _, _, _, h, fun k' hk => hk⟩
    | exact Or.inr ⟨_, _, _, _, h, fun k' hk => by first | (rw [if_pos (by assumption)]; exact hk) | (rw [if_neg (by assumption)]; exact hk) | (simp_all; done)⟩
    | exact Or.inl (fun k' => by simp_all)
theorem lin_putl (a : Nat) (b : Nat) (n : Nat) : zlin (op_putl a b n) := by
  intro call k L st M r h
  unfold op_putl at h ⊢
  try simp only [Bool.cond_eq_ite] at h ⊢
  repeat' (first | (cases h; done) | split at h)
  all_goals first
    | exact Or.inl (fun k' => h)
    | exact Or.inr ⟨_, _, _, _, h, fun k' hk => hk⟩
    | exact Or.inr ⟨_, _, _, _, h, fun k' hk => by first | (rw [if_pos (by assumption)]; exact hk) | (rw [if_neg (by assumption)]; exact hk) | (simp_all; done)⟩
    | exact Or.inl (fun k' => by simp_all)
theorem lin_putr (a : Nat) (b : Nat) (n : Nat) : zlin (op_putr a b n) := by
  intro call k L st M r h
  unfold op_putr at h ⊢
  try simp only [Bool.cond_eq_ite] at h ⊢
  repeat' (first | (cases h; done) | split at h)
  all_goals first
    | exact Or.inl (fun k' => h)
    | exact Or.inr ⟨_, _, _, _, h, fun k' hk => hk⟩
    | exact Or.inr ⟨_, _, _, _, h, fun k' hk => by first | (rw [if_pos (by assumption)]; exact hk) | (rw [if_neg (by assumption)]; exact hk) | (simp_all; done)⟩
    | exact Or.inl (fun k' => by simp_all)
theorem lin_ald1 (t : Nat) (n : Nat) : zlin (op_ald1 t n) := by
  intro call k L st M r h
  unfold op_ald1 at h ⊢
  try simp only [Bool.cond_eq_ite] at h ⊢
  repeat' (first | (cases h; done) | split at h)
  all_goals first
    | exact Or.inl (fun k' => h)
    | exact Or.inr ⟨_, _, _, _, h, fun k' hk => hk⟩
    | exact Or.inr ⟨_, _, _, _, h, fun k' hk => by first | (rw [if_pos (by assumption)]; exact hk) | (rw [if_neg (by assumption)]; exact hk) | (simp_all; done)⟩
    | exact Or.inl (fun k' => by simp_all)
theorem lin_lald (n : Nat) : zlin (op_lald n) := by
  intro call k L st M r h
  unfold op_lald at h ⊢
  try simp only [Bool.cond_eq_ite] at h ⊢
  repeat' (first | (cases h; done) | split at h)
  all_goals first
    | exact Or.inl (fun k' => h)
    | exact Or.inr ⟨_, _, _, _, h, fun k' hk => hk⟩
    | exact Or.inr ⟨_, _, _, _, h, fun k' hk => by first | (rw [if_pos (by assumption)]; exact hk) | (rw [if_neg (by assumption)]; exact hk) | (simp_all; done)⟩
    | exact Or.inl (fun k' => by simp_all)
theorem lin_ast1 (t : Nat) (n : Nat) : zlin (op_ast1 t n) := by
  intro call k L st M r h
  unfold op_ast1 at h ⊢
  try simp only [Bool.cond_eq_ite] at h ⊢
  repeat' (first | (cases h; done) | split at h)
  all_goals first
    | exact Or.inl (fun k' => h)
    | exact Or.inr ⟨_, _, _, _, h, fun k' hk => hk⟩
    | exact Or.inr ⟨_, _, _, _, h, fun k' hk => by first | (rw [if_pos (by assumption)]; exact hk) | (rw [if_neg (by assumption)]; exact hk) | (simp_all; done)⟩
    | exact Or.inl (fun k' => by simp_all)
theorem lin_last (n : Nat) : zlin (op_last n) := by
  intro call k L st M r h
  unfold op_last at h ⊢
  try simp only [Bool.cond_eq_ite] at h ⊢
  repeat' (first | (cases h; done) | split at h)
  all_goals first
    | exact Or.inl (fun k' => h)
    | exact Or.inr ⟨_, _, _, _, h, fun k' hk => hk⟩
    | exact Or.inr ⟨_, _, _, _, h, fun k' hk => by first | (rw [if_pos (by assumption)]; exact hk) | (rw [if_neg (by assumption)]; exact hk) | (simp_all; done)⟩
    | exact Or.inl (fun k' => by simp_all)
theorem lin_alen (t : Nat) (n : Nat) : zlin (op_alen t n) := by
  intro call k L st M r h
  unfold op_alen at h ⊢
  try simp only [Bool.cond_eq_ite] at h ⊢
  repeat' (first | (cases h; done) | split at h)
  all_goals first
    | exact Or.inl (fun k' => h)
    | exact Or.inr ⟨_, _, _, _, h, fun k' hk => hk⟩
    | exact Or.inr ⟨_, _, _, _, h, fun k' hk => by first | (rw [if_pos (by assumption)]; exact hk) | (rw [if_neg (by assumption)]; exact hk) | (simp_all; done)⟩
    | exact Or.inl (fun k' => by simp_all)
theorem lin_slen (n : Nat) : zlin (op_slen n) := by
  intro call k L st M r h
  unfold op_slen at h ⊢
  try simp only [Bool.cond_eq_ite] at h ⊢
  repeat' (first | (cases h; done) | split at h)
  all_goals first
    | exact Or.inl (fun k' => h)
    | exact Or.inr ⟨_, _, _, _, h, fun k' hk => hk⟩
    | exact Or.inr ⟨_, _, _, _, h, fun k' hk => by first | (rw [if_pos (by assumption)]; exact hk) | (rw [if_neg (by assumption)]; exact hk) | (simp_all; done)⟩
    | exact Or.inl (fun k' => by simp_all)
theorem lin_new (a : Nat) (ks : List Nat) (n : Nat) : zlin (op_new a ks n) := by
  intro call k L st M r h
  unfold op_new at h ⊢
  try simp only [Bool.cond_eq_ite] at h ⊢
  repeat' (first | (cases h; done) | split at h)
  all_goals first
    | exact Or.inl (fun k' => h)
    | exact Or.inr ⟨_, _, _, _, h, fun k' hk => hk⟩
    | exact Or.inr ⟨_, _, _, _, h, fun k' hk => by first | (rw [if_pos (by assumption)]; exact hk) | (rw [if_neg (by assumption)]; exact hk) | (simp_all; done)⟩
    | exact Or.inl (fun k' => by simp_all)
theorem lin_newa (t : Nat) (n : Nat) : zlin (op_newa t n) := by
  intro call k L st M r h
  unfold op_newa at h ⊢
  try simp only [Bool.cond_eq_ite] at h ⊢
  repeat' (first | (cases h; done) | split at h)
  all_goals first
    | exact Or.inl (fun k' => h)
    | exact Or.inr ⟨_, _, _, _, h, fun k' hk => hk⟩
    | exact Or.inr ⟨_, _, _, _, h, fun k' hk => by first | (rw [if_pos (by assumption)]; exact hk) | (rw [if_neg (by assumption)]; exact hk) | (simp_all; done)⟩
    | exact Or.inl (fun k' => by simp_all)
theorem lin_obj (n : Nat) : zlin (op_obj n) := by
  intro call k L st M r h
  unfold op_obj at h ⊢
  try simp only [Bool.cond_eq_ite] at h ⊢
  repeat' (first | (cases h; done) | split at h)
  all_goals first
    | exact Or.inl (fun k' => h)
    | exact Or.inr ⟨_, _, _, _, h, fun k' hk => hk⟩
    | exact Or.inr ⟨_, _, _, _, h, fun k' hk => by first | (rw [if_pos (by assumption)]; exact hk) | (rw [if_neg (by assumption)]; exact hk) | (simp_all; done)⟩
    | exact Or.inl (fun k' => by simp_all)
/-- what an answer leaves on the stack -/
def zrs (v : Value) : List Value := match v with
  | .null => []
  | v => [v]
theorem zbk_some {rt : Nat} {r : zR} {f : zL → zM → zR} {x : Value × zM} (h : zbk rt r f = some x) : ∃ v M', r = some (v, M') ∧ f (zrs v) M' = some x ∧ (rt = 0 ↔ v = .null) := by
  unfold zbk at h
  split at h
  · unfold zbv at h
    split at h
    · exact ⟨_, _, rfl, h, by simp⟩
    · cases h
  · unfold zbi at h
    split at h
    · exact ⟨_, _, rfl, h, by simp⟩
    · cases h
  · rename_i h0 h1
    unfold zbl at h
    split at h
    · exact ⟨_, _, rfl, h, ⟨fun q => absurd q h0, fun q => by cases q⟩⟩
    · cases h
theorem zbk_lin {rt : Nat} {r : zR} {k : zK} {n : Nat} {L : zL} {g : zL → zL} {x : Value × zM} (h : zbk rt r (fun w M' => k n L (g w) M') = some x) : ∃ (L' st' : zL) (M' : zM), k n L' st' M' = some x ∧ ∀ k' : zK, k' n L' st' M' = some x → zbk rt r (fun w M' => k' n L (g w) M') = some x := by
  unfold zbk at h ⊢
  split at h
  · unfold zbv at h ⊢
    split at h
    · exact ⟨_, _, _, h, fun k' hk => hk⟩
    · cases h
  · unfold zbi at h ⊢
    split at h
    · exact ⟨_, _, _, h, fun k' hk => hk⟩
    · cases h
  · unfold zbl at h ⊢
    split at h
    · exact ⟨_, _, _, h, fun k' hk => hk⟩
    · cases h
theorem zbif {b : Bool} {α : Type} {x y z : α} (h : (bif b then x else y) = z) (hy : y ≠ z) : b = true ∧ x = z := by
  cases hq : b with
  | true => rw [hq] at h; exact ⟨rfl, h⟩
  | false => rw [hq] at h; exact absurd h hy
theorem lin_calls (j na rt n : Nat) : zlin (op_calls j na rt n) := by
  intro call k L st M r h
  unfold op_calls at h ⊢
  obtain ⟨hb, h2⟩ := zbif h (by nofun)
  obtain ⟨L', st', M', h3, h4⟩ := zbk_lin (g := fun w => w ++ st.drop na) h2
  exact Or.inr ⟨_, _, _, _, h3, fun k' hk => by rw [hb]; exact h4 k' hk⟩
theorem lin_callv (j ci na rt n : Nat) : zlin (op_callv j ci na rt n) := by
  intro call k L st M r h
  unfold op_callv at h ⊢
  split at h
  · split at h
    · rename_i rr rest hd _ c0 ks hs
      obtain ⟨hb, h2⟩ := zbif h (by nofun)
      obtain ⟨L', st', M', h3, h4⟩ := zbk_lin (g := fun w => w ++ rest) h2
      exact Or.inr ⟨_, _, _, _, h3, fun k' hk => by rw [hb]; exact h4 k' hk⟩
    · cases h
  · cases h
theorem lin_calli (j : Nat) (a : Nat) (n : Nat) : zlin (op_calli j a n) := by
  intro call k L st M r h
  unfold op_calli zbv at h ⊢
  try simp only [Bool.cond_eq_ite] at h ⊢
  repeat' (first | (cases h; done) | split at h)
  all_goals first
    | exact Or.inl (fun k' => h)
    | exact Or.inr ⟨_, _, _, _, h, fun k' hk => hk⟩
    | exact Or.inr ⟨_, _, _, _, h, fun k' hk => by first | (rw [if_pos (by assumption)]; exact hk) | (rw [if_neg (by assumption)]; exact hk) | (simp_all; done)⟩
    | exact Or.inl (fun k' => by simp_all)
theorem lin_ireturn  : zlin (op_ireturn) := by
  intro call k L st M r h
  unfold op_ireturn at h ⊢
  try simp only [Bool.cond_eq_ite] at h ⊢
  repeat' (first | (cases h; done) | split at h)
  all_goals first
    | exact Or.inl (fun k' => h)
    | exact Or.inr ⟨_, _, _, _, h, fun k' hk => hk⟩
    | exact Or.inr ⟨_, _, _, _, h, fun k' hk => by first | (rw [if_pos (by assumption)]; exact hk) | (rw [if_neg (by assumption)]; exact hk) | (simp_all; done)⟩
    | exact Or.inl (fun k' => by simp_all)
theorem lin_zreturn  : zlin (op_zreturn) := by
  intro call k L st M r h
  unfold op_zreturn at h ⊢
  try simp only [Bool.cond_eq_ite] at h ⊢
  repeat' (first | (cases h; done) | split at h)
  all_goals first
    | exact Or.inl (fun k' => h)
    | exact Or.inr ⟨_, _, _, _, h, fun k' hk => hk⟩
    | exact Or.inr ⟨_, _, _, _, h, fun k' hk => by first | (rw [if_pos (by assumption)]; exact hk) | (rw [if_neg (by assumption)]; exact hk) | (simp_all; done)⟩
    | exact Or.inl (fun k' => by simp_all)
theorem lin_lreturn  : zlin (op_lreturn) := by
  intro call k L st M r h
  unfold op_lreturn at h ⊢
  try simp only [Bool.cond_eq_ite] at h ⊢
  repeat' (first | (cases h; done) | split at h)
  all_goals first
    | exact Or.inl (fun k' => h)
    | exact Or.inr ⟨_, _, _, _, h, fun k' hk => hk⟩
    | exact Or.inr ⟨_, _, _, _, h, fun k' hk => by first | (rw [if_pos (by assumption)]; exact hk) | (rw [if_neg (by assumption)]; exact hk) | (simp_all; done)⟩
    | exact Or.inl (fun k' => by simp_all)
theorem lin_vreturn  : zlin (op_vreturn) := by
  intro call k L st M r h
  unfold op_vreturn at h ⊢
  try simp only [Bool.cond_eq_ite] at h ⊢
  repeat' (first | (cases h; done) | split at h)
  all_goals first
    | exact Or.inl (fun k' => h)
    | exact Or.inr ⟨_, _, _, _, h, fun k' hk => hk⟩
    | exact Or.inr ⟨_, _, _, _, h, fun k' hk => by first | (rw [if_pos (by assumption)]; exact hk) | (rw [if_neg (by assumption)]; exact hk) | (simp_all; done)⟩
    | exact Or.inl (fun k' => by simp_all)
theorem lin_bad  : zlin (op_bad) := by
  intro call k L st M r h
  unfold op_bad at h ⊢
  try simp only [Bool.cond_eq_ite] at h ⊢
  repeat' (first | (cases h; done) | split at h)
  all_goals first
    | exact Or.inl (fun k' => h)
    | exact Or.inr ⟨_, _, _, _, h, fun k' hk => hk⟩
    | exact Or.inr ⟨_, _, _, _, h, fun k' hk => by first | (rw [if_pos (by assumption)]; exact hk) | (rw [if_neg (by assumption)]; exact hk) | (simp_all; done)⟩
    | exact Or.inl (fun k' => by simp_all)
theorem lin_sw (ts : List (Int32 × Nat)) (d : Nat) : zlin (op_sw ts d) := by
  intro call k L st M r h
  unfold op_sw at h ⊢
  cases st with
  | nil => cases h
  | cons v st =>
    cases v with
    | int x =>
      right
      simp only at h ⊢
      induction ts with
      | nil => exact ⟨_, _, _, _, h, fun k' hk => hk⟩
      | cons q ts ih =>
        simp only [zsw] at h ⊢
        by_cases hx : x = q.1
        · rw [if_pos hx] at h
          exact ⟨_, _, _, _, h, fun k' hk => by rw [if_pos hx]; exact hk⟩
        · rw [if_neg hx] at h
          obtain ⟨a, b, c, e, h1, h2⟩ := ih h
          exact ⟨a, b, c, e, h1, fun k' hk => by rw [if_neg hx]; exact h2 k' hk⟩
    | _ => cases h
