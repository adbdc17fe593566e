/-! RULES read: units and sums, both sides -/
/-- a run of typed steps, as a list -/
def RunL : List (Int × Int) → Nat → (Nat → Nat) → Nat → (Nat → Nat) → Prop
  | [], h, T, h', T' => h' = h ∧ T' = T
  | p :: cs, h, T, h', T' => ∃ h1 T1, Tst p.1 p.2 h T h1 T1 ∧ RunL cs h1 T1 h' T'
theorem RunL_app : ∀ (cs ds : List (Int × Int)) {h h1 h2 : Nat} {T T1 T2 : Nat → Nat}, RunL cs h T h1 T1 → RunL ds h1 T1 h2 T2 → RunL (cs ++ ds) h T h2 T2
  | [], ds, h, h1, h2, T, T1, T2, a, b => by
    obtain ⟨a1, a2⟩ := a
    subst a1
    subst a2
    exact b
  | p :: cs, ds, h, h1, h2, T, T1, T2, a, b => by
    obtain ⟨h', T', s, a⟩ := a
    exact ⟨h', T', s, RunL_app cs ds a b⟩
def SumT (cs : List (Int × Int)) : Prop := ∀ (h : Nat) (T : Nat → Nat), h ≤ 60 → ∃ T', RunL cs h T (h + 1) T' ∧ ∀ i, i < h → T' i = T i
def TailT (cs : List (Int × Int)) : Prop := ∀ (h : Nat) (T : Nat → Nat), h ≤ 61 → ∃ T', RunL cs (h + 1) T (h + 1) T' ∧ ∀ i, i < h → T' i = T i
theorem TailT_nil : TailT [] := fun h T _ => ⟨T, ⟨rfl, rfl⟩, fun _ _ => rfl⟩
theorem SumT_tail {cs ds : List (Int × Int)} (a : SumT cs) (b : TailT ds) : SumT (cs ++ ds) := fun h T hh => by
  obtain ⟨T1, r1, s1⟩ := a h T hh
  obtain ⟨T2, r2, s2⟩ := b h T1 (by omega)
  exact ⟨T2, RunL_app _ _ r1 r2, fun i hi => by rw [s2 i hi, s1 i hi]⟩
theorem TailT_app {cs ds : List (Int × Int)} (a : TailT cs) (b : TailT ds) : TailT (cs ++ ds) := fun h T hh => by
  obtain ⟨T1, r1, s1⟩ := a h T hh
  obtain ⟨T2, r2, s2⟩ := b h T1 hh
  exact ⟨T2, RunL_app _ _ r1 r2, fun i hi => by rw [s2 i hi, s1 i hi]⟩
/-- a sum of two: what stands behind, the operation -/
theorem TailT_op {cs : List (Int × Int)} {o : Int} (a : ∀ (h : Nat) (T : Nat → Nat), h ≤ 62 → ∃ T', RunL cs h T (h + 1) T' ∧ (∀ i, i < h → T' i = T i) ∧ (o = 5 → T' h = 1)) (ho : 2 ≤ o ∧ o ≤ 5) : TailT (cs ++ [(o, 0)]) := fun h T hh => by
  obtain ⟨T1, r1, s1, s2⟩ := a (h + 1) T (by omega)
  refine ⟨fun i => if i = h then 0 else T1 i, RunL_app _ _ r1 ⟨h + 1, _, Or.inr (Or.inr (Or.inl ⟨by show 2 ≤ o ∧ o ≤ 8; omega, by omega, by omega, fun q => s2 q, fun i hi => if_neg (by omega), Or.inl (if_pos (by omega))⟩)), rfl, rfl⟩, fun i hi => ?_⟩
  show (if i = h then 0 else T1 i) = T i
  rw [if_neg (by omega), s1 i (by omega)]
theorem unit_T {p : Int × Int} (h : (p.1 = 0 ∧ 0 ≤ p.2 ∧ p.2 ≤ 9999) ∨ (p.1 = 1 ∧ 0 ≤ p.2 ∧ p.2 ≤ 4)) : ∀ (h : Nat) (T : Nat → Nat), h ≤ 62 → ∃ T', RunL [p] h T (h + 1) T' ∧ ∀ i, i < h → T' i = T i := fun n T hn => by
  refine ⟨fun i => if i = n then 0 else T i, ⟨n + 1, _, ?_, rfl, rfl⟩, fun i hi => if_neg (by omega)⟩
  rcases h with ⟨h1, h2⟩ | ⟨h1, h2⟩
  · exact Or.inl ⟨h1, h2, by omega, rfl, fun i hi => if_neg (by omega), Or.inl (if_pos rfl)⟩
  · exact Or.inr (Or.inl ⟨h1, h2, by omega, rfl, fun i hi => if_neg (by omega), if_pos rfl⟩)
theorem div_T {v : Int} (h : 1 ≤ v ∧ v ≤ 9999) : ∀ (h : Nat) (T : Nat → Nat), h ≤ 62 → ∃ T', RunL [(0, v)] h T (h + 1) T' ∧ (∀ i, i < h → T' i = T i) ∧ T' h = 1 := fun n T hn => by
  refine ⟨fun i => if i = n then 1 else T i, ⟨n + 1, (fun i => if i = n then 1 else T i), Or.inl ⟨rfl, by show 0 ≤ v ∧ v ≤ 9999; omega, by omega, rfl, fun i hi => if_neg (by omega), Or.inr ⟨if_pos rfl, by show v ≠ 0; omega⟩⟩, rfl, rfl⟩, fun i hi => if_neg (by omega), if_pos rfl⟩
/-- the two sides' places -/
def CcX (K : Nat) (pl : Nat → Nat) (ty va : Nat → Int) (X : zMu) : Prop := TSr (K + 1) pl ty va (X 8) (X 9) (X 10)
def CcY (g : Nat → Int) (Y : zMu) : Prop := (∀ i, Y 96 i = zi (g i)) ∧ ∀ i : Nat, i < 80 → Y 97 i = zi (mch i)
def frC (c c' q q' : Nat → Int32) : Prop := (∀ i, i ≠ 6 → i ≠ 7 → i ≠ 8 → c' i = c i) ∧ ∀ i, i ≠ 7 → q' i = q i
def frM (B : Nat) (r r' a a' b b' : Nat → Int32) : Prop := (∀ i, i ≠ 7 → i ≠ 8 → i ≠ 9 → i ≠ 10 → i ≠ 12 → i ≠ 13 → i ≠ 75 → i ≠ 76 → i ≠ 78 → r' i = r i) ∧ (∀ i, i < B ∨ B + 800 ≤ i → a' i = a i) ∧ ∀ i, i < B ∨ B + 800 ≤ i → b' i = b i
/-- the class's memory with token k in hand, m written -/
abbrev ST (X : zMu) (c q : Nat → Int32) (k m : Nat) (f : Nat → Int32) : zMu := CM X (upd c 6 (zi (k : Int))) (upd q 7 (zi (m : Int))) f
/-- the class's call comes through -/
def PC (K : Nat) (pl : Nat → Nat) (ty va : Nat → Int) (j : Nat) (args : zL) (need k k' : Nat) (cs : List (Int × Int)) : Prop := ∀ (D len : Nat) (X : zMu) (ν : zNu) (c q f : Nat → Int32) (m : Nat), need ≤ D → CcX K pl ty va X → c 5 = zi ((K : Int) + 1) → m ≤ k → zF zT0 D j args (zm len (ST X c q k m f) ν) = some (.int (zi 1), zm len (ST X c q k' (m + cs.length) (wrL f m (cs.map opc))) ν)
/-- the class's call fails -/
def PCF (K : Nat) (pl : Nat → Nat) (ty va : Nat → Int) (j : Nat) (args : zL) (need k kf : Nat) (ft : Int) : Prop := ∀ (D len : Nat) (X : zMu) (ν : zNu) (c q f : Nat → Int32) (m : Nat), need ≤ D → CcX K pl ty va X → c 5 = zi ((K : Int) + 1) → m ≤ k → ∃ c' q' f' : Nat → Int32, zF zT0 D j args (zm len (ST X c q k m f) ν) = some (.int (zi 0), zm len (CM X c' q' f') ν) ∧ c' 7 = zi ft ∧ c' 8 = zi (pl kf : Int) ∧ frC c c' q q'
/-- the model's call comes through -/
def PM (g : Nat → Int) (L : Nat) (pl nn : Nat → Nat) (ty va : Nat → Int) (j : Nat) (args : zL) (need k k' : Nat) (cs : List (Int × Int)) : Prop := ∀ (d len : Nat) (Y : zMu) (ν : zNu) (r a b e : Nat → Int32) (m B : Nat) (hd : Int), (0 ≤ hd ∧ hd ≤ 1) → (B : Int) = 800 * (1 - hd) → CcY g Y → r 6 = zi (L : Int) → r 67 = zi hd → r 75 = zi (m : Int) → m ≤ k → MS pl nn ty va r k → ∃ r', zF zT0 (d + need) j args (zm len (Mm Y r a b e) ν) = some (.int (zi 0), zm len (Mm Y r' (wrL a (B + m) (cs.map opo)) (wrL b (B + m) (cs.map opa)) e) ν) ∧ MS pl nn ty va r' k' ∧ r' 75 = zi ((m + cs.length : Nat) : Int) ∧ ∀ i, i ≠ 7 → i ≠ 8 → i ≠ 9 → i ≠ 10 → i ≠ 75 → r' i = r i
/-- the model's call fails -/
def PMF (g : Nat → Int) (L : Nat) (pl nn : Nat → Nat) (ty va : Nat → Int) (j : Nat) (args : zL) (need k kf : Nat) (ft : Int) : Prop := ∀ (d len : Nat) (Y : zMu) (ν : zNu) (r a b e : Nat → Int32) (m B : Nat) (hd : Int), (0 ≤ hd ∧ hd ≤ 1) → (B : Int) = 800 * (1 - hd) → CcY g Y → r 6 = zi (L : Int) → r 67 = zi hd → r 75 = zi (m : Int) → m ≤ k → MS pl nn ty va r k → ∃ r' a' b', zF zT0 (d + need) j args (zm len (Mm Y r a b e) ν) = some (.int (zi (-1)), zm len (Mm Y r' a' b' e) ν) ∧ r' 12 = zi ft ∧ r' 13 = zi (pl kf : Int) ∧ frM B r r' a a' b b'
section SUMS
variable {g : Nat → Int} {L K : Nat} {pl nn : Nat → Nat} {ty va : Nat → Int}
theorem S_kind {k : Nat} (hk : k ≤ K) (hK : K ≤ 800) (d len : Nat) {X : zMu} (hX : CcX K pl ty va X) (ν : zNu) (c q f : Nat → Int32) (m : Nat) : zF zT0 (d + 1) 129 [.ref 6] (zm len (ST X c q k m f) ν) = some (.int (zi (kd ty va k)), zm len (ST X c q k m f) ν) :=
  F_kindc d len X ν (upd c 6 (zi (k : Int))) (upd q 7 (zi (m : Int))) f (by omega) (upd_eq _ _ _) (hX k (by omega)).1
theorem S_val {k : Nat} (hk : k ≤ K) (hK : K ≤ 800) (h2 : 2 ≤ ty k ∧ ty k ≤ 3) (d len : Nat) {X : zMu} (hX : CcX K pl ty va X) (ν : zNu) (c q f : Nat → Int32) (m : Nat) : zF zT0 (d + 1) 130 [.ref 6] (zm len (ST X c q k m f) ν) = some (.int (zi (va k)), zm len (ST X c q k m f) ν) :=
  F_valc d len X ν (upd c 6 (zi (k : Int))) (upd q 7 (zi (m : Int))) f (by omega) (upd_eq _ _ _) ((hX k (by omega)).2.1 h2)
theorem S_move {k : Nat} (hk : k < K) (hK : K ≤ 800) (d len : Nat) (X : zMu) (ν : zNu) (c q f : Nat → Int32) (e5 : c 5 = zi ((K : Int) + 1)) (m : Nat) : zF zT0 (d + 1) 132 [.ref 6] (zm len (ST X c q k m f) ν) = some (.null, zm len (ST X c q (k + 1) m f) ν) := by
  have := F_movec d len X ν (upd c 6 (zi (k : Int))) (upd q 7 (zi (m : Int))) f hk hK (by rw [upd_ne _ _ (by decide)]; exact e5) (upd_eq _ _ _)
  rw [upd_upd] at this
  exact this
theorem S_fail {k : Nat} (hk : k ≤ K) (hK : K ≤ 800) (d len : Nat) {X : zMu} (hX : CcX K pl ty va X) (ν : zNu) (c q f : Nat → Int32) (m : Nat) (x : Int) : ∃ c' q' f' : Nat → Int32, zF zT0 (d + 1) 134 [.ref 6, .int (zi x)] (zm len (ST X c q k m f) ν) = some (.int (zi 0), zm len (CM X c' q' f') ν) ∧ c' 7 = zi x ∧ c' 8 = zi (pl k : Int) ∧ frC c c' q q' :=
  ⟨_, _, _, F_failc d len X ν (upd c 6 (zi (k : Int))) (upd q 7 (zi (m : Int))) f (by omega) (upd_eq _ _ _) (hX k (by omega)).2.2 (zi x), rfl, rfl, fun i i6 i7 i8 => by rw [upd_ne _ _ i8, upd_ne _ _ i7, upd_ne _ _ i6], fun i i7 => upd_ne _ _ i7⟩
theorem S_take {k : Nat} {y : Int} (hk : k < K) (hK : K ≤ 800) (h : kd ty va k = y) (hy : 0 ≤ y ∧ y ≤ 200) (d len : Nat) {X : zMu} (hX : CcX K pl ty va X) (ν : zNu) (c q f : Nat → Int32) (e5 : c 5 = zi ((K : Int) + 1)) (m : Nat) : zF zT0 (d + 2) 133 [.ref 6, .int (zi y)] (zm len (ST X c q k m f) ν) = some (.int (zi 1), zm len (ST X c q (k + 1) m f) ν) := by
  have := F_takec d len X ν (upd c 6 (zi (k : Int))) (upd q 7 (zi (m : Int))) f hk hK (by rw [upd_ne _ _ (by decide)]; exact e5) (upd_eq _ _ _) (show X 8 k = zi (kd ty va k) from (hX k (by omega)).1) (by rw [h]; exact hy) h
  rw [upd_upd] at this
  exact this
theorem S_taken {k : Nat} {y : Int} (hk : k ≤ K) (hK : K ≤ 800) (h : kd ty va k ≠ y) (hx : 0 ≤ kd ty va k ∧ kd ty va k ≤ 200) (hy : 0 ≤ y ∧ y ≤ 200) (d len : Nat) {X : zMu} (hX : CcX K pl ty va X) (ν : zNu) (c q f : Nat → Int32) (m : Nat) : ∃ c' q' f' : Nat → Int32, zF zT0 (d + 2) 133 [.ref 6, .int (zi y)] (zm len (ST X c q k m f) ν) = some (.int (zi 0), zm len (CM X c' q' f') ν) ∧ c' 7 = zi 1 ∧ c' 8 = zi (pl k : Int) ∧ frC c c' q q' :=
  ⟨_, _, _, F_taken d len X ν (upd c 6 (zi (k : Int))) (upd q 7 (zi (m : Int))) f (by omega) (upd_eq _ _ _) (show X 8 k = zi (kd ty va k) from (hX k (by omega)).1) (hX k (by omega)).2.2 hx hy h, rfl, rfl, fun i i6 i7 i8 => by rw [upd_ne _ _ i8, upd_ne _ _ i7, upd_ne _ _ i6], fun i i7 => upd_ne _ _ i7⟩
theorem S_write (d len : Nat) (X : zMu) (ν : zNu) (c q f : Nat → Int32) {k m : Nat} (hm : m < 800) (x : Int32) : zF zT0 (d + 1) 93 [.ref 57, .int x] (zm len (ST X c q k m f) ν) = some (.null, zm len (ST X c q k (m + 1) (upd f m x)) ν) := by
  have := F_write d len X ν (upd c 6 (zi (k : Int))) (upd q 7 (zi (m : Int))) f hm (upd_eq _ _ _) x
  rw [upd_upd] at this
  exact this
theorem ty_2 (S : Strm g L K pl nn ty va) {k : Nat} (hk : k < K) (h : kd ty va k = 2) : ty k = 2 := by
  obtain ⟨_, _, _, _, t, _⟩ := S.1 k hk
  unfold Tok mk at t
  unfold kd ck at h
  rcases t with t | ⟨t, _⟩ | ⟨t, _⟩ | ⟨t, t1⟩ | ⟨t, t1⟩
  · rw [t, if_neg (by decide), if_neg (by decide), if_neg (by decide), if_neg (by decide)] at h; exact absurd h (by decide)
  · exact t
  · rw [t, if_neg (by decide), if_pos rfl] at h; exact absurd h (by decide)
  · rw [t, if_neg (by decide), if_neg (by decide), if_pos (by decide)] at h
    split at h <;> omega
  · rw [t, if_neg (by decide), if_neg (by decide), if_neg (by decide), if_pos (by decide)] at h
    omega
theorem F_nextM (S : Strm g L K pl nn ty va) (hL : L ≤ 800) (hg : ∀ i, 0 ≤ g i ∧ g i ≤ 255) (d len : Nat) (Y : zMu) (ν : zNu) (r a b e : Nat → Int32) (hY : CcY g Y) (e6 : r 6 = zi (L : Int)) {k : Nat} (hk : k < K) (h7 : r 7 = zi ((pl k + nn k : Nat) : Int)) : ∃ r', zF zT0 (d + 3) 201 [.ref 92] (zm len (Mm Y r a b e) ν) = some (.null, zm len (Mm Y r' a b e) ν) ∧ MS pl nn ty va r' (k + 1) ∧ ∀ i, i ≠ 7 → i ≠ 8 → i ≠ 9 → i ≠ 10 → r' i = r i :=
  F_tkn d len (zrw (zrw (zrw Y 143 a) 144 b) 145 e) ν g L K pl nn ty va hL hg hY.1 hY.2 S (k + 1) hk r e6 h7
/-- a unit -/
theorem unit_ok (S : Strm g L K pl nn ty va) (hL : L ≤ 800) (hg : ∀ i, 0 ≤ g i ∧ g i ≤ 255) (k : Nat) (hk : k ≤ K) : (∃ p : Int × Int, k < K ∧ ((p.1 = 0 ∧ 0 ≤ p.2 ∧ p.2 ≤ 9999) ∨ (p.1 = 1 ∧ 0 ≤ p.2 ∧ p.2 ≤ 4)) ∧ (kd ty va k = 2 → p = (0, va k)) ∧ PC K pl ty va 91 [.ref 57] 3 k (k + 1) [p] ∧ PM g L pl nn ty va 254 [.ref 92] 4 k (k + 1) [p]) ∨ ((kd ty va k ≠ 2 ∧ ¬ (138 ≤ kd ty va k ∧ kd ty va k ≤ 142)) ∧ PCF K pl ty va 91 [.ref 57] 3 k k 1 ∧ PMF g L pl nn ty va 254 [.ref 92] 4 k k 1) := by
  have S' := S
  obtain ⟨S1, ⟨S2, S3, S4, S5⟩, S6⟩ := S'
  obtain ⟨hc, hc0⟩ := kd_c S hk
  obtain ⟨x, hx⟩ : ∃ x, x = kd ty va k := ⟨_, rfl⟩
  rw [← hx] at hc0 hc ⊢
  have xb : 0 ≤ x ∧ x ≤ 142 := by unfold Kc at hc; omega
  have vb : x = 2 → 0 ≤ va k ∧ va k ≤ 9999 := by unfold Kc at hc; omega
  have xk : x ≠ 0 → k < K := fun w => by
    rcases Nat.lt_or_ge k K with z | z
    · exact z
    · exact absurd (hc0.mpr (by omega)) w
  clear hc
  by_cases c2 : x = 2
  · left
    have hkK : k < K := xk (by omega)
    have vb := vb c2
    refine ⟨(0, va k), hkK, Or.inl ⟨rfl, vb⟩, fun _ => rfl, ?_, ?_⟩
    · intro D len X ν c q f m hD hX e5 hm
      obtain ⟨D, rfl⟩ : ∃ D', D = D' + 3 := ⟨D - 3, by omega⟩
      have t2 := ty_2 S hkK (by rw [← hx]; exact c2)
      have A := S_kind hk (by omega) (D + 1) len hX ν c q f m
      have B := S_val hk (by omega) (by omega) (D + 1) len hX ν c q f m
      have C := S_write (D + 1) len X ν c q f (k := k) (m := m) (by omega) (zi (va k))
      have E := S_move hkK (by omega) (D + 1) len X ν c q (upd f m (zi (va k))) e5 (m + 1)
      rw [← hx] at A
      rw [B_X7_readUnit]
      simp (disch := omega) only [A, B_X7_readUnit_7, c2, B_X7_readUnit_35, B, B_X7_readUnit_48, C, B_X7_readUnit_56, E, B_X7_readUnit_63, zbi_some, zbl_some, zbv_some, zbi_none, zbl_none, zbv_none, zbi_ite, zbl_ite, zbv_ite, zbZ, zbO, zc_lt, zc_le, zc_ge, zc_gt, zc_eq, zk0, zk1, zk2, zk3, zk4, zk5, zk6, zk7, zk8, zk9, zk10, zk11, zk12, zk14, zk15, zk16, zk17, zk19, zk20, zk21, zk24, zk25, zk30, zk32, zk36, zk40, zk45, zk50, zk64, zk97, zk99, zk100, zk102, zk122, zk128, zk255, zk800, zk801, zk900, zk999, zk1000, zk1997, zk9999, zk10000, zk100000, zk99999, zk9999999, zk999999999, zk2147483647, zlc0, zlc1, zlc2, zlc3, zlc4, zlc23, zlc99, zlc100, zlc9999999, zlc999999999999, zlc1073741824, zi_neg, zi_add, zi_sub, zi_mul, zl_neg, zl_add, zl_sub, zl_mul, zi_toInt, zi_nat, zi_le, zi_lt, zi_eq, zl_le, zl_lt, zl_eq, zl_toInt, zl_of32, zi_of64, zi_div, zl_div, zmodI, ↓reduceIte, zTle, zFle, zTlt, zFlt, zTeq, zFeq, if_true, if_false, and_self, and_true, true_and, and_false, false_and, or_self, or_true, true_or, or_false, false_or, not_true_eq_false, not_false_eq_true, zcastA, zcastL, znatC, zab, Int.reduceAdd, Int.reduceSub, Int.reduceMul, Int.reduceNeg, Int.reduceToNat, Nat.reduceAdd]
      rfl
    · intro d len Y ν r a b e m B hd hhd hB hY e6 e67 e75 hm hM
      obtain ⟨x9, x10, n1, n2, n3⟩ := MS_n S hk hM
      rw [← hx] at n1
      have n4 : x9 = 3 ∧ x10 = va k := by unfold Mt at n1; omega
      obtain ⟨n4, n5⟩ := n4
      subst n4
      subst n5
      have n3 := n3 (by omega)
      have A := F_emit (d + 2) len ν Y r a b e (m := m) (by omega) hhd hB e67 e75 (zi 0) (zi (va k))
      obtain ⟨r', R1, R2, R3⟩ := F_nextM S hL hg d len Y ν (upd r 75 (zi ((m : Int) + 1))) (upd a (B + m) (zi 0)) (upd b (B + m) (zi (va k))) e hY (by rw [upd_ne _ _ (by decide)]; exact e6) hkK (by rw [upd_ne _ _ (by decide)]; exact hM.1)
      refine ⟨r', ?_, R2, ?_, fun i i7 i8 i9 i10 i75 => by rw [R3 i i7 i8 i9 i10, upd_ne _ _ i75]⟩
      · rw [B_X12_readUnit]
        simp (disch := omega) only [zrw_s, n2, n3, B_X12_readUnit_21, B_X12_readUnit_22, B_X12_readUnit_41, B_X12_readUnit_51, A, B_X12_readUnit_72, R1, B_X12_readUnit_76, zbi_some, zbl_some, zbv_some, zbi_none, zbl_none, zbv_none, zbi_ite, zbl_ite, zbv_ite, zbZ, zbO, zc_lt, zc_le, zc_ge, zc_gt, zc_eq, zk0, zk1, zk2, zk3, zk4, zk5, zk6, zk7, zk8, zk9, zk10, zk11, zk12, zk14, zk15, zk16, zk17, zk19, zk20, zk21, zk24, zk25, zk30, zk32, zk36, zk40, zk45, zk50, zk64, zk97, zk99, zk100, zk102, zk122, zk128, zk255, zk800, zk801, zk900, zk999, zk1000, zk1997, zk9999, zk10000, zk100000, zk99999, zk9999999, zk999999999, zk2147483647, zlc0, zlc1, zlc2, zlc3, zlc4, zlc23, zlc99, zlc100, zlc9999999, zlc999999999999, zlc1073741824, zi_neg, zi_add, zi_sub, zi_mul, zl_neg, zl_add, zl_sub, zl_mul, zi_toInt, zi_nat, zi_le, zi_lt, zi_eq, zl_le, zl_lt, zl_eq, zl_toInt, zl_of32, zi_of64, zi_div, zl_div, zmodI, ↓reduceIte, zTle, zFle, zTlt, zFlt, zTeq, zFeq, if_true, if_false, and_self, and_true, true_and, and_false, false_and, or_self, or_true, true_or, or_false, false_or, not_true_eq_false, not_false_eq_true, zcastA, zcastL, znatC, zab, Int.reduceAdd, Int.reduceSub, Int.reduceMul, Int.reduceNeg, Int.reduceToNat, Nat.reduceAdd]
        rfl
      · rw [R3 75 (by decide) (by decide) (by decide) (by decide), upd_eq]
        rfl
  · by_cases c3 : 138 ≤ x ∧ x ≤ 142
    · left
      have hkK : k < K := xk (by omega)
      refine ⟨(1, x - 138), hkK, Or.inr ⟨rfl, by show 0 ≤ x - 138 ∧ x - 138 ≤ 4; omega⟩, fun w => absurd w c2, ?_, ?_⟩
      · intro D len X ν c q f m hD hX e5 hm
        obtain ⟨D, rfl⟩ : ∃ D', D = D' + 3 := ⟨D - 3, by omega⟩
        have A := S_kind hk (by omega) (D + 1) len hX ν c q f m
        have C := S_write (D + 1) len X ν c q f (k := k) (m := m) (by omega) (zi (-x))
        have E := S_move hkK (by omega) (D + 1) len X ν c q (upd f m (zi (-x))) e5 (m + 1)
        rw [← hx] at A
        have z142 : (142 : Int32) = zi 142 := rfl
        have o1 : opc (1, x - 138) = zi (-x) := by
          show zi (-(138 + (x - 138))) = zi (-x)
          rw [show 138 + (x - 138) = x by omega]
        have o2 : wrL f m ([(1, x - 138)].map opc) = upd f m (zi (-x)) := by
          show upd f m (opc (1, x - 138)) = _
          rw [o1]
        rw [B_X7_readUnit, o2]
        simp (disch := omega) only [A, B_X7_readUnit_7, zq138, z142, F_within, B_X7_readUnit_23, B_X7_readUnit_35, C, B_X7_readUnit_56, E, B_X7_readUnit_63, zbi_some, zbl_some, zbv_some, zbi_none, zbl_none, zbv_none, zbi_ite, zbl_ite, zbv_ite, zbZ, zbO, zc_lt, zc_le, zc_ge, zc_gt, zc_eq, zk0, zk1, zk2, zk3, zk4, zk5, zk6, zk7, zk8, zk9, zk10, zk11, zk12, zk14, zk15, zk16, zk17, zk19, zk20, zk21, zk24, zk25, zk30, zk32, zk36, zk40, zk45, zk50, zk64, zk97, zk99, zk100, zk102, zk122, zk128, zk255, zk800, zk801, zk900, zk999, zk1000, zk1997, zk9999, zk10000, zk100000, zk99999, zk9999999, zk999999999, zk2147483647, zlc0, zlc1, zlc2, zlc3, zlc4, zlc23, zlc99, zlc100, zlc9999999, zlc999999999999, zlc1073741824, zi_neg, zi_add, zi_sub, zi_mul, zl_neg, zl_add, zl_sub, zl_mul, zi_toInt, zi_nat, zi_le, zi_lt, zi_eq, zl_le, zl_lt, zl_eq, zl_toInt, zl_of32, zi_of64, zi_div, zl_div, zmodI, ↓reduceIte, zTle, zFle, zTlt, zFlt, zTeq, zFeq, if_true, if_false, and_self, and_true, true_and, and_false, false_and, or_self, or_true, true_or, or_false, false_or, not_true_eq_false, not_false_eq_true, zcastA, zcastL, znatC, zab, Int.reduceAdd, Int.reduceSub, Int.reduceMul, Int.reduceNeg, Int.reduceToNat, Nat.reduceAdd]
        rfl
      · intro d len Y ν r a b e m B hd hhd hB hY e6 e67 e75 hm hM
        obtain ⟨x9, x10, n1, n2, n3⟩ := MS_n S hk hM
        rw [← hx] at n1
        have n4 : x9 = 2 ∧ x10 = x - 122 := by unfold Mt at n1; omega
        obtain ⟨n4, n5⟩ := n4
        subst n4
        subst n5
        have n3 := n3 (by omega)
        have A := F_emit (d + 2) len ν Y r a b e (m := m) (by omega) hhd hB e67 e75 (zi 1) (zi (x - 138))
        obtain ⟨r', R1, R2, R3⟩ := F_nextM S hL hg d len Y ν (upd r 75 (zi ((m : Int) + 1))) (upd a (B + m) (zi 1)) (upd b (B + m) (zi (x - 138))) e hY (by rw [upd_ne _ _ (by decide)]; exact e6) hkK (by rw [upd_ne _ _ (by decide)]; exact hM.1)
        refine ⟨r', ?_, R2, ?_, fun i i7 i8 i9 i10 i75 => by rw [R3 i i7 i8 i9 i10, upd_ne _ _ i75]⟩
        · rw [B_X12_readUnit]
          have w : x - 122 - 16 = x - 138 := by omega
          simp (disch := omega) only [zrw_s, n2, n3, B_X12_readUnit_22, B_X12_readUnit_41, B_X12_readUnit_51, w, A, B_X12_readUnit_72, R1, B_X12_readUnit_76, zbi_some, zbl_some, zbv_some, zbi_none, zbl_none, zbv_none, zbi_ite, zbl_ite, zbv_ite, zbZ, zbO, zc_lt, zc_le, zc_ge, zc_gt, zc_eq, zk0, zk1, zk2, zk3, zk4, zk5, zk6, zk7, zk8, zk9, zk10, zk11, zk12, zk14, zk15, zk16, zk17, zk19, zk20, zk21, zk24, zk25, zk30, zk32, zk36, zk40, zk45, zk50, zk64, zk97, zk99, zk100, zk102, zk122, zk128, zk255, zk800, zk801, zk900, zk999, zk1000, zk1997, zk9999, zk10000, zk100000, zk99999, zk9999999, zk999999999, zk2147483647, zlc0, zlc1, zlc2, zlc3, zlc4, zlc23, zlc99, zlc100, zlc9999999, zlc999999999999, zlc1073741824, zi_neg, zi_add, zi_sub, zi_mul, zl_neg, zl_add, zl_sub, zl_mul, zi_toInt, zi_nat, zi_le, zi_lt, zi_eq, zl_le, zl_lt, zl_eq, zl_toInt, zl_of32, zi_of64, zi_div, zl_div, zmodI, ↓reduceIte, zTle, zFle, zTlt, zFlt, zTeq, zFeq, if_true, if_false, and_self, and_true, true_and, and_false, false_and, or_self, or_true, true_or, or_false, false_or, not_true_eq_false, not_false_eq_true, zcastA, zcastL, znatC, zab, Int.reduceAdd, Int.reduceSub, Int.reduceMul, Int.reduceNeg, Int.reduceToNat, Nat.reduceAdd]
          rfl
        · rw [R3 75 (by decide) (by decide) (by decide) (by decide), upd_eq]
          rfl
    · right
      refine ⟨⟨c2, c3⟩, ?_, ?_⟩
      · intro D len X ν c q f m hD hX e5 hm
        obtain ⟨D, rfl⟩ : ∃ D', D = D' + 3 := ⟨D - 3, by omega⟩
        have A := S_kind hk (by omega) (D + 1) len hX ν c q f m
        rw [← hx] at A
        obtain ⟨c', q', f', C, C1⟩ := S_fail hk (by omega) (D + 1) len hX ν c q f m 1
        refine ⟨c', q', f', ?_, C1⟩
        rw [B_X7_readUnit]
        have z142 : (142 : Int32) = zi 142 := rfl
        simp (disch := omega) only [A, B_X7_readUnit_7, c2, c3, zq138, z142, F_within, zbF, B_X7_readUnit_23, C, B_X7_readUnit_34, zbi_some, zbl_some, zbv_some, zbi_none, zbl_none, zbv_none, zbi_ite, zbl_ite, zbv_ite, zbZ, zbO, zc_lt, zc_le, zc_ge, zc_gt, zc_eq, zk0, zk1, zk2, zk3, zk4, zk5, zk6, zk7, zk8, zk9, zk10, zk11, zk12, zk14, zk15, zk16, zk17, zk19, zk20, zk21, zk24, zk25, zk30, zk32, zk36, zk40, zk45, zk50, zk64, zk97, zk99, zk100, zk102, zk122, zk128, zk255, zk800, zk801, zk900, zk999, zk1000, zk1997, zk9999, zk10000, zk100000, zk99999, zk9999999, zk999999999, zk2147483647, zlc0, zlc1, zlc2, zlc3, zlc4, zlc23, zlc99, zlc100, zlc9999999, zlc999999999999, zlc1073741824, zi_neg, zi_add, zi_sub, zi_mul, zl_neg, zl_add, zl_sub, zl_mul, zi_toInt, zi_nat, zi_le, zi_lt, zi_eq, zl_le, zl_lt, zl_eq, zl_toInt, zl_of32, zi_of64, zi_div, zl_div, zmodI, ↓reduceIte, zTle, zFle, zTlt, zFlt, zTeq, zFeq, if_true, if_false, and_self, and_true, true_and, and_false, false_and, or_self, or_true, true_or, or_false, false_or, not_true_eq_false, not_false_eq_true, zcastA, zcastL, znatC, zab, Int.reduceAdd, Int.reduceSub, Int.reduceMul, Int.reduceNeg, Int.reduceToNat, Nat.reduceAdd]
      · intro d len Y ν r a b e m B hd hhd hB hY e6 e67 e75 hm hM
        obtain ⟨x9, x10, n1, n2, n3⟩ := MS_n S hk hM
        rw [← hx] at n1
        have A := F_fails (d + 1) len ν Y r a b e (zi 1)
        refine ⟨upd (upd r 12 (zi 1)) 13 (r 8), a, b, ?_, rfl, hM.2.1, ⟨fun i i7 i8 i9 i10 i12 i13 i75 i76 i78 => by rw [upd_ne _ _ i13, upd_ne _ _ i12], fun _ _ => rfl, fun _ _ => rfl⟩⟩
        rw [B_X12_readUnit]
        by_cases w : x9 = 2
        · have n3 := n3 (by omega)
          have w2 : 0 ≤ x10 ∧ x10 < 16 := by unfold Mt at n1; omega
          simp (disch := omega) only [zrw_s, n2, n3, w, w2, B_X12_readUnit_21, B_X12_readUnit_22, A, B_X12_readUnit_40, zbi_some, zbl_some, zbv_some, zbi_none, zbl_none, zbv_none, zbi_ite, zbl_ite, zbv_ite, zbZ, zbO, zc_lt, zc_le, zc_ge, zc_gt, zc_eq, zk0, zk1, zk2, zk3, zk4, zk5, zk6, zk7, zk8, zk9, zk10, zk11, zk12, zk14, zk15, zk16, zk17, zk19, zk20, zk21, zk24, zk25, zk30, zk32, zk36, zk40, zk45, zk50, zk64, zk97, zk99, zk100, zk102, zk122, zk128, zk255, zk800, zk801, zk900, zk999, zk1000, zk1997, zk9999, zk10000, zk100000, zk99999, zk9999999, zk999999999, zk2147483647, zlc0, zlc1, zlc2, zlc3, zlc4, zlc23, zlc99, zlc100, zlc9999999, zlc999999999999, zlc1073741824, zi_neg, zi_add, zi_sub, zi_mul, zl_neg, zl_add, zl_sub, zl_mul, zi_toInt, zi_nat, zi_le, zi_lt, zi_eq, zl_le, zl_lt, zl_eq, zl_toInt, zl_of32, zi_of64, zi_div, zl_div, zmodI, ↓reduceIte, zTle, zFle, zTlt, zFlt, zTeq, zFeq, if_true, if_false, and_self, and_true, true_and, and_false, false_and, or_self, or_true, true_or, or_false, false_or, not_true_eq_false, not_false_eq_true, zcastA, zcastL, znatC, zab, Int.reduceAdd, Int.reduceSub, Int.reduceMul, Int.reduceNeg, Int.reduceToNat, Nat.reduceAdd]
        · have w2 : ¬ x9 = 3 ∧ 0 ≤ x9 ∧ x9 ≤ 4 := by unfold Mt at n1; omega
          obtain ⟨w2, w3⟩ := w2
          simp (disch := omega) only [zrw_s, n2, w, w2, B_X12_readUnit_21, B_X12_readUnit_22, A, B_X12_readUnit_40, zbi_some, zbl_some, zbv_some, zbi_none, zbl_none, zbv_none, zbi_ite, zbl_ite, zbv_ite, zbZ, zbO, zc_lt, zc_le, zc_ge, zc_gt, zc_eq, zk0, zk1, zk2, zk3, zk4, zk5, zk6, zk7, zk8, zk9, zk10, zk11, zk12, zk14, zk15, zk16, zk17, zk19, zk20, zk21, zk24, zk25, zk30, zk32, zk36, zk40, zk45, zk50, zk64, zk97, zk99, zk100, zk102, zk122, zk128, zk255, zk800, zk801, zk900, zk999, zk1000, zk1997, zk9999, zk10000, zk100000, zk99999, zk9999999, zk999999999, zk2147483647, zlc0, zlc1, zlc2, zlc3, zlc4, zlc23, zlc99, zlc100, zlc9999999, zlc999999999999, zlc1073741824, zi_neg, zi_add, zi_sub, zi_mul, zl_neg, zl_add, zl_sub, zl_mul, zi_toInt, zi_nat, zi_le, zi_lt, zi_eq, zl_le, zl_lt, zl_eq, zl_toInt, zl_of32, zi_of64, zi_div, zl_div, zmodI, ↓reduceIte, zTle, zFle, zTlt, zFlt, zTeq, zFeq, if_true, if_false, and_self, and_true, true_and, and_false, false_and, or_self, or_true, true_or, or_false, false_or, not_true_eq_false, not_false_eq_true, zcastA, zcastL, znatC, zab, Int.reduceAdd, Int.reduceSub, Int.reduceMul, Int.reduceNeg, Int.reduceToNat, Nat.reduceAdd]
end SUMS
