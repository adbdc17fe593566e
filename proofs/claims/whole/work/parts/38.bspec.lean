/-! BALLS: what may be in one, apart from any machine -/
noncomputable def ind (P : Prop) : Int := @ite Int P (Classical.propDecidable P) 1 0
theorem ind_t {P : Prop} (h : P) : ind P = 1 := if_pos h
theorem ind_f {P : Prop} (h : ¬ P) : ind P = 0 := if_neg h
theorem ind_b (P : Prop) : 0 ≤ ind P ∧ ind P ≤ 1 := by
  by_cases h : P
  · rw [ind_t h]; omega
  · rw [ind_f h]; omega
theorem ind_congr {P Q : Prop} (h : P ↔ Q) : ind P = ind Q := by
  by_cases q : P
  · rw [ind_t q, ind_t (h.mp q)]
  · rw [ind_f q, ind_f (fun w => q (h.mpr w))]
/-- the sum of the first n -/
def sm : Nat → (Nat → Int) → Int
  | 0, _ => 0
  | n + 1, f => sm n f + f n
theorem sm_S (n : Nat) (f : Nat → Int) : sm (n + 1) f = sm n f + f n := rfl
theorem sm_congr {f g : Nat → Int} : ∀ {n : Nat}, (∀ j, j < n → f j = g j) → sm n f = sm n g
  | 0, _ => rfl
  | n + 1, h => by rw [sm_S, sm_S, sm_congr (fun j hj => h j (by omega)), h n (by omega)]
theorem sm_add (f g : Nat → Int) : ∀ n, sm n (fun j => f j + g j) = sm n f + sm n g
  | 0 => rfl
  | n + 1 => by rw [sm_S, sm_S, sm_S, sm_add f g n]; omega
theorem sm_zero : ∀ n, sm n (fun _ => 0) = 0
  | 0 => rfl
  | n + 1 => by rw [sm_S, sm_zero n]; rfl
theorem sm_nn {f : Nat → Int} : ∀ {n : Nat}, (∀ j, j < n → 0 ≤ f j) → 0 ≤ sm n f
  | 0, _ => Int.le_refl 0
  | n + 1, h => by
    have h1 : 0 ≤ sm n f := sm_nn fun j hj => h j (by omega)
    have h2 := h n (by omega)
    rw [sm_S]
    omega
theorem sm_le {f : Nat → Int} {B : Int} : ∀ {n : Nat}, (∀ j, j < n → f j ≤ B) → sm n f ≤ n * B
  | 0, _ => by simp [sm]
  | n + 1, h => by
    have h1 : sm n f ≤ n * B := sm_le fun j hj => h j (by omega)
    have h2 := h n (by omega)
    have e : ((n + 1 : Nat) : Int) * B = n * B + B := by rw [zcastS, Int.add_mul, Int.one_mul]
    rw [sm_S, e]
    omega
theorem sm_eq0 {f : Nat → Int} : ∀ {n : Nat}, (∀ j, j < n → 0 ≤ f j) → sm n f = 0 → ∀ j, j < n → f j = 0
  | 0, _, _, j, hj => by omega
  | n + 1, h, h0, j, hj => by
    have h1 : 0 ≤ sm n f := sm_nn fun j hj => h j (by omega)
    have h2 := h n (by omega)
    rw [sm_S] at h0
    by_cases q : j = n
    · rw [q]; omega
    · have h3 : sm n f = 0 := by omega
      exact sm_eq0 (n := n) (fun j hj => h j (by omega)) h3 j (by omega)
theorem sm_app (f : Nat → Int) (m : Nat) : ∀ n, sm (m + n) f = sm m f + sm n (fun j => f (m + j))
  | 0 => by simp [sm]
  | n + 1 => by
    show sm (m + n) f + f (m + n) = sm m f + (sm n (fun j => f (m + j)) + f (m + n))
    rw [sm_app f m n]
    omega
theorem sm_sw (f : Nat → Nat → Int) (m : Nat) : ∀ n, sm m (fun i => sm n (fun j => f i j)) = sm n (fun j => sm m (fun i => f i j))
  | 0 => sm_zero m
  | n + 1 => by
    show sm m (fun i => sm n (fun j => f i j) + f i n) = sm n (fun j => sm m (fun i => f i j)) + sm m (fun i => f i n)
    rw [sm_add, sm_sw f m n]
theorem sm_dm (F : Nat → Nat → Int) : ∀ n, sm (10 * n) (fun v => F (v % 10) (v / 10)) = sm n (fun q => sm 10 (fun r => F r q))
  | 0 => rfl
  | n + 1 => by
    have e : 10 * (n + 1) = 10 * n + 10 := by omega
    rw [e, sm_app, sm_dm F n]
    show _ = sm n _ + sm 10 _
    congr 1
    refine sm_congr fun j hj => ?_
    rw [show (10 * n + j) % 10 = j by omega, show (10 * n + j) / 10 = n by omega]
def vec (a b c d e : Nat) : Nat → Int := fun k => if k = 0 then (a : Int) else if k = 1 then (b : Int) else if k = 2 then (c : Int) else if k = 3 then (d : Int) else (e : Int)
def vM (v : Nat) : Nat → Int := vec (v % 10) (v / 10 % 10) (v / 10 / 10 % 10) (v / 10 / 10 / 10 % 10) (v / 10 / 10 / 10 / 10)
def vC (i e : Nat) : Nat → Int := vec (i / 10 / 10 / 10) (i / 10 / 10 % 10) (i / 10 % 10) (i % 10) e
theorem cm_cc (A : (Nat → Int) → Prop) : sm 100000 (fun v => ind (A (vM v))) = sm 10000 (fun i => sm 10 (fun e => ind (A (vC i e)))) := by
  have m1 := sm_dm (fun r q => ind (A (vec r (q % 10) (q / 10 % 10) (q / 10 / 10 % 10) (q / 10 / 10 / 10)))) 10000
  have m2 := sm_dm (fun r q => sm 10 (fun a => ind (A (vec a r (q % 10) (q / 10 % 10) (q / 10 / 10))))) 1000
  have m3 := sm_dm (fun r q => sm 10 (fun b => sm 10 (fun a => ind (A (vec a b r (q % 10) (q / 10)))))) 100
  have m4 := sm_dm (fun r q => sm 10 (fun c => sm 10 (fun b => sm 10 (fun a => ind (A (vec a b c r q)))))) 10
  have c1 := sm_dm (fun r q => sm 10 (fun e => ind (A (vec (q / 10 / 10) (q / 10 % 10) (q % 10) r e)))) 1000
  have c2 := sm_dm (fun r q => sm 10 (fun d => sm 10 (fun e => ind (A (vec (q / 10) (q % 10) r d e))))) 100
  have c3 := sm_dm (fun r q => sm 10 (fun c => sm 10 (fun d => sm 10 (fun e => ind (A (vec q r c d e)))))) 10
  refine (m1.trans (m2.trans (m3.trans m4))).trans (Eq.trans ?_ (c1.trans (c2.trans c3)).symm)
  have s2 : ∀ f : Nat → Nat → Int, sm 10 (fun x => sm 10 (fun y => f x y)) = sm 10 (fun y => sm 10 (fun x => f x y)) := fun f => sm_sw f 10 10
  have s3 : ∀ f : Nat → Nat → Nat → Int, sm 10 (fun x => sm 10 (fun y => sm 10 (fun z => f x y z))) = sm 10 (fun y => sm 10 (fun z => sm 10 (fun x => f x y z))) := fun f => (s2 _).trans (sm_congr fun y _ => s2 _)
  have s4 : ∀ f : Nat → Nat → Nat → Nat → Int, sm 10 (fun x => sm 10 (fun y => sm 10 (fun z => sm 10 (fun t => f x y z t)))) = sm 10 (fun y => sm 10 (fun z => sm 10 (fun t => sm 10 (fun x => f x y z t)))) := fun f => (s2 _).trans (sm_congr fun y _ => s3 _)
  have s5 : ∀ f : Nat → Nat → Nat → Nat → Nat → Int, sm 10 (fun x => sm 10 (fun y => sm 10 (fun z => sm 10 (fun t => sm 10 (fun u => f x y z t u))))) = sm 10 (fun y => sm 10 (fun z => sm 10 (fun t => sm 10 (fun u => sm 10 (fun x => f x y z t u))))) := fun f => (s2 _).trans (sm_congr fun y _ => s4 _)
  rw [s5 (fun e d c b a => ind (A (vec a b c d e)))]
  rw [s4 (fun d c b a => sm 10 (fun e => ind (A (vec a b c d e))))]
  rw [s3 (fun c b a => sm 10 (fun d => sm 10 (fun e => ind (A (vec a b c d e)))))]
  rw [s2 (fun b a => sm 10 (fun c => sm 10 (fun d => sm 10 (fun e => ind (A (vec a b c d e))))))]
theorem vM_vec {a b c d e : Nat} (ha : a < 10) (hb : b < 10) (hc : c < 10) (hd : d < 10) (he : e < 10) : vM (a + 10 * b + 100 * c + 1000 * d + 10000 * e) = vec a b c d e := by
  have h0 : (a + 10 * b + 100 * c + 1000 * d + 10000 * e) % 10 = a := by omega
  have h1 : (a + 10 * b + 100 * c + 1000 * d + 10000 * e) / 10 = b + 10 * c + 100 * d + 1000 * e := by omega
  have h2 : (b + 10 * c + 100 * d + 1000 * e) / 10 = c + 10 * d + 100 * e := by omega
  have h3 : (c + 10 * d + 100 * e) / 10 = d + 10 * e := by omega
  have h4 : (d + 10 * e) / 10 = e := by omega
  have k1 : (b + 10 * c + 100 * d + 1000 * e) % 10 = b := by omega
  have k2 : (c + 10 * d + 100 * e) % 10 = c := by omega
  have k3 : (d + 10 * e) % 10 = d := by omega
  unfold vM
  rw [h0, h1, h2, h3, h4, k1, k2, k3]
theorem vC_vec {a b c d : Nat} (e : Nat) (ha : a < 10) (hb : b < 10) (hc : c < 10) (hd : d < 10) : vC (1000 * a + 100 * b + 10 * c + d) e = vec a b c d e := by
  have h0 : (1000 * a + 100 * b + 10 * c + d) % 10 = d := by omega
  have h1 : (1000 * a + 100 * b + 10 * c + d) / 10 = 100 * a + 10 * b + c := by omega
  have h2 : (100 * a + 10 * b + c) / 10 = 10 * a + b := by omega
  have h3 : (10 * a + b) / 10 = a := by omega
  have k1 : (100 * a + 10 * b + c) % 10 = c := by omega
  have k2 : (10 * a + b) % 10 = b := by omega
  unfold vC
  rw [h0, h1, h2, h3, k1, k2]
theorem vM_of_C {i e : Nat} (hi : i < 10000) (he : e < 10) : ∃ v, v < 100000 ∧ vM v = vC i e := by
  obtain ⟨q, hq⟩ : ∃ q, q = i / 10 := ⟨_, rfl⟩
  obtain ⟨r, hr⟩ : ∃ r, r = q / 10 := ⟨_, rfl⟩
  obtain ⟨s, hs⟩ : ∃ s, s = r / 10 := ⟨_, rfl⟩
  have e1 : i = 1000 * s + 100 * (r % 10) + 10 * (q % 10) + i % 10 := by omega
  have m1 : s < 10 := by omega
  have m2 : r % 10 < 10 := by omega
  have m3 : q % 10 < 10 := by omega
  have m4 : i % 10 < 10 := by omega
  refine ⟨s + 10 * (r % 10) + 100 * (q % 10) + 1000 * (i % 10) + 10000 * e, by omega, ?_⟩
  rw [vM_vec m1 m2 m3 m4 he]
  refine Eq.trans (vC_vec e m1 m2 m3 m4).symm ?_
  rw [← e1]
theorem vC_of_M {v : Nat} (hv : v < 100000) : ∃ i e, i < 10000 ∧ e < 10 ∧ vM v = vC i e := by
  obtain ⟨q, hq⟩ : ∃ q, q = v / 10 := ⟨_, rfl⟩
  obtain ⟨r, hr⟩ : ∃ r, r = q / 10 := ⟨_, rfl⟩
  obtain ⟨s, hs⟩ : ∃ s, s = r / 10 := ⟨_, rfl⟩
  obtain ⟨u, hu⟩ : ∃ u, u = s / 10 := ⟨_, rfl⟩
  have e1 : v = v % 10 + 10 * (q % 10) + 100 * (r % 10) + 1000 * (s % 10) + 10000 * u := by omega
  have m1 : v % 10 < 10 := by omega
  have m2 : q % 10 < 10 := by omega
  have m3 : r % 10 < 10 := by omega
  have m4 : s % 10 < 10 := by omega
  have m5 : u < 10 := by omega
  refine ⟨1000 * (v % 10) + 100 * (q % 10) + 10 * (r % 10) + s % 10, u, by omega, m5, ?_⟩
  rw [vC_vec u m1 m2 m3 m4]
  refine Eq.trans ?_ (vM_vec m1 m2 m3 m4 m5)
  rw [← e1]
/-- the least of f over those of the first n that are P -/
def Mn (P : Nat → Prop) (f : Nat → Int) (n : Nat) (x : Int) : Prop := (∃ v, v < n ∧ P v ∧ f v = x) ∧ ∀ v, v < n → P v → x ≤ f v
theorem Mn_skip {P : Nat → Prop} {f : Nat → Int} {n : Nat} {x : Int} (hP : ¬ P n) (h : Mn P f n x) : Mn P f (n + 1) x := by
  obtain ⟨⟨v, h1, h2, h3⟩, h4⟩ := h
  refine ⟨⟨v, by omega, h2, h3⟩, fun u hu hPu => ?_⟩
  by_cases q : u = n
  · rw [q] at hPu
    exact absurd hPu hP
  · exact h4 u (by omega) hPu
theorem Mn_new {P : Nat → Prop} {f : Nat → Int} {n : Nat} (hP : P n) (h : ∀ v, v < n → ¬ P v) : Mn P f (n + 1) (f n) := by
  refine ⟨⟨n, by omega, hP, rfl⟩, fun u hu hPu => ?_⟩
  by_cases q : u = n
  · rw [q]
    exact Int.le_refl _
  · exact absurd hPu (h u (by omega))
theorem Mn_min {P : Nat → Prop} {f : Nat → Int} {n : Nat} {x : Int} (hP : P n) (h : Mn P f n x) : Mn P f (n + 1) (if x ≤ f n then x else f n) := by
  obtain ⟨⟨v, h1, h2, h3⟩, h4⟩ := h
  by_cases c : x ≤ f n
  · rw [if_pos c]
    refine ⟨⟨v, by omega, h2, h3⟩, fun u hu hPu => ?_⟩
    by_cases q : u = n
    · rw [q]
      exact c
    · exact h4 u (by omega) hPu
  · rw [if_neg c]
    refine ⟨⟨n, by omega, hP, rfl⟩, fun u hu hPu => ?_⟩
    by_cases q : u = n
    · rw [q]
      exact Int.le_refl _
    · have := h4 u (by omega) hPu
      omega
theorem Mn_uni {P : Nat → Prop} {f : Nat → Int} {n : Nat} {x y : Int} (h : Mn P f n x) (h' : Mn P f n y) : x = y := by
  obtain ⟨⟨v, h1, h2, h3⟩, h4⟩ := h
  obtain ⟨⟨v', h1', h2', h3'⟩, h4'⟩ := h'
  have a := h4 v' h1' h2'
  have b := h4' v h1 h2
  omega
/-- what a survey has found among the first n -/
def Sv (A : (Nat → Int) → Prop) (far : (Nat → Int) → Int) (n : Nat) (ways lies : Int) (lo hi : Nat → Int) : Prop := ways = sm n (fun v => ind (A (vM v))) ∧ (ways ≠ 0 → Mn (fun v => A (vM v)) (fun v => far (vM v)) n lies ∧ ∀ k, k < 5 → Mn (fun v => A (vM v)) (fun v => vM v k) n (lo k) ∧ Mn (fun v => A (vM v)) (fun v => - vM v k) n (- hi k))
theorem Sv_uni {A : (Nat → Int) → Prop} {far : (Nat → Int) → Int} {n : Nat} {w l w' l' : Int} {lo hi lo' hi' : Nat → Int} (h : Sv A far n w l lo hi) (h' : Sv A far n w' l' lo' hi') : w = w' ∧ (w ≠ 0 → l = l' ∧ ∀ k, k < 5 → lo k = lo' k ∧ hi k = hi' k) := by
  obtain ⟨h1, h2⟩ := h
  obtain ⟨h3, h4⟩ := h'
  have e : w = w' := by rw [h1, h3]
  refine ⟨e, fun q => ?_⟩
  have a := h2 q
  have b := h4 (by rw [← e]; exact q)
  refine ⟨Mn_uni a.1 b.1, fun k hk => ⟨Mn_uni (a.2 k hk).1 (b.2 k hk).1, ?_⟩⟩
  have := Mn_uni (a.2 k hk).2 (b.2 k hk).2
  omega
theorem Sv_0 (A : (Nat → Int) → Prop) (far : (Nat → Int) → Int) (l : Int) (lo hi : Nat → Int) : Sv A far 0 0 l lo hi := ⟨rfl, fun h => absurd rfl h⟩
theorem Sv_skip {A : (Nat → Int) → Prop} {far : (Nat → Int) → Int} {n : Nat} {w l : Int} {lo hi : Nat → Int} (hA : ¬ A (vM n)) (h : Sv A far n w l lo hi) : Sv A far (n + 1) w l lo hi := by
  obtain ⟨h1, h2⟩ := h
  refine ⟨by rw [sm_S, ind_f hA, ← h1]; omega, fun q => ?_⟩
  have a := h2 q
  exact ⟨Mn_skip hA a.1, fun k hk => ⟨Mn_skip hA (a.2 k hk).1, Mn_skip hA (a.2 k hk).2⟩⟩
theorem Sv_take {A : (Nat → Int) → Prop} {far : (Nat → Int) → Int} {n : Nat} {w l : Int} {lo hi : Nat → Int} (hA : A (vM n)) (h : Sv A far n w l lo hi) : Sv A far (n + 1) (w + 1) (if w = 0 then far (vM n) else if l ≤ far (vM n) then l else far (vM n)) (fun k => if w = 0 then vM n k else if lo k ≤ vM n k then lo k else vM n k) (fun k => if w = 0 then vM n k else if vM n k ≤ hi k then hi k else vM n k) := by
  obtain ⟨h1, h2⟩ := h
  have hn : ∀ v, v < n → 0 ≤ ind (A (vM v)) := fun v _ => (ind_b _).1
  refine ⟨by rw [sm_S, ind_t hA, ← h1], fun q => ?_⟩
  by_cases c : w = 0
  · simp only [if_pos c]
    have no : ∀ v, v < n → ¬ A (vM v) := fun v hv hv2 => by
      have e := sm_eq0 hn (by rw [← h1]; exact c) v hv
      rw [ind_t hv2] at e
      omega
    exact ⟨Mn_new (P := fun v => A (vM v)) (f := fun v => far (vM v)) hA no, fun k hk => ⟨Mn_new (P := fun v => A (vM v)) (f := fun v => vM v k) hA no, Mn_new (P := fun v => A (vM v)) (f := fun v => - vM v k) hA no⟩⟩
  · simp only [if_neg c]
    have a := h2 c
    refine ⟨Mn_min (P := fun v => A (vM v)) (f := fun v => far (vM v)) hA a.1, fun k hk => ⟨Mn_min (P := fun v => A (vM v)) (f := fun v => vM v k) hA (a.2 k hk).1, ?_⟩⟩
    have m := Mn_min (P := fun v => A (vM v)) (f := fun v => - vM v k) hA (a.2 k hk).2
    have e : (if - hi k ≤ - vM n k then - hi k else - vM n k) = - (if vM n k ≤ hi k then hi k else vM n k) := by
      by_cases z : vM n k ≤ hi k
      · rw [if_pos z, if_pos (by omega)]
      · rw [if_neg z, if_neg (by omega)]
    rw [← e]
    exact m
/-- what may be in a BALL: o opened, ra rattled, we weighed, ins what is in it, w the weights -/
def aw (o ra we : Int) (ins w c : Nat → Int) : Prop := (o ≠ 0 ∧ c 0 = ins 0 ∧ c 1 = ins 1 ∧ c 2 = ins 2 ∧ c 3 = ins 3 ∧ c 4 = ins 4) ∨ (o = 0 ∧ (ra = -1 ∨ ra = c 0 + c 1 + c 2 + c 3 + c 4) ∧ (we = -1 ∨ we = c 0 * w 0 + c 1 * w 1 + c 2 * w 2 + c 3 * w 3 + c 4 * w 4))
def fr (mk c : Nat → Int) : Int := ab (c 0 - mk 0) + ab (c 1 - mk 1) + ab (c 2 - mk 2) + ab (c 3 - mk 3) + ab (c 4 - mk 4)
