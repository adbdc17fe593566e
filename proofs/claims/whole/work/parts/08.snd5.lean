section ZW
variable {p : Program} {l : Launch} {e : Env} {R : Room} {s : State} {m : MethodId} {args : Array Value} {below : List Frame} {meth : Method} {c : Code} {H : Heap} {locs : List Loc} {cells slots : Nat} {Q : State → Prop} {g : JFrame}
theorem zW_size (k : H.size ≤ s.heap.size + cells → W p l e R s m args below meth c H locs cells slots Q g) : W p l e R s m args below meth c H locs cells slots Q g := fun T hT X => k (by rw [← hT]; exact X.heapSize) T hT X
theorem zlow {G : zG} {D : va_G} {M M0 : zM} {H0 : Heap} (hP : va_P D vwCl (zws G M) H) (hS : va_S (zA G) H0 H locs) (h0 : H0.size = G.1 + zlen M0) (hg : zlen M0 ≤ zlen M) : G.1 + zlen M ≤ H.size := by
  cases hn : zlen M with
  | zero =>
    have := hS.1
    omega
  | succ n =>
    have hlt : n < M.1.2.length := by show n < zlen M; omega
    have h1 := zws_at G M (List.getElem?_eq_getElem hlt)
    have h2 : G.1 + n < H.size := (hP n _ h1).lt
    omega
theorem znewq {G : zG} {D : va_G} {M : zM} {q : Nat} {x : va_E} {H1 : Heap} (hP : va_P D vwCl (zws G M ++ [(q, x)]) H1) (hD : va_D (zA G) (zws G M ++ [(q, x)])) (hs : H1.size ≤ G.1 + zlen M + 1) : q = G.1 + zlen M := by
  have h1 : (zws G M ++ [(q, x)])[zlen M]? = some (q, x) := by
    rw [List.getElem?_append_right (by rw [zws_len]; exact Nat.le_refl _), zws_len]
    simp
  have h2 : q < H1.size := (hP _ _ h1).lt
  have h3 : G.1 ≤ q := hD.2 _ _ h1
  rcases Nat.lt_or_ge q (G.1 + zlen M) with h4 | h4
  · have hj : q - G.1 < M.1.2.length := by show q - G.1 < zlen M; omega
    have h5 := zws_at G M (List.getElem?_eq_getElem hj)
    have h6 : (zws G M ++ [(q, x)])[q - G.1]? = some (G.1 + (q - G.1), zcl G M (q - G.1 + 1) M.1.2[q - G.1]) := by
      rw [List.getElem?_append_left (by rw [zws_len]; exact hj)]
      exact h5
    have h7 := hD.1 _ _ _ _ h6 h1 (by show G.1 + (q - G.1) = q; omega)
    omega
  · omega
theorem zW_call {G : zG} {v : Value} {M' : zM} {a : Array Value} {mc ms pc : Nat} {ls : Array Slot} {st0 rest : List Value} (hr : va_Run p l e R s m args below meth c H locs cells slots mc ms (F0 m pc ls st0) rest (zQc G v M' a) (zA G)) (hS : va_S (zA G) s.heap H locs)
    (kk : ∀ (H1 : Heap) (locs1 : List Loc), va_P G.2.2.1 vwCl (zws G M') H1 → va_S (zA G) s.heap H1 locs1 → W p l e R s m args below meth c H1 locs1 (cells + mc) (slots + ms) Q (F0 m (pc + 3) ls ((zro G v).toList ++ rest))) : W p l e R s m args below meth c H locs cells slots Q (F0 m pc ls st0) := by
  intro T hT X
  obtain ⟨w, st₀, t, T', L, h0, X', hL, e1, e2, ⟨hw, hP, hF1, hF2⟩, st⟩ := hr T hT X
  cases hw
  rw [h0] at hF1 hF2
  obtain ⟨t2, a1, b1⟩ := kk T'.heap (locs ++ L) (by rw [e1]; exact hP)
    ⟨Nat.le_trans hS.1 (by rw [e1]; exact hF1), fun q h1 h2 => by rw [e1, hF2 q (Nat.lt_of_lt_of_le h1 hS.1) h2]; exact hS.2.1 q h1 h2, fun q hq => by
      rcases List.mem_append.mp hq with h | h
      · exact hS.2.2 q h
      · exact hL q h⟩ T' rfl X'
  exact ⟨t2, st t2 a1, b1⟩
end ZW
theorem zWorld_of {G : zG} {M M0 : zM} {s : State} {H : Heap} {locs : List Loc} {cells : Nat} (hw : zWorld G M0 s) (hg : zGr M0 M) (hP : va_P G.2.2.1 vwCl (zws G M) H) (hS : va_S (zA G) s.heap H locs) (hc : cells = zlen M - zlen M0) (hz : H.size ≤ s.heap.size + cells) (U : State) (hU : U.heap = H) (hW : s.WarmedH U.vm) : zWorld G M U := by
  obtain ⟨w1, w2, w3, w4, w5, w6, w7⟩ := hw
  have hlow := zlow hP hS w1 hg.1
  have hb0 : G.2.1 < s.heap.size := by rw [w1]; omega
  have hbA : ¬ zA G G.2.1 := by unfold zA; omega
  refine ⟨by rw [hU]; have := hg.1; omega, by rw [hU]; exact hP, va_K.moved hW.alike w3, ?_, w5, w6.warm hW, zStr_warm hW (fun q hq => by rw [hU]; exact hS.2.1 q (by omega) (by unfold zA; omega)) w7⟩
  rw [hg.2.2.1, hg.2.2.2, hU]
  exact va_X.moved hW.alike (w4.kept (hS.2.1 _ hb0 hbA))
theorem zPc_blind (G : zG) (a : zL) (M : zM) : FrameBlind (zPc G a M) := by
  intro av U g mk q
  obtain ⟨q1, w1, w2, w3, w4, w5, w6, w7⟩ := q
  exact ⟨q1, w1, w2, va_K.moved (u := U) (U := U.calling g mk av) (Vm.Alike.refl U.vm) w3, va_X.moved (u := U) (U := U.calling g mk av) (Vm.Alike.refl U.vm) w4, w5, zNst.same (s := U) (U := U.calling g mk av) rfl w6, zStr_same (U := U) (U' := U.calling g mk av) rfl w7⟩
def zMth (I : zI) (j n : Nat) : Prop := Cond.code (I j).1 (I j).2.1 (I j).2.2.1 (I j).2.2.2 ∈ lw_gd ∧ Cond.initialized (I j).1.cls ∈ lw_gd ∧
  ((I j).1.cls ≠ "java/lang/invoke/MethodHandle" ∧ (I j).1.cls ≠ "java/lang/invoke/VarHandle" ∧ (parseMethodDescriptor (I j).1.desc).map (fun d => d.parameters.length) = some n) ∧ (I j).2.2.1 ≤ 21
theorem zwd_good {I : zI} {j n : Nat} (h : zMth I j n) : GoodIn lw_gd (zwd I j) := by
  intro w hw
  rcases List.mem_cons.mp hw with rfl | hw
  · exact ⟨h.1, good_of_word (List.mem_filter.mp h.1).2⟩
  · exact lw_gd_good (fun _ h => h) w hw
theorem zcat_map (G : zG) (st : List Value) : ((st.map (zrl G)).map fun v => v.category) = st.map fun v => v.category := by
  rw [List.map_map]
  exact List.map_congr_left fun v _ => zrl_cat G v
theorem zpush {G : zG} {ret : Option FieldType} {v : Value} (hv : zkok ret v) (rest : List Value) : (zro G v).toList ++ rest.map (zrl G) = (zrs v ++ rest).map (zrl G) := by
  cases ret with
  | none =>
    have hn : v = .null := hv
    subst hn
    rfl
  | some ty => rcases hv with ⟨x, rfl, -⟩ | ⟨x, rfl, -⟩ <;> rfl
section SND5
variable {I : zI} {own nm : String} {cc : ByteArray} {nL : Nat} {ret : Option FieldType} {pc n t i : Nat}
/-- a call of a method without an object ahead of its values (static, a constructor), out of its kit row -/
theorem snd_callS {j na rt : Nat} (hj : zMth I j na) (na' : Nat) (hna : ∀ st : List Value, (st.take na').length = na' → True)
    (row : ∀ (p : Program) (l : Launch) (e : Env) (R : Room) (s : State) (m : MethodId) (args : Array Value) (below : List Frame) (meth : Method) (c : Code) (H : Heap) (locs : List Loc) (cells slots mc ms d : Nat) (ls : Array Slot) (rest st As : List Value) (Pc : Array Value → State → Prop) (Qc : Array Value → State → Outcome → State → Prop) (free : Addr → Prop),
      p.tables.exec = Jvm.exec → c.code = cc → c.maxLocals = nL → s.vm.findClass own = some m.cls → (∀ w ∈ lw_gd, w.before args s = true) → zNst s → ls.size = nL → Met l (I j).1 (zwd I j) (zrm d mc ms) Pc Qc mc ms free → (zrm d mc ms).frames + 1 ≤ R.frames ∧ 8 + ((I j).2.2.1 + 11) + (zrm d mc ms).locals ≤ R.locals →
      FrameBlind Pc → (∀ U : State, U.heap = H → s.WarmedH U.vm → Pc As.toArray U) → As.length = na' → st = As.reverse ++ rest → (rest.map fun v => v.category).sum ≤ 8 → cells + mc ≤ R.cells ∧ slots + ms ≤ R.slots →
      va_Run p l e R s m args below meth c H locs cells slots mc ms (F0 m pc ls st) rest (Qc As.toArray) free) :
    zSnd I own nm cc nL ret pc (op_calls j na' rt (pc + 3)) := by
  refine ⟨lin_calls _ _ _ _, fun p l e R s m args below meth c G d Qf rv M0 Mr C call k hc hk L st M h => ?_⟩
  unfold op_calls at h
  obtain ⟨hb, h2⟩ := zbif h (by nofun)
  clear h
  rw [Bool.and_eq_true] at hb
  obtain ⟨v, M', hcall, h3, -⟩ := zbk_some h2
  · obtain ⟨g1, hv, hM⟩ := hc _ _ _ _ _ hcall
    have h1 := hk _ _ _ _ h3
    refine ⟨⟨g1.tr h1.1.1, h1.1.2⟩, fun hg H locs ls hP hS hl => ?_⟩
    obtain ⟨⟨hx, hbb, hml, hown, hnm, hts⟩, hw, ⟨hR1, hR2, hR3, hR4⟩, -⟩ := id C
    have g2 := hg.tr g1
    have g3 := h1.1.1
    refine zW_size fun hz => ?_
    have hworld := zWorld_of hw hg hP hS rfl hz
    have hlen : (st.take na').length = na' := Nat.eq_of_beq_eq_true hb.1
    have hrun := row p l e R s m args below meth c H locs (zlen M - zlen M0) (zsl M - zsl M0) (zlen M' - zlen M) (zsl M' - zsl M) d ls ((st.drop na').map (zrl G)) (st.map (zrl G)) ((st.take na').reverse.map (zrl G)) (zPc G (st.take na').reverse M) (zQc G v M') (zA G) hx hbb hml hown hts hw.2.2.2.2.2.1 hl.2.1 hM
      ⟨hR3, by show 8 + ((I j).2.2.1 + 11) + 40 * d ≤ R.locals; have := hj.2.2.2; omega⟩ (zPc_blind G _ M) (fun U hU hW => ⟨rfl, hworld U hU hW⟩) (by simp only [List.length_map, List.length_reverse]; exact hlen) (by rw [List.map_reverse, List.reverse_reverse, ← List.map_append, List.take_append_drop]) (by rw [zcat_map]; exact Nat.le_of_ble_eq_true hb.2)
      ⟨by have a1 := hg.1; have a2 := g1.1; have a3 := g3.1; omega, by have a1 := hg.2.1; have a2 := g1.2.1; have a3 := g3.2.1; omega⟩
    refine zW_call hrun hS fun H1 locs1 hP1 hS1 => ?_
    rw [zpush hv]
    have e1 : zlen M - zlen M0 + (zlen M' - zlen M) = zlen M' - zlen M0 := by have a1 := hg.1; have a2 := g1.1; omega
    have e2 : zsl M - zsl M0 + (zsl M' - zsl M) = zsl M' - zsl M0 := by have a1 := hg.2.1; have a2 := g1.2.1; omega
    rw [e1, e2]
    exact h1.2 g2 H1 locs1 ls hP1 hS1 hl
theorem snd_static {j na rt idx : Nat} (hj : zMth I j na) (hl : Cond.methodLink own idx (I j).1 ∈ lw_gd) (hst : Cond.static (I j).1 ∈ lw_gd) (hdg : decode cc pc = .ok (.invokestatic idx, 3)) : zSnd I own nm cc nL ret pc (op_calls j na rt (pc + 3)) :=
  snd_callS hj na (fun _ _ => trivial) fun p l e R s m args below meth c H locs cells slots mc ms d ls rest st As Pc Qc free hx hb hml hown hts hns hsz hM hR hbl hpc hn hst1 hcat hf =>
    va_runS ⟨hx, hb, hml, hown, hts⟩ hM ⟨callB_of na hts (zwd_good hj) rfl rfl rfl (hts _ hj.2.1) (hts _ hl) hj.2.2.1 hR, hts _ hst⟩ ⟨hbl, hpc⟩ rfl hn hsz hst1 (lv_room hcat) hdg hf
theorem snd_staticN {j na rt idx : Nat} {host : String} (hj : zMth I j na) (hl : Cond.methodLinkNest own idx (I j).1 host ∈ lw_nst) (hst : Cond.static (I j).1 ∈ lw_gd) (hdg : decode cc pc = .ok (.invokestatic idx, 3)) : zSnd I own nm cc nL ret pc (op_calls j na rt (pc + 3)) :=
  snd_callS hj na (fun _ _ => trivial) fun p l e R s m args below meth c H locs cells slots mc ms d ls rest st As Pc Qc free hx hb hml hown hts hns hsz hM hR hbl hpc hn hst1 hcat hf =>
    va_runSN ⟨hx, hb, hml, hown, hts⟩ hM ⟨va_cnB na hts (zwd_good hj) rfl rfl rfl (hns _ hl) (hts _ hj.2.1) hj.2.2.1 hR, hts _ hst, trivial⟩ ⟨hbl, hpc⟩ rfl hn hsz hst1 (lv_room hcat) hdg hf
theorem snd_callv {j na ci rt : Nat} {C : String} {T : u_T} {N : Nat} {ty : Nat → FieldType} (K : zCls ci C T N ty) (hj : zMth I j na)
    (row : ∀ (p : Program) (l : Launch) (e : Env) (R : Room) (s : State) (m : MethodId) (args : Array Value) (below : List Frame) (meth : Method) (c : Code) (H : Heap) (locs : List Loc) (cells slots mc ms d b : Nat) (ls : Array Slot) (rest st As : List Value) (Pc : Array Value → State → Prop) (Qc : Array Value → State → Outcome → State → Prop) (free : Addr → Prop),
      p.tables.exec = Jvm.exec → c.code = cc → c.maxLocals = nL → s.vm.findClass own = some m.cls → (∀ w ∈ lw_gd, w.before args s = true) → zNst s → ls.size = nL → Met l (I j).1 (zwd I j) (zrm d mc ms) Pc Qc mc ms free → (zrm d mc ms).frames + 1 ≤ R.frames ∧ 8 + ((I j).2.2.1 + 11) + (zrm d mc ms).locals ≤ R.locals →
      FrameBlind Pc → (∃ cellB : Cell, H[b]? = some cellB ∧ cellB.vm.isStatics = false ∧ s.vm.findClass C = some cellB.cls) → (∀ U : State, U.heap = H → s.WarmedH U.vm → Pc (Value.ref b :: As).toArray U) → As.length = na → st = As.reverse ++ .ref b :: rest → (rest.map fun v => v.category).sum ≤ 8 → cells + mc ≤ R.cells ∧ slots + ms ≤ R.slots →
      va_Run p l e R s m args below meth c H locs cells slots mc ms (F0 m pc ls st) rest (Qc (Value.ref b :: As).toArray) free) :
    zSnd I own nm cc nL ret pc (op_callv j ci na rt (pc + 3)) := by
  refine ⟨lin_callv _ _ _ _ _, fun p l e R s m args below meth c G d Qf rv M0 Mr C call k hc hk L st M h => ?_⟩
  unfold op_callv at h
  split at h
  · rename_i _ r rest hdrop
    split at h
    · rename_i _ c0 ks hs
      obtain ⟨hb, h2⟩ := zbif h (by nofun)
      clear h
      rw [Bool.and_eq_true, Bool.and_eq_true] at hb
      have hci : c0 = ci := Nat.eq_of_beq_eq_true hb.1.1
      subst hci
      obtain ⟨v, M', hcall, h3, -⟩ := zbk_some h2
      · obtain ⟨g1, hv, hM⟩ := hc _ _ _ _ _ hcall
        have h1 := hk _ _ _ _ h3
        refine ⟨⟨g1.tr h1.1.1, h1.1.2⟩, fun hg H locs ls hP hS hl => ?_⟩
        obtain ⟨⟨hx, hbb, hml, hown, hnm, hts⟩, hw, ⟨hR1, hR2, hR3, hR4⟩, -⟩ := id C
        have g2 := hg.tr g1
        have g3 := h1.1.1
        refine zW_size fun hz => ?_
        have hworld := zWorld_of hw hg hP hS rfl hz
        have hlen : (st.take na).length = na := Nat.eq_of_beq_eq_true hb.1.2
        have hrun := row p l e R s m args below meth c H locs (zlen M - zlen M0) (zsl M - zsl M0) (zlen M' - zlen M) (zsl M' - zsl M) d (G.1 + r) ls (rest.map (zrl G)) (st.map (zrl G)) ((st.take na).reverse.map (zrl G)) (zPc G (.ref (r + 1) :: (st.take na).reverse) M) (zQc G v M') (zA G) hx hbb hml hown hts hw.2.2.2.2.2.1 hl.2.1 hM
          ⟨hR3, by show 8 + ((I j).2.2.1 + 11) + 40 * d ≤ R.locals; have := hj.2.2.2; omega⟩ (zPc_blind G _ M) (va_recv hw.2.2.1 hP K.1 (zws_at G M hs)) (fun U hU hW => ⟨rfl, hworld U hU hW⟩) (by simp only [List.length_map, List.length_reverse]; exact hlen) (by rw [List.map_reverse, List.reverse_reverse]; have e := List.take_append_drop na st; rw [hdrop] at e; rw [← e]; simp only [List.map_append, List.map_cons]; rw [show ((List.take na st ++ Value.ref (r + 1) :: rest).take na) = List.take na st by rw [e]]; rfl) (by rw [zcat_map]; exact Nat.le_of_ble_eq_true hb.2)
          ⟨by have a1 := hg.1; have a2 := g1.1; have a3 := g3.1; omega, by have a1 := hg.2.1; have a2 := g1.2.1; have a3 := g3.2.1; omega⟩
        refine zW_call hrun hS fun H1 locs1 hP1 hS1 => ?_
        rw [zpush hv]
        have e1 : zlen M - zlen M0 + (zlen M' - zlen M) = zlen M' - zlen M0 := by have a1 := hg.1; have a2 := g1.1; omega
        have e2 : zsl M - zsl M0 + (zsl M' - zsl M) = zsl M' - zsl M0 := by have a1 := hg.2.1; have a2 := g1.2.1; omega
        rw [e1, e2]
        exact h1.2 g2 H1 locs1 ls hP1 hS1 hl
    · cases h
  · cases h
theorem snd_virtual {j na ci rt idx : Nat} {C : String} {T : u_T} {N : Nat} {ty : Nat → FieldType} (K : zCls ci C T N ty) (hj : zMth I j na) (hl : Cond.methodLink own idx (I j).1 ∈ lw_gd) (hin : Cond.instanceMethod (I j).1 ∈ lw_gd) (hse : Cond.selects C (I j).1 (I j).1 ∈ lw_gd) (hdg : decode cc pc = .ok (.invokevirtual idx, 3)) : zSnd I own nm cc nL ret pc (op_callv j ci na rt (pc + 3)) :=
  snd_callv K hj fun p l e R s m args below meth c H locs cells slots mc ms d b ls rest st As Pc Qc free hx hb hml hown hts hns hsz hM hR hbl hrc hpc hn hst1 hcat hf =>
    va_runV ⟨hx, hb, hml, hown, hts⟩ hM ⟨callB_of na hts (zwd_good hj) rfl rfl rfl (hts _ hj.2.1) (hts _ hl) hj.2.2.1 hR, hts _ hin, hts _ hse⟩ ⟨hbl, hrc, hpc⟩ rfl hn hsz hst1 (lv_room hcat) hdg hf
theorem snd_virtualN {j na ci rt idx : Nat} {C host : String} {T : u_T} {N : Nat} {ty : Nat → FieldType} (K : zCls ci C T N ty) (hj : zMth I j na) (hl : Cond.methodLinkNest own idx (I j).1 host ∈ lw_nst) (hin : Cond.instanceMethod (I j).1 ∈ lw_gd) (hse : Cond.selects C (I j).1 (I j).1 ∈ lw_gd) (hdg : decode cc pc = .ok (.invokevirtual idx, 3)) : zSnd I own nm cc nL ret pc (op_callv j ci na rt (pc + 3)) :=
  snd_callv K hj fun p l e R s m args below meth c H locs cells slots mc ms d b ls rest st As Pc Qc free hx hb hml hown hts hns hsz hM hR hbl hrc hpc hn hst1 hcat hf =>
    va_runVN ⟨hx, hb, hml, hown, hts⟩ hM ⟨va_cnB na hts (zwd_good hj) rfl rfl rfl (hns _ hl) (hts _ hj.2.1) hj.2.2.1 hR, hts _ hin, hts _ hse⟩ ⟨hbl, hrc, hpc⟩ rfl hn hsz hst1 (lv_room hcat) hdg hf
theorem snd_calli {j na : Nat} (hj : zMth I j na) (hvd : (I j).2.2.2 = none)
    (row : ∀ (p : Program) (l : Launch) (e : Env) (R : Room) (s : State) (m : MethodId) (args : Array Value) (below : List Frame) (meth : Method) (c : Code) (H : Heap) (locs : List Loc) (cells slots mc ms d b : Nat) (ls : Array Slot) (rest st As : List Value) (Pc : Array Value → State → Prop) (Qc : Array Value → State → Outcome → State → Prop) (free : Addr → Prop),
      p.tables.exec = Jvm.exec → c.code = cc → c.maxLocals = nL → s.vm.findClass own = some m.cls → (∀ w ∈ lw_gd, w.before args s = true) → zNst s → ls.size = nL → Met l (I j).1 (zwd I j) (zrm d mc ms) Pc Qc mc ms free → (zrm d mc ms).frames + 1 ≤ R.frames ∧ 8 + ((I j).2.2.1 + 11) + (zrm d mc ms).locals ≤ R.locals →
      FrameBlind Pc → (∀ U : State, U.heap = H → s.WarmedH U.vm → Pc (Value.ref b :: As).toArray U) → As.length = na → st = As.reverse ++ .ref b :: rest → (rest.map fun v => v.category).sum ≤ 8 → cells + mc ≤ R.cells ∧ slots + ms ≤ R.slots →
      va_Run p l e R s m args below meth c H locs cells slots mc ms (F0 m pc ls st) rest (Qc (Value.ref b :: As).toArray) free) :
    zSnd I own nm cc nL ret pc (op_calli j na (pc + 3)) := by
  refine ⟨lin_calli _ _ _, fun p l e R s m args below meth c G d Qf rv M0 Mr C call k hc hk L st M h => ?_⟩
  unfold op_calli at h
  split at h
  · rename_i _ r rest hdrop
    obtain ⟨hb, h2⟩ := zbif h (by nofun)
    clear h
    rw [Bool.and_eq_true] at hb
    unfold zbv at h2
    split at h2
    · rename_i _ M' hcall
      obtain ⟨g1, hv, hM⟩ := hc _ _ _ _ _ hcall
      have h1 := hk _ _ _ _ h2
      refine ⟨⟨g1.tr h1.1.1, h1.1.2⟩, fun hg H locs ls hP hS hl => ?_⟩
      obtain ⟨⟨hx, hbb, hml, hown, hnm, hts⟩, hw, ⟨hR1, hR2, hR3, hR4⟩, -⟩ := id C
      have g2 := hg.tr g1
      have g3 := h1.1.1
      refine zW_size fun hz => ?_
      have hworld := zWorld_of hw hg hP hS rfl hz
      have hlen : (st.take na).length = na := Nat.eq_of_beq_eq_true hb.1
      have hrun := row p l e R s m args below meth c H locs (zlen M - zlen M0) (zsl M - zsl M0) (zlen M' - zlen M) (zsl M' - zsl M) d (G.1 + r) ls (rest.map (zrl G)) (st.map (zrl G)) ((st.take na).reverse.map (zrl G)) (zPc G (.ref (r + 1) :: (st.take na).reverse) M) (zQc G .null M') (zA G) hx hbb hml hown hts hw.2.2.2.2.2.1 hl.2.1 hM
        ⟨hR3, by show 8 + ((I j).2.2.1 + 11) + 40 * d ≤ R.locals; have := hj.2.2.2; omega⟩ (zPc_blind G _ M) (fun U hU hW => ⟨rfl, hworld U hU hW⟩) (by simp only [List.length_map, List.length_reverse]; exact hlen) (by rw [List.map_reverse, List.reverse_reverse]; have e := List.take_append_drop na st; rw [hdrop] at e; rw [← e]; simp only [List.map_append, List.map_cons]; rw [show ((List.take na st ++ Value.ref (r + 1) :: rest).take na) = List.take na st by rw [e]]; rfl) (by rw [zcat_map]; exact Nat.le_of_ble_eq_true hb.2)
        ⟨by have a1 := hg.1; have a2 := g1.1; have a3 := g3.1; omega, by have a1 := hg.2.1; have a2 := g1.2.1; have a3 := g3.2.1; omega⟩
      refine zW_call hrun hS fun H1 locs1 hP1 hS1 => ?_
      rw [show (zro G .null).toList ++ rest.map (zrl G) = rest.map (zrl G) from rfl]
      have e1 : zlen M - zlen M0 + (zlen M' - zlen M) = zlen M' - zlen M0 := by have a1 := hg.1; have a2 := g1.1; omega
      have e2 : zsl M - zsl M0 + (zsl M' - zsl M) = zsl M' - zsl M0 := by have a1 := hg.2.1; have a2 := g1.2.1; omega
      rw [e1, e2]
      exact h1.2 g2 H1 locs1 ls hP1 hS1 hl
    · cases h2
  · cases h
theorem zwd_none {I : zI} {j : Nat} (h : (I j).2.2.2 = none) : zwd I j = .code (I j).1 (I j).2.1 (I j).2.2.1 none :: lw_gd := by unfold zwd; rw [h]
theorem snd_special {j na idx : Nat} (hj : zMth I j na) (hvd : (I j).2.2.2 = none) (hy : (I j).1.name = "<init>") (hl : Cond.methodLink own idx (I j).1 ∈ lw_gd) (hin : Cond.instanceMethod (I j).1 ∈ lw_gd) (hdg : decode cc pc = .ok (.invokespecial idx, 3)) : zSnd I own nm cc nL ret pc (op_calli j na (pc + 3)) :=
  snd_calli hj hvd fun p l e R s m args below meth c H locs cells slots mc ms d b ls rest st As Pc Qc free hx hb hml hown hts hns hsz hM hR hbl hpc hn hst1 hcat hf =>
    va_runI ⟨hx, hb, hml, hown, hts⟩ hM (cwI na hts (zwd_good hj) (zwd_none hvd) rfl rfl (hts _ hj.2.1) (hts _ hl) (hts _ hin) hy hj.2.2.1 hR) ⟨hbl, hpc⟩ rfl hn hsz hst1 (lv_room hcat) hdg hf
theorem snd_specialN {j na idx : Nat} {host : String} (hj : zMth I j na) (hvd : (I j).2.2.2 = none) (hy : (I j).1.name = "<init>") (hl : Cond.methodLinkNest own idx (I j).1 host ∈ lw_nst) (hin : Cond.instanceMethod (I j).1 ∈ lw_gd) (hdg : decode cc pc = .ok (.invokespecial idx, 3)) : zSnd I own nm cc nL ret pc (op_calli j na (pc + 3)) :=
  snd_calli hj hvd fun p l e R s m args below meth c H locs cells slots mc ms d b ls rest st As Pc Qc free hx hb hml hown hts hns hsz hM hR hbl hpc hn hst1 hcat hf =>
    va_runIN ⟨hx, hb, hml, hown, hts⟩ hM ⟨va_cnB na hts (zwd_good hj) (zwd_none hvd) rfl rfl (hns _ hl) (hts _ hj.2.1) hj.2.2.1 hR, hy, hts _ hin⟩ ⟨hbl, hpc⟩ rfl hn hsz hst1 (lv_room hcat) hdg hf
end SND5
