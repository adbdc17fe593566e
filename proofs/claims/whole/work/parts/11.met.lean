/-! EVERY METHOD'S CONTRACT, out of its machine -/
def zPrm (I : zI) (T : Nat → Nat × (Nat → zO)) (j : Nat) : Prop := ∀ (l : Launch) (G : zG) (d : Nat) (a : zL) (M : zM) (v : Value) (M' : zM), zF T (d + 1) j a M = some (v, M') →
  zGr M M' ∧ zkok (I j).2.2.2 v ∧ Met l (I j).1 (zwd I j) (zrm (d + 1) (zlen M' - zlen M) (zsl M' - zsl M)) (zPc G a M) (zQc G v M') (zlen M' - zlen M) (zsl M' - zsl M) (zA G)
theorem zMet {I : zI} {T : Nat → Nat × (Nat → zO)} {j : Nat} (hj : zMthOK I T j) {l : Launch} {G : zG} {d : Nat} (hc : zCal l G I d (zF T d)) {a : zL} {M : zM} {v : Value} {M' : zM} (h : zF T (d + 1) j a M = some (v, M')) :
    Met l (I j).1 (zwd I j) (zrm (d + 1) (zlen M' - zlen M) (zsl M' - zsl M)) (zPc G a M) (zQc G v M') (zlen M' - zlen M) (zsl M' - zsl M) (zA G) := by
  obtain ⟨hs, hn, hpl⟩ := hj
  have hfit : (zargs a).length ≤ (I j).2.2.1 := by
    rw [← hn]
    exact Nat.le_of_ble_eq_true (zbif h (by nofun)).1
  refine Met.ofW (cc := (I j).2.1) (maxL := (I j).2.2.1) (ret := (I j).2.2.2) hpl rfl ?_
  intro p e s m args below meth c s₁ B hml hv
  obtain ⟨rfl, hw⟩ := hv
  have hx := B.exec
  have hb := B.bytes
  have hr := B.returns
  have hts : ∀ w ∈ zwd I j, w.before _ s = true := atoms_spec (ws := zwd I j) B.pre
  have hown : s.vm.findClass (I j).1.cls = some m.cls := findClass_of_methodNamed B.named
  have hlocks := B.notSynchronized
  have hin : meth.name = (I j).1.name := (name_of_methodNamed B.named B.method).1
  have C : zCtx p l e (headSpec (zwd I j) (zrm (d + 1) (zlen M' - zlen M) (zsl M' - zsl M))).room s m (a.map (zrl G)).toArray below meth c G (I j).1.cls (I j).1.name (I j).2.1 (I j).2.2.1 (I j).2.2.2 d (MQ below (zQc G v M') (a.map (zrl G)).toArray s (zlen M' - zlen M) (zsl M' - zsl M) (zA G)) v M M' := by
    refine ⟨⟨hx, hb, hml, hown, hin, fun w hw => hts w (List.mem_cons_of_mem _ hw)⟩, hw, ⟨Nat.le_refl _, Nat.le_refl _, Nat.le_refl _, Nat.le_refl _⟩, fun hk pc H locs ls hret hP hS => ?_⟩
    have hq : ∀ t : State, t.heap = H → s.WarmedH t.vm → zQc G v M' (a.map (zrl G)).toArray s (.returned (zro G v)) t := fun t ht _ => ⟨rfl, by rw [ht]; exact hP, hS.F ht⟩
    have hf : ∀ q ∈ locs, zA G q.base := hS.2.2
    cases hrt : (I j).2.2.2 with
    | none =>
      rw [hrt] at hk hr
      have hv : v = .null := hk
      subst hv
      exact W.vret hx hb hr hq hf hret hlocks
    | some ty =>
      rw [hrt] at hk hr
      rcases hk with ⟨x, rfl, hk2⟩ | ⟨x, rfl, rfl⟩
      · exact W.zret hx hb hr hk2 hq hf hret hlocks
      · exact W.lret hx hb hr hq hf hret hlocks
  show W p l e (headSpec (zwd I j) (zrm (d + 1) (zlen M' - zlen M) (zsl M' - zsl M))).room s m (a.map (zrl G)).toArray below meth c s.heap [] 0 0 _ (entryFrame m (a.map (zrl G)).toArray (I j).2.2.1)
  rw [lg_entry_eq]
  have hgood : zgood (T j).2 := fun pc => (hs pc).1.1
  have h' : zE (T j).2 (zF T d) 0 (zent (T j).1 a) [] M = some (v, M') := (zbif h (by nofun)).2
  rw [hn] at h'
  obtain ⟨n, hrun⟩ := (zE_iff hgood).mp h'
  have hat := (zrun_at hs C hc n 0 _ _ _ hrun).2 (zGr.rf M) s.heap [] _ hw.2.1 va_S.rf (zent_lk (G := G) hfit)
  rw [Nat.sub_self, Nat.sub_self] at hat
  exact hat
theorem zsim {I : zI} {T : Nat → Nat × (Nat → zO)} (H : ∀ j, zMthOK I T j ∨ zPrm I T j) (l : Launch) (G : zG) : ∀ d, zCal l G I d (zF T d)
  | 0 => fun _ _ _ _ _ h => by cases h
  | d + 1 => fun j a M v M' h => by
    rcases H j with hj | hp
    · have hc := zsim H l G d
      have hgood : zgood (T j).2 := fun pc => (hj.1 pc).1.1
      obtain ⟨n, hrun⟩ := (zE_iff hgood).mp (zbif h (by nofun)).2
      have hg := zrun_gw hj.1 (call := zF T d) (fun j a M v M' h => ⟨(hc j a M v M' h).1, (hc j a M v M' h).2.1⟩) n _ _ _ _ hrun
      exact ⟨hg.1, hg.2, zMet hj hc h⟩
    · exact hp l G d a M v M' h
