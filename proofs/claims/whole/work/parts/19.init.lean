theorem ztin_1 {w : Cond} (h : w ∈ tables_1_1) : w ∈ lw_tbl := List.mem_append_right _ (show w ∈ tables_1 from (List.mem_append_left _ h))
theorem ztin_3 {w : Cond} (h : w ∈ tables_1_3) : w ∈ lw_tbl := List.mem_append_right _ (show w ∈ tables_1 from (List.mem_append_right _ (List.mem_append_right _ (List.mem_append_left _ h))))
theorem ztin_6 {w : Cond} (h : w ∈ tables_1_6) : w ∈ lw_tbl := List.mem_append_right _ (show w ∈ tables_1 from (List.mem_append_right _ (List.mem_append_right _ (List.mem_append_right _ (List.mem_append_right _ (List.mem_append_right _ (List.mem_append_left _ h)))))))
/-- WHAT IS LEFT: the law's machine ends with 1 -/
def zpure_st : Prop := ∀ (L : Nat) (xs : Nat → Int32), L ≤ 3584 → ∃ Mr : zM, zE zc_L_law (zF zT0 2047) 0 [.ref 0, zU, zU, zU] [] ((L, []), (fun a => if a = 0 then xs else fun _ => 0), fun _ _ => 0) = some (.int 1, Mr) ∧ zlen Mr ≤ 600000 ∧ zsl Mr ≤ 7302250
theorem zarrK {s : State} {args : Array Value} {ty : FieldType} (hra : ∀ cA, s.vm.findClass ("[" ++ ty.toString) = some cA → va_RA s cA ty) (h : (Cond.arrayClass ty).before args s = true) : ∃ cA, ArrOfT s cA ty ∧ va_RA s cA ty := by
  obtain ⟨c, k, comp, h1, h2, h3⟩ := Cond.arrayClass_spec h
  exact ⟨c, fun n z => ⟨fun k h => (by cases h), k, h2, comp, h3⟩, hra c h1⟩
theorem zstart_K {s : State} {args : Array Value} (hts : ∀ w ∈ lw_gd, w.before args s = true) : ∃ (D : va_G) (dA : Nat → ClassId), va_K D vwCl [(dA 1, .int), (dA 2, .long), (dA 3, .boolean), (dA 4, .char)] s := by
  obtain ⟨c0, i0, k0⟩ := u_known (C := RX0) (T := TX0) (N := 11) (n := 11) hts zkw_0 (hts _ wd_t_184)
  obtain ⟨c1, i1, k1⟩ := u_known (C := RX1) (T := TX1) (N := 18) (n := 18) hts zkw_1 (hts _ wd_t_86)
  obtain ⟨c2, i2, k2⟩ := u_known (C := RX2) (T := TX2) (N := 11) (n := 11) hts zkw_2 (hts _ wd_t_354)
  obtain ⟨c3, i3, k3⟩ := u_known (C := RX3) (T := TX3) (N := 6) (n := 6) hts zkw_3 (hts _ wd_t_249)
  obtain ⟨c4, i4, k4⟩ := u_known (C := RX4) (T := TX4) (N := 11) (n := 11) hts zkw_4 (hts _ wd_t_394)
  obtain ⟨c5, i5, k5⟩ := u_known (C := RX5) (T := TX5) (N := 3) (n := 3) hts zkw_5 (hts _ wd_t_31)
  obtain ⟨c6, i6, k6⟩ := u_known (C := RX6) (T := TX6) (N := 9) (n := 9) hts zkw_6 (hts _ wd_t_320)
  obtain ⟨c7, i7, k7⟩ := u_known (C := RX7) (T := TX7) (N := 13) (n := 13) hts zkw_7 (hts _ wd_t_274)
  obtain ⟨c8, i8, k8⟩ := u_known (C := RX8) (T := TX8) (N := 6) (n := 6) hts zkw_8 (hts _ wd_t_224)
  obtain ⟨c9, i9, k9⟩ := u_known (C := RX9) (T := TX9) (N := 7) (n := 7) hts zkw_9 (hts _ wd_t_156)
  obtain ⟨c10, i10, k10⟩ := u_known (C := RX10) (T := TX10) (N := 9) (n := 9) hts zkw_10 (hts _ wd_t_51)
  obtain ⟨c11, i11, k11⟩ := u_known (C := RX11) (T := TX11) (N := 12) (n := 12) hts zkw_11 (hts _ wd_t_23)
  obtain ⟨c12, i12, k12⟩ := u_known (C := RX12) (T := TX12) (N := 106) (n := 106) hts zkw_12 (hts _ wd_t_1329)
  obtain ⟨a1, h1, g1⟩ := zarrK (ty := .int) (fun _ h => h) (hts _ wd_t_49)
  obtain ⟨a2, h2, g2⟩ := zarrK (ty := .long) (fun _ h => h) (hts _ wd_t_1653)
  obtain ⟨a3, h3, g3⟩ := zarrK (ty := .boolean) (fun _ h => h) (hts _ wd_t_154)
  obtain ⟨a4, h4, g4⟩ := zarrK (ty := .char) (fun _ h => h) (hts _ wd_t_84)
  refine ⟨(fun k => if k = 0 then c0 else if k = 1 then c1 else if k = 2 then c2 else if k = 3 then c3 else if k = 4 then c4 else if k = 5 then c5 else if k = 6 then c6 else if k = 7 then c7 else if k = 8 then c8 else if k = 9 then c9 else if k = 10 then c10 else if k = 11 then c11 else c12, fun k => if k = 0 then i0 else if k = 1 then i1 else if k = 2 then i2 else if k = 3 then i3 else if k = 4 then i4 else if k = 5 then i5 else if k = 6 then i6 else if k = 7 then i7 else if k = 8 then i8 else if k = 9 then i9 else if k = 10 then i10 else if k = 11 then i11 else i12), fun k => if k = 1 then a1 else if k = 2 then a2 else if k = 3 then a3 else a4, ?_, ?_⟩
  · intro k q hq
    match k, hq with
    | 0, hq => cases hq; exact k0
    | 1, hq => cases hq; exact k1
    | 2, hq => cases hq; exact k2
    | 3, hq => cases hq; exact k3
    | 4, hq => cases hq; exact k4
    | 5, hq => cases hq; exact k5
    | 6, hq => cases hq; exact k6
    | 7, hq => cases hq; exact k7
    | 8, hq => cases hq; exact k8
    | 9, hq => cases hq; exact k9
    | 10, hq => cases hq; exact k10
    | 11, hq => cases hq; exact k11
    | 12, hq => cases hq; exact k12
    | k + 13, hq => simp [vwCl] at hq
  · intro k q hq
    match k, hq with
    | 0, hq => cases hq; exact ⟨h1, g1⟩
    | 1, hq => cases hq; exact ⟨h2, g2⟩
    | 2, hq => cases hq; exact ⟨h3, g3⟩
    | 3, hq => cases hq; exact ⟨h4, g4⟩
    | k + 4, hq => simp at hq
theorem zstart_S {s : State} {args : Array Value} (hts : ∀ w ∈ lw_tbl, w.before args s = true) (hgv : (Jvm.Cond.and given_1 narrow_1).before args s = true) (b : Nat) (D : va_G) (dA : Nat → ClassId) : ∃ X : Nat → Option Nat, zStr (s.heap.size, b, D, dA, X) s s.heap := by
  have hs := flat_of_before _ hgv
  have hA : ∀ a : Nat, a < s.heap.size → ¬ (fun q : Nat => s.heap.size ≤ q) a := fun a h => Nat.not_le.mpr h
  obtain ⟨t0, e0, hT0⟩ := va_Tof (args := args) (s := s) (tm := .static "ClayHouse$Flocks" "SHEKELS" "[I") (ty := .int) (N := 3) (f := fun j => .int (zxS.getD j 0)) (A := fun q : Nat => s.heap.size ≤ q) (by decide) (hs _ (by decide +kernel)) (va_eqt (hs _ (by decide +kernel))) (by
    intro j hj
    match j, hj with
    | 0, _ => exact va_eqt (hs _ (by decide +kernel))
    | 1, _ => exact va_eqt (hs _ (by decide +kernel))
    | 2, _ => exact va_eqt (hs _ (by decide +kernel))) hA
  have hZ0 := va_Zof (A := fun q : Nat => s.heap.size ≤ q) (hts (.laysStatic "ClayHouse$Flocks" "SHEKELS" "[I") (ztin_6 (List.mem_of_getElem? (i := 9) rfl))) (hts (.initialized "ClayHouse$Flocks") (ztin_1 (List.mem_of_getElem? (i := 11) rfl))) e0 hA
  have hZ1 := va_Zof (A := fun q : Nat => s.heap.size ≤ q) (hts (.laysStatic "java/lang/String" "COMPACT_STRINGS" "Z") (ztin_3 (List.mem_of_getElem? (i := 109) rfl))) (hts (.initialized "java/lang/String") (ztin_1 (List.mem_of_getElem? (i := 15) rfl))) (va_eqi (z := 1) (hs _ (by decide +kernel))) hA
  have hf : (Cond.isRef (.static "jdk/internal/util/Preconditions" "SIOOBE_FORMATTER" "Ljava/util/function/BiFunction;")).before args s = true := hs _ (by decide +kernel)
  obtain ⟨x5, e5⟩ : ∃ x5 : Option Nat, (Term.static "jdk/internal/util/Preconditions" "SIOOBE_FORMATTER" "Ljava/util/function/BiFunction;").eval args s none [] s = some (va_rf x5) := by
    cases hv : (Term.static "jdk/internal/util/Preconditions" "SIOOBE_FORMATTER" "Ljava/util/function/BiFunction;").eval args s none [] s with
    | none => simp [Cond.before, Cond.holds, Cond.value, hv] at hf
    | some w =>
      cases w with
      | null => exact ⟨none, rfl⟩
      | ref a => exact ⟨some a, rfl⟩
      | _ => simp [Cond.before, Cond.holds, Cond.value, hv] at hf
  have hZ2 := va_Zof (A := fun q : Nat => s.heap.size ≤ q) (hts (.laysStatic "jdk/internal/util/Preconditions" "SIOOBE_FORMATTER" "Ljava/util/function/BiFunction;") (ztin_3 (List.mem_of_getElem? (i := 125) rfl))) (hts (.initialized "jdk/internal/util/Preconditions") (ztin_1 (List.mem_of_getElem? (i := 17) rfl))) e5 hA
  obtain ⟨adK, adV, hS, hK⟩ := vk_Sof (args := args) (s := s) (N := 2) (tm := fun i => if i = 0 then .string "ClayHouse$Tape" 81 else .string "ClayHouse$Tape" 74) (len := [67, 11]) (byt := zxB) (A := fun q : Nat => s.heap.size ≤ q)
    (by intro i hi; match i, hi with | 0, _ => decide | 1, _ => decide)
    (by intro i hi; match i, hi with | 0, _ => exact hs _ (by decide +kernel) | 1, _ => exact hs _ (by decide +kernel))
    (by intro i hi; match i, hi with | 0, _ => exact hs _ (by decide +kernel) | 1, _ => exact hs _ (by decide +kernel))
    (by intro i hi; match i, hi with | 0, _ => exact hs _ (by decide +kernel) | 1, _ => exact hs _ (by decide +kernel))
    (by intro i hi; match i, hi with | 0, _ => exact hs _ (by decide +kernel) | 1, _ => exact hs _ (by decide +kernel))
    (by
      have k0 : ∀ j, j < 67 → (Cond.eq (.elem (.field (.string "ClayHouse$Tape" 81) "java/lang/String" "value" "[B") (.int (Int32.ofNat j))) (.int ((zxB.getD 0 []).getD j 0))) ∈ flatC (Jvm.Cond.and given_1 narrow_1) := by decide +kernel
      have k1 : ∀ j, j < 11 → (Cond.eq (.elem (.field (.string "ClayHouse$Tape" 74) "java/lang/String" "value" "[B") (.int (Int32.ofNat j))) (.int ((zxB.getD 1 []).getD j 0))) ∈ flatC (Jvm.Cond.and given_1 narrow_1) := by decide +kernel
      intro i hi j hj
      match i, hi with
      | 0, _ => exact hs _ (k0 j hj)
      | 1, _ => exact hs _ (k1 j hj))
    (by
      intro i j hi hj hne
      match i, hi, j, hj with
      | 0, _, 0, _ => exact absurd rfl hne
      | 0, _, 1, _ => first | exact Or.inl (hs _ (by decide +kernel)) | exact Or.inr (hs _ (by decide +kernel))
      | 1, _, 0, _ => first | exact Or.inl (hs _ (by decide +kernel)) | exact Or.inr (hs _ (by decide +kernel))
      | 1, _, 1, _ => exact absurd rfl hne) hA
  refine ⟨fun k => if k = 0 then some t0 else if k = 1 then some (adK 0) else if k = 2 then some (adK 1) else if k = 3 then some (adV 0) else if k = 4 then some (adV 1) else x5, t0, adK 0, adK 1, adV 0, adV 1, ⟨rfl, rfl, rfl, rfl, rfl⟩, hZ0, hT0, ?_, ?_, ?_, hZ1, hZ2⟩
  · exact vk_R.of (A := args) (hts (.stringRef "ClayHouse$Tape" 81 "in out sum good lost give when or and not sort age days kids month ") (ztin_3 (List.mem_of_getElem? (i := 99) rfl))) (hK 0 (by decide))
  · exact vk_R.of (A := args) (hts (.stringRef "ClayHouse$Tape" 74 ";?+-*/()<=>") (ztin_3 (List.mem_of_getElem? (i := 152) rfl))) (hK 1 (by decide))
  · refine ⟨fun i hi => ?_, fun i j hi hj hij => ?_⟩
    · match i, hi with
      | 0, _ => exact hS.1 0 (by decide)
      | 1, _ => exact hS.1 1 (by decide)
    · match i, hi, j, hj with
      | 0, _, 0, _ => rfl
      | 0, _, 1, _ => exact absurd (hS.2 0 1 (by decide) (by decide) hij) (by decide)
      | 1, _, 0, _ => exact absurd (hS.2 1 0 (by decide) (by decide) hij) (by decide)
      | 1, _, 1, _ => rfl
