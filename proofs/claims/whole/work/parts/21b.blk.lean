/-! BLOCKS of methods, as equations (laid by wip/gen/blk.py) -/
set_option maxRecDepth 50000 in
theorem B_X5_slot (d len : Nat) (μ : zMu) (ν : zNu) (a0 : Int32) (a1 : Int32) : zF zT0 (d + 1) 61 [.int a0, .int a1] (zm len μ ν) = (fun call => some (.int ((a0 * (6 : Int32)) + a1), (zm len μ ν))) (zF zT0 d) :=
  (show _ = zE zc_X5_slot (zF zT0 d) 0 [.int a0, .int a1] [] (zm len μ ν) from rfl).trans ((zE_runc zg_X5_slot [] 2000 0 _ _ _).trans rfl)
set_option maxRecDepth 50000 in
theorem B_X5_isSystem (d len : Nat) (μ : zMu) (ν : zNu) (a0 : Int32) : zF zT0 (d + 1) 62 [.int a0] (zm len μ ν) = (fun call => zbi (call 175 [.int a0, .int (0 : Int32), .int (3 : Int32)] (zm len μ ν)) (fun w' M' => zE zc_X5_isSystem call 6 [.int a0] [.int w'] M')) (zF zT0 d) :=
  (show _ = zE zc_X5_isSystem (zF zT0 d) 0 [.int a0] [] (zm len μ ν) from rfl).trans ((zE_runc zg_X5_isSystem [6] 2000 0 _ _ _).trans rfl)
set_option maxRecDepth 50000 in
theorem B_X5_isSystem_6 (call : zC) (len : Nat) (μ : zMu) (ν : zNu) (x0 : Int32) (xs0 : Int32) : zE zc_X5_isSystem call 6 [.int x0] [.int xs0] (zm len μ ν) = (if xs0 = 0 ∨ xs0 = 1 then some (.int xs0, (zm len μ ν)) else none) :=
  (zE_runc zg_X5_isSystem [6] 2000 6 _ _ _).trans rfl
set_option maxRecDepth 50000 in
theorem B_X5_setStep (d len : Nat) (μ : zMu) (ν : zNu) (a0 : Int32) (a1 : Int32) (a2 : Int32) : zF zT0 (d + 1) 63 [.ref 2, .int a0, .int a1, .int a2] (zm len μ ν) = (fun call => zbi (call 62 [.int a0] (zm len μ ν)) (fun w' M' => zE zc_X5_setStep call 4 [.ref 2, .int a0, .int a1, .int a2, zU] [.int w'] M')) (zF zT0 d) :=
  (show _ = zE zc_X5_setStep (zF zT0 d) 0 [.ref 2, .int a0, .int a1, .int a2, zU] [] (zm len μ ν) from rfl).trans ((zE_runc zg_X5_setStep [4, 19, 37, 51, 61, 75] 2000 0 _ _ _).trans rfl)
set_option maxRecDepth 50000 in
theorem B_X5_setStep_4 (call : zC) (len : Nat) (μ : zMu) (ν : zNu) (x1 : Int32) (x2 : Int32) (x3 : Int32) (v4 : Value) (xs0 : Int32) : zE zc_X5_setStep call 4 [.ref 2, .int x1, .int x2, .int x3, v4] [.int xs0] (zm len μ ν) = (if xs0 = 0 then some (.int (0 : Int32), (zm len μ ν)) else (if x3 = 0 then zbi (call 64 [.ref 2, .int x1, .int x2] (zm len μ ν)) (fun w' M' => zE zc_X5_setStep call 19 [.ref 2, .int x1, .int x2, .int x3, v4] [.int w'] M') else (if 0 ≤ (x1).toInt ∧ (x1).toInt < ((4 : Nat) : Int) then zbi (call 175 [.int x3, .int (2 : Int32), .int (60 : Int32)] (zm len μ ν)) (fun w' M' => zE zc_X5_setStep call 37 [.ref 2, .int x1, .int x2, .int x3, .int ((μ 3 (x1).toNatClampNeg) - (1 : Int32))] [.int w'] M') else none))) :=
  (zE_runc zg_X5_setStep [4, 19, 37, 51, 61, 75] 2000 4 _ _ _).trans rfl
set_option maxRecDepth 50000 in
theorem B_X5_setStep_19 (call : zC) (len : Nat) (μ : zMu) (ν : zNu) (x1 : Int32) (x2 : Int32) (x3 : Int32) (v4 : Value) (xs0 : Int32) : zE zc_X5_setStep call 19 [.ref 2, .int x1, .int x2, .int x3, v4] [.int xs0] (zm len μ ν) = (if xs0 = 0 ∨ xs0 = 1 then some (.int xs0, (zm len μ ν)) else none) :=
  (zE_runc zg_X5_setStep [4, 19, 37, 51, 61, 75] 2000 19 _ _ _).trans rfl
set_option maxRecDepth 50000 in
theorem B_X5_setStep_37 (call : zC) (len : Nat) (μ : zMu) (ν : zNu) (x1 : Int32) (x2 : Int32) (x3 : Int32) (x4 : Int32) (xs0 : Int32) : zE zc_X5_setStep call 37 [.ref 2, .int x1, .int x2, .int x3, .int x4] [.int xs0] (zm len μ ν) = (if xs0 = 0 then some (.int (0 : Int32), (zm len μ ν)) else zbi (call 175 [.int x2, .int (0 : Int32), .int (if (4 : Int32) < x4 then (4 : Int32) else x4)] (zm len μ ν)) (fun w' M' => zE zc_X5_setStep call 51 [.ref 2, .int x1, .int x2, .int x3, .int x4] [.int w'] M')) :=
  (zE_runc zg_X5_setStep [4, 19, 37, 51, 61, 75] 2000 37 _ _ _).trans rfl
set_option maxRecDepth 50000 in
theorem B_X5_setStep_51 (call : zC) (len : Nat) (μ : zMu) (ν : zNu) (x1 : Int32) (x2 : Int32) (x3 : Int32) (x4 : Int32) (xs0 : Int32) : zE zc_X5_setStep call 51 [.ref 2, .int x1, .int x2, .int x3, .int x4] [.int xs0] (zm len μ ν) = (if xs0 = 0 then some (.int (0 : Int32), (zm len μ ν)) else zbi (call 65 [.ref 2, .int x1, .int x2, .int x3] (zm len μ ν)) (fun w' M' => zE zc_X5_setStep call 61 [.ref 2, .int x1, .int x2, .int x3, .int x4] [.int w'] M')) :=
  (zE_runc zg_X5_setStep [4, 19, 37, 51, 61, 75] 2000 51 _ _ _).trans rfl
set_option maxRecDepth 50000 in
theorem B_X5_setStep_61 (call : zC) (len : Nat) (μ : zMu) (ν : zNu) (x1 : Int32) (x2 : Int32) (x3 : Int32) (x4 : Int32) (xs0 : Int32) : zE zc_X5_setStep call 61 [.ref 2, .int x1, .int x2, .int x3, .int x4] [.int xs0] (zm len μ ν) = (if xs0 = 0 then some (.int (0 : Int32), (zm len μ ν)) else zbi (call 61 [.int x1, .int x2] (zm len μ ν)) (fun w' M' => zE zc_X5_setStep call 75 [.ref 2, .int x1, .int x2, .int x3, .int x4] [.int w', .ref 4] M')) :=
  (zE_runc zg_X5_setStep [4, 19, 37, 51, 61, 75] 2000 61 _ _ _).trans rfl
set_option maxRecDepth 50000 in
theorem B_X5_setStep_75 (call : zC) (len : Nat) (μ : zMu) (ν : zNu) (x1 : Int32) (x2 : Int32) (x3 : Int32) (x4 : Int32) (xs0 : Int32) : zE zc_X5_setStep call 75 [.ref 2, .int x1, .int x2, .int x3, .int x4] [.int xs0, .ref 4] (zm len μ ν) = (if 0 ≤ (xs0).toInt ∧ (xs0).toInt < ((24 : Nat) : Int) then (if 0 ≤ (x1).toInt ∧ (x1).toInt < ((4 : Nat) : Int) then (if 0 ≤ (x1).toInt ∧ (x1).toInt < ((4 : Nat) : Int) then some (.int (1 : Int32), (zm len (zup (zup μ 4 (xs0).toNatClampNeg x3) 3 (x1).toNatClampNeg (if (μ 3 (x1).toNatClampNeg) < (x2 + (2 : Int32)) then (x2 + (2 : Int32)) else (μ 3 (x1).toNatClampNeg))) ν)) else none) else none) else none) :=
  (zE_runc zg_X5_setStep [4, 19, 37, 51, 61, 75] 2000 75 _ _ _).trans rfl
set_option maxRecDepth 50000 in
theorem B_X5_dropSign (d len : Nat) (μ : zMu) (ν : zNu) (a0 : Int32) (a1 : Int32) : zF zT0 (d + 1) 64 [.ref 2, .int a0, .int a1] (zm len μ ν) = (fun call => (if 0 ≤ (a0).toInt ∧ (a0).toInt < ((4 : Nat) : Int) then (if (μ 3 (a0).toNatClampNeg) ≤ (2 : Int32) then some (.int (0 : Int32), (zm len μ ν)) else (if 0 ≤ (a0).toInt ∧ (a0).toInt < ((4 : Nat) : Int) then (if a1 = ((μ 3 (a0).toNatClampNeg) - (2 : Int32)) then (if 0 ≤ (a0).toInt ∧ (a0).toInt < ((4 : Nat) : Int) then (if 0 ≤ (a0).toInt ∧ (a0).toInt < ((4 : Nat) : Int) then some (.int (1 : Int32), (zm len (zup μ 3 (a0).toNatClampNeg ((μ 3 (a0).toNatClampNeg) - (1 : Int32))) ν)) else none) else none) else some (.int (0 : Int32), (zm len μ ν))) else none)) else none)) (zF zT0 d) :=
  (show _ = zE zc_X5_dropSign (zF zT0 d) 0 [.ref 2, .int a0, .int a1] [] (zm len μ ν) from rfl).trans ((zE_runc zg_X5_dropSign [] 2000 0 _ _ _).trans rfl)
set_option maxRecDepth 50000 in
theorem B_X5_staysSmall (d len : Nat) (μ : zMu) (ν : zNu) (a0 : Int32) (a1 : Int32) (a2 : Int32) : zF zT0 (d + 1) 65 [.ref 2, .int a0, .int a1, .int a2] (zm len μ ν) = (fun call => (if 0 ≤ (a0).toInt ∧ (a0).toInt < ((4 : Nat) : Int) then zE zc_X5_staysSmall call 20 [.ref 2, .int a0, .int a1, .int a2, .int (if ((μ 3 (a0).toNatClampNeg) - (2 : Int32)) < a1 then a1 else ((μ 3 (a0).toNatClampNeg) - (2 : Int32))), .int (1 : Int32), .int (0 : Int32)] [] (zm len μ ν) else none)) (zF zT0 d) :=
  (show _ = zE zc_X5_staysSmall (zF zT0 d) 0 [.ref 2, .int a0, .int a1, .int a2, zU, zU, zU] [] (zm len μ ν) from rfl).trans ((zE_runc zg_X5_staysSmall [20, 49, 50] 2000 0 _ _ _).trans rfl)
set_option maxRecDepth 50000 in
theorem B_X5_staysSmall_20 (call : zC) (len : Nat) (μ : zMu) (ν : zNu) (x1 : Int32) (x2 : Int32) (x3 : Int32) (x4 : Int32) (x5 : Int32) (x6 : Int32) : zE zc_X5_staysSmall call 20 [.ref 2, .int x1, .int x2, .int x3, .int x4, .int x5, .int x6] [] (zm len μ ν) = (if x4 < x6 then some (.int (1 : Int32), (zm len μ ν)) else (if x6 = x2 then zE zc_X5_staysSmall call 50 [.ref 2, .int x1, .int x2, .int x3, .int x4, .int x5, .int x6] [.int x3, .int x5] (zm len μ ν) else zbi (call 61 [.int x1, .int x6] (zm len μ ν)) (fun w' M' => zE zc_X5_staysSmall call 49 [.ref 2, .int x1, .int x2, .int x3, .int x4, .int x5, .int x6] [.int w', .ref 4, .int x5] M'))) :=
  (zE_runc zg_X5_staysSmall [20, 49, 50] 2000 20 _ _ _).trans rfl
set_option maxRecDepth 50000 in
theorem B_X5_staysSmall_49 (call : zC) (len : Nat) (μ : zMu) (ν : zNu) (x1 : Int32) (x2 : Int32) (x3 : Int32) (x4 : Int32) (x5 : Int32) (x6 : Int32) (xs0 : Int32) (xs2 : Int32) : zE zc_X5_staysSmall call 49 [.ref 2, .int x1, .int x2, .int x3, .int x4, .int x5, .int x6] [.int xs0, .ref 4, .int xs2] (zm len μ ν) = (if 0 ≤ (xs0).toInt ∧ (xs0).toInt < ((24 : Nat) : Int) then zE zc_X5_staysSmall call 50 [.ref 2, .int x1, .int x2, .int x3, .int x4, .int x5, .int x6] [.int (μ 4 (xs0).toNatClampNeg), .int xs2] (zm len μ ν) else none) :=
  (zE_runc zg_X5_staysSmall [20, 49, 50] 2000 49 _ _ _).trans rfl
set_option maxRecDepth 50000 in
theorem B_X5_staysSmall_50 (call : zC) (len : Nat) (μ : zMu) (ν : zNu) (x1 : Int32) (x2 : Int32) (x3 : Int32) (x4 : Int32) (x5 : Int32) (x6 : Int32) (xs0 : Int32) (xs1 : Int32) : zE zc_X5_staysSmall call 50 [.ref 2, .int x1, .int x2, .int x3, .int x4, .int x5, .int x6] [.int xs0, .int xs1] (zm len μ ν) = (if (xs1 * xs0) ≤ (99999 : Int32) then zE zc_X5_staysSmall call 20 [.ref 2, .int x1, .int x2, .int x3, .int x4, .int (xs1 * xs0), .int (x6 + (1 : Int32))] [] (zm len μ ν) else some (.int (0 : Int32), (zm len μ ν))) :=
  (zE_runc zg_X5_staysSmall [20, 49, 50] 2000 50 _ _ _).trans rfl
set_option maxRecDepth 50000 in
theorem B_X5_setSystem (d len : Nat) (μ : zMu) (ν : zNu) (a0 : Int32) (a1 : Int32) : zF zT0 (d + 1) 66 [.ref 2, .int a0, .int a1] (zm len μ ν) = (fun call => zbi (call 176 [.int a0] (zm len μ ν)) (fun w' M' => zE zc_X5_setSystem call 4 [.ref 2, .int a0, .int a1] [.int w'] M')) (zF zT0 d) :=
  (show _ = zE zc_X5_setSystem (zF zT0 d) 0 [.ref 2, .int a0, .int a1] [] (zm len μ ν) from rfl).trans ((zE_runc zg_X5_setSystem [4, 11] 2000 0 _ _ _).trans rfl)
set_option maxRecDepth 50000 in
theorem B_X5_setSystem_4 (call : zC) (len : Nat) (μ : zMu) (ν : zNu) (x1 : Int32) (x2 : Int32) (xs0 : Int32) : zE zc_X5_setSystem call 4 [.ref 2, .int x1, .int x2] [.int xs0] (zm len μ ν) = (if xs0 = 0 then some (.int (0 : Int32), (zm len μ ν)) else zbi (call 62 [.int x2] (zm len μ ν)) (fun w' M' => zE zc_X5_setSystem call 11 [.ref 2, .int x1, .int x2] [.int w'] M')) :=
  (zE_runc zg_X5_setSystem [4, 11] 2000 4 _ _ _).trans rfl
set_option maxRecDepth 50000 in
theorem B_X5_setSystem_11 (call : zC) (len : Nat) (μ : zMu) (ν : zNu) (x1 : Int32) (x2 : Int32) (xs0 : Int32) : zE zc_X5_setSystem call 11 [.ref 2, .int x1, .int x2] [.int xs0] (zm len μ ν) = (if xs0 = 0 then some (.int (0 : Int32), (zm len μ ν)) else (if 0 ≤ (x1).toInt ∧ (x1).toInt < ((8 : Nat) : Int) then some (.int (1 : Int32), (zm len (zup μ 5 (x1).toNatClampNeg x2) ν)) else none)) :=
  (zE_runc zg_X5_setSystem [4, 11] 2000 11 _ _ _).trans rfl
set_option maxRecDepth 50000 in
theorem B_X5_systemOf (d len : Nat) (μ : zMu) (ν : zNu) (a0 : Int32) : zF zT0 (d + 1) 67 [.ref 2, .int a0] (zm len μ ν) = (fun call => zbi (call 176 [.int a0] (zm len μ ν)) (fun w' M' => zE zc_X5_systemOf call 4 [.ref 2, .int a0] [.int w'] M')) (zF zT0 d) :=
  (show _ = zE zc_X5_systemOf (zF zT0 d) 0 [.ref 2, .int a0] [] (zm len μ ν) from rfl).trans ((zE_runc zg_X5_systemOf [4] 2000 0 _ _ _).trans rfl)
set_option maxRecDepth 50000 in
theorem B_X5_systemOf_4 (call : zC) (len : Nat) (μ : zMu) (ν : zNu) (x1 : Int32) (xs0 : Int32) : zE zc_X5_systemOf call 4 [.ref 2, .int x1] [.int xs0] (zm len μ ν) = (if xs0 = 0 then some (.int (0 : Int32), (zm len μ ν)) else (if 0 ≤ (x1).toInt ∧ (x1).toInt < ((8 : Nat) : Int) then some (.int (μ 5 (x1).toNatClampNeg), (zm len μ ν)) else none)) :=
  (zE_runc zg_X5_systemOf [4] 2000 4 _ _ _).trans rfl
set_option maxRecDepth 50000 in
theorem B_X5_hasSign (d len : Nat) (μ : zMu) (ν : zNu) (a0 : Int32) (a1 : Int32) : zF zT0 (d + 1) 68 [.ref 2, .int a0, .int a1] (zm len μ ν) = (fun call => (if a0 < 0 then some (.int (0 : Int32), (zm len μ ν)) else (if (4 : Int32) ≤ a0 then some (.int (0 : Int32), (zm len μ ν)) else (if a1 < 0 then some (.int (0 : Int32), (zm len μ ν)) else (if 0 ≤ (a0).toInt ∧ (a0).toInt < ((4 : Nat) : Int) then (if (μ 3 (a0).toNatClampNeg) ≤ a1 then some (.int (0 : Int32), (zm len μ ν)) else some (.int (1 : Int32), (zm len μ ν))) else none))))) (zF zT0 d) :=
  (show _ = zE zc_X5_hasSign (zF zT0 d) 0 [.ref 2, .int a0, .int a1] [] (zm len μ ν) from rfl).trans ((zE_runc zg_X5_hasSign [] 2000 0 _ _ _).trans rfl)
set_option maxRecDepth 50000 in
theorem B_X5_worthOf (d len : Nat) (μ : zMu) (ν : zNu) (a0 : Int32) (a1 : Int32) : zF zT0 (d + 1) 69 [.ref 2, .int a0, .int a1] (zm len μ ν) = (fun call => zbi (call 68 [.ref 2, .int a0, .int a1] (zm len μ ν)) (fun w' M' => zE zc_X5_worthOf call 8 [.ref 2, .int a0, .int a1, .int (1 : Int32), zU] [.int w'] M')) (zF zT0 d) :=
  (show _ = zE zc_X5_worthOf (zF zT0 d) 0 [.ref 2, .int a0, .int a1, zU, zU] [] (zm len μ ν) from rfl).trans ((zE_runc zg_X5_worthOf [8, 14, 31] 2000 0 _ _ _).trans rfl)
set_option maxRecDepth 50000 in
theorem B_X5_worthOf_8 (call : zC) (len : Nat) (μ : zMu) (ν : zNu) (x1 : Int32) (x2 : Int32) (x3 : Int32) (v4 : Value) (xs0 : Int32) : zE zc_X5_worthOf call 8 [.ref 2, .int x1, .int x2, .int x3, v4] [.int xs0] (zm len μ ν) = (if xs0 = 0 then some (.int x3, (zm len μ ν)) else zE zc_X5_worthOf call 14 [.ref 2, .int x1, .int x2, .int x3, .int (0 : Int32)] [] (zm len μ ν)) :=
  (zE_runc zg_X5_worthOf [8, 14, 31] 2000 8 _ _ _).trans rfl
set_option maxRecDepth 50000 in
theorem B_X5_worthOf_14 (call : zC) (len : Nat) (μ : zMu) (ν : zNu) (x1 : Int32) (x2 : Int32) (x3 : Int32) (x4 : Int32) : zE zc_X5_worthOf call 14 [.ref 2, .int x1, .int x2, .int x3, .int x4] [] (zm len μ ν) = (if x2 ≤ x4 then some (.int x3, (zm len μ ν)) else zbi (call 61 [.int x1, .int x4] (zm len μ ν)) (fun w' M' => zE zc_X5_worthOf call 31 [.ref 2, .int x1, .int x2, .int x3, .int x4] [.int w', .ref 4, .int x3] M')) :=
  (zE_runc zg_X5_worthOf [8, 14, 31] 2000 14 _ _ _).trans rfl
set_option maxRecDepth 50000 in
theorem B_X5_worthOf_31 (call : zC) (len : Nat) (μ : zMu) (ν : zNu) (x1 : Int32) (x2 : Int32) (x3 : Int32) (x4 : Int32) (xs0 : Int32) (xs2 : Int32) : zE zc_X5_worthOf call 31 [.ref 2, .int x1, .int x2, .int x3, .int x4] [.int xs0, .ref 4, .int xs2] (zm len μ ν) = (if 0 ≤ (xs0).toInt ∧ (xs0).toInt < ((24 : Nat) : Int) then zE zc_X5_worthOf call 14 [.ref 2, .int x1, .int x2, .int (xs2 * (μ 4 (xs0).toNatClampNeg)), .int (x4 + (1 : Int32))] [] (zm len μ ν) else none) :=
  (zE_runc zg_X5_worthOf [8, 14, 31] 2000 31 _ _ _).trans rfl
set_option maxRecDepth 50000 in
theorem B_X5_mostOf (d len : Nat) (μ : zMu) (ν : zNu) (a0 : Int32) (a1 : Int32) : zF zT0 (d + 1) 70 [.ref 2, .int a0, .int a1] (zm len μ ν) = (fun call => zbi (call 68 [.ref 2, .int a0, .int a1] (zm len μ ν)) (fun w' M' => zE zc_X5_mostOf call 6 [.ref 2, .int a0, .int a1] [.int w'] M')) (zF zT0 d) :=
  (show _ = zE zc_X5_mostOf (zF zT0 d) 0 [.ref 2, .int a0, .int a1] [] (zm len μ ν) from rfl).trans ((zE_runc zg_X5_mostOf [6, 30] 2000 0 _ _ _).trans rfl)
set_option maxRecDepth 50000 in
theorem B_X5_mostOf_6 (call : zC) (len : Nat) (μ : zMu) (ν : zNu) (x1 : Int32) (x2 : Int32) (xs0 : Int32) : zE zc_X5_mostOf call 6 [.ref 2, .int x1, .int x2] [.int xs0] (zm len μ ν) = (if xs0 = 0 then some (.int (99 : Int32), (zm len μ ν)) else (if 0 ≤ (x1).toInt ∧ (x1).toInt < ((4 : Nat) : Int) then (if ((μ 3 (x1).toNatClampNeg) - (1 : Int32)) ≤ x2 then some (.int (99 : Int32), (zm len μ ν)) else zbi (call 61 [.int x1, .int x2] (zm len μ ν)) (fun w' M' => zE zc_X5_mostOf call 30 [.ref 2, .int x1, .int x2] [.int w', .ref 4] M')) else none)) :=
  (zE_runc zg_X5_mostOf [6, 30] 2000 6 _ _ _).trans rfl
set_option maxRecDepth 50000 in
theorem B_X5_mostOf_30 (call : zC) (len : Nat) (μ : zMu) (ν : zNu) (x1 : Int32) (x2 : Int32) (xs0 : Int32) : zE zc_X5_mostOf call 30 [.ref 2, .int x1, .int x2] [.int xs0, .ref 4] (zm len μ ν) = (if 0 ≤ (xs0).toInt ∧ (xs0).toInt < ((24 : Nat) : Int) then some (.int ((μ 4 (xs0).toNatClampNeg) - (1 : Int32)), (zm len μ ν)) else none) :=
  (zE_runc zg_X5_mostOf [6, 30] 2000 30 _ _ _).trans rfl
set_option maxRecDepth 50000 in
theorem B_X5_countIn (d len : Nat) (μ : zMu) (ν : zNu) (a0 : Int32) (a1 : Int32) (a2 : Int32) : zF zT0 (d + 1) 71 [.ref 2, .int a0, .int a1, .int a2] (zm len μ ν) = (fun call => zbi (call 68 [.ref 2, .int a0, .int a2] (zm len μ ν)) (fun w' M' => zE zc_X5_countIn call 6 [.ref 2, .int a0, .int a1, .int a2, zU, zU, zU] [.int w'] M')) (zF zT0 d) :=
  (show _ = zE zc_X5_countIn (zF zT0 d) 0 [.ref 2, .int a0, .int a1, .int a2, zU, zU, zU] [] (zm len μ ν) from rfl).trans ((zE_runc zg_X5_countIn [6, 16, 34, 47, 64, 78] 2000 0 _ _ _).trans rfl)
set_option maxRecDepth 50000 in
theorem B_X5_countIn_6 (call : zC) (len : Nat) (μ : zMu) (ν : zNu) (x1 : Int32) (x2 : Int32) (x3 : Int32) (v4 : Value) (v5 : Value) (v6 : Value) (xs0 : Int32) : zE zc_X5_countIn call 6 [.ref 2, .int x1, .int x2, .int x3, v4, v5, v6] [.int xs0] (zm len μ ν) = (if xs0 = 0 then some (.int (-1 : Int32), (zm len μ ν)) else zbi (call 175 [.int x2, .int (0 : Int32), .int (9999999 : Int32)] (zm len μ ν)) (fun w' M' => zE zc_X5_countIn call 16 [.ref 2, .int x1, .int x2, .int x3, v4, v5, v6] [.int w'] M')) :=
  (zE_runc zg_X5_countIn [6, 16, 34, 47, 64, 78] 2000 6 _ _ _).trans rfl
set_option maxRecDepth 50000 in
theorem B_X5_countIn_16 (call : zC) (len : Nat) (μ : zMu) (ν : zNu) (x1 : Int32) (x2 : Int32) (x3 : Int32) (v4 : Value) (v5 : Value) (v6 : Value) (xs0 : Int32) : zE zc_X5_countIn call 16 [.ref 2, .int x1, .int x2, .int x3, v4, v5, v6] [.int xs0] (zm len μ ν) = (if xs0 = 0 then some (.int (-1 : Int32), (zm len μ ν)) else (if 0 ≤ (x1).toInt ∧ (x1).toInt < ((4 : Nat) : Int) then zE zc_X5_countIn call 34 [.ref 2, .int x1, .int x2, .int x3, .int x2, .int ((μ 3 (x1).toNatClampNeg) - (1 : Int32)), v6] [] (zm len μ ν) else none)) :=
  (zE_runc zg_X5_countIn [6, 16, 34, 47, 64, 78] 2000 16 _ _ _).trans rfl
set_option maxRecDepth 50000 in
theorem B_X5_countIn_34 (call : zC) (len : Nat) (μ : zMu) (ν : zNu) (x1 : Int32) (x2 : Int32) (x3 : Int32) (x4 : Int32) (x5 : Int32) (v6 : Value) : zE zc_X5_countIn call 34 [.ref 2, .int x1, .int x2, .int x3, .int x4, .int x5, v6] [] (zm len μ ν) = (if x5 ≤ x3 then zbi (call 69 [.ref 2, .int x1, .int x3] (zm len μ ν)) (fun w' M' => zE zc_X5_countIn call 78 [.ref 2, .int x1, .int x2, .int x3, .int x4, .int x5, v6] [.int w'] M') else zbi (call 69 [.ref 2, .int x1, .int x5] (zm len μ ν)) (fun w' M' => zE zc_X5_countIn call 47 [.ref 2, .int x1, .int x2, .int x3, .int x4, .int x5, v6] [.int w'] M')) :=
  (zE_runc zg_X5_countIn [6, 16, 34, 47, 64, 78] 2000 34 _ _ _).trans rfl
set_option maxRecDepth 50000 in
theorem B_X5_countIn_47 (call : zC) (len : Nat) (μ : zMu) (ν : zNu) (x1 : Int32) (x2 : Int32) (x3 : Int32) (x4 : Int32) (x5 : Int32) (v6 : Value) (xs0 : Int32) : zE zc_X5_countIn call 47 [.ref 2, .int x1, .int x2, .int x3, .int x4, .int x5, v6] [.int xs0] (zm len μ ν) = (if xs0 ≤ 0 then zE zc_X5_countIn call 64 [.ref 2, .int x1, .int x2, .int x3, .int x4, .int x5, .int xs0] [.int x4] (zm len μ ν) else (if xs0 = 0 then none else zE zc_X5_countIn call 64 [.ref 2, .int x1, .int x2, .int x3, .int x4, .int x5, .int xs0] [.int (x4 - x4 / xs0 * xs0)] (zm len μ ν))) :=
  (zE_runc zg_X5_countIn [6, 16, 34, 47, 64, 78] 2000 47 _ _ _).trans rfl
set_option maxRecDepth 50000 in
theorem B_X5_countIn_64 (call : zC) (len : Nat) (μ : zMu) (ν : zNu) (x1 : Int32) (x2 : Int32) (x3 : Int32) (x4 : Int32) (x5 : Int32) (x6 : Int32) (xs0 : Int32) : zE zc_X5_countIn call 64 [.ref 2, .int x1, .int x2, .int x3, .int x4, .int x5, .int x6] [.int xs0] (zm len μ ν) = zE zc_X5_countIn call 34 [.ref 2, .int x1, .int x2, .int x3, .int xs0, .int (x5 + (-1 : Int32)), .int x6] [] (zm len μ ν) :=
  (zE_runc zg_X5_countIn [6, 16, 34, 47, 64, 78] 2000 64 _ _ _).trans rfl
set_option maxRecDepth 50000 in
theorem B_X5_countIn_78 (call : zC) (len : Nat) (μ : zMu) (ν : zNu) (x1 : Int32) (x2 : Int32) (x3 : Int32) (x4 : Int32) (x5 : Int32) (v6 : Value) (xs0 : Int32) : zE zc_X5_countIn call 78 [.ref 2, .int x1, .int x2, .int x3, .int x4, .int x5, v6] [.int xs0] (zm len μ ν) = (if xs0 ≤ 0 then some (.int (-1 : Int32), (zm len μ ν)) else (if xs0 = 0 then none else some (.int (x4 / xs0), (zm len μ ν)))) :=
  (zE_runc zg_X5_countIn [6, 16, 34, 47, 64, 78] 2000 78 _ _ _).trans rfl
set_option maxRecDepth 50000 in
theorem B_X6_has (d len : Nat) (μ : zMu) (ν : zNu) (a0 : Int32) : zF zT0 (d + 1) 73 [.ref 67, .int a0] (zm len μ ν) = (fun call => zbi (call 175 [.int a0, .int (0 : Int32), .int ((μ 67 1) - (1 : Int32))] (zm len μ ν)) (fun w' M' => zE zc_X6_has call 11 [.ref 67, .int a0] [.int w'] M')) (zF zT0 d) :=
  (show _ = zE zc_X6_has (zF zT0 d) 0 [.ref 67, .int a0] [] (zm len μ ν) from rfl).trans ((zE_runc zg_X6_has [11] 2000 0 _ _ _).trans rfl)
set_option maxRecDepth 50000 in
theorem B_X6_has_11 (call : zC) (len : Nat) (μ : zMu) (ν : zNu) (x1 : Int32) (xs0 : Int32) : zE zc_X6_has call 11 [.ref 67, .int x1] [.int xs0] (zm len μ ν) = (if xs0 = 0 ∨ xs0 = 1 then some (.int xs0, (zm len μ ν)) else none) :=
  (zE_runc zg_X6_has [11] 2000 11 _ _ _).trans rfl
set_option maxRecDepth 50000 in
theorem B_X6_size (d len : Nat) (μ : zMu) (ν : zNu)  : zF zT0 (d + 1) 74 [.ref 67] (zm len μ ν) = (fun call => some (.int (μ 67 1), (zm len μ ν))) (zF zT0 d) :=
  (show _ = zE zc_X6_size (zF zT0 d) 0 [.ref 67] [] (zm len μ ν) from rfl).trans ((zE_runc zg_X6_size [] 2000 0 _ _ _).trans rfl)
set_option maxRecDepth 50000 in
theorem B_X6_allShort (d len : Nat) (μ : zMu) (ν : zNu)  : zF zT0 (d + 1) 75 [.ref 67] (zm len μ ν) = (fun call => some (.long (ν 67 7), (zm len μ ν))) (zF zT0 d) :=
  (show _ = zE zc_X6_allShort (zF zT0 d) 0 [.ref 67] [] (zm len μ ν) from rfl).trans ((zE_runc zg_X6_allShort [] 2000 0 _ _ _).trans rfl)
set_option maxRecDepth 50000 in
theorem B_X6_inStore (d len : Nat) (μ : zMu) (ν : zNu) (a0 : Int32) : zF zT0 (d + 1) 76 [.ref 67, .int a0] (zm len μ ν) = (fun call => zbi (call 176 [.int a0] (zm len μ ν)) (fun w' M' => zE zc_X6_inStore call 4 [.ref 67, .int a0] [.int w'] M')) (zF zT0 d) :=
  (show _ = zE zc_X6_inStore (zF zT0 d) 0 [.ref 67, .int a0] [] (zm len μ ν) from rfl).trans ((zE_runc zg_X6_inStore [4] 2000 0 _ _ _).trans rfl)
set_option maxRecDepth 50000 in
theorem B_X6_inStore_4 (call : zC) (len : Nat) (μ : zMu) (ν : zNu) (x1 : Int32) (xs0 : Int32) : zE zc_X6_inStore call 4 [.ref 67, .int x1] [.int xs0] (zm len μ ν) = (if xs0 = 0 then some (.int (-1 : Int32), (zm len μ ν)) else (if 0 ≤ (x1).toInt ∧ (x1).toInt < ((8 : Nat) : Int) then some (.int (μ 72 (x1).toNatClampNeg), (zm len μ ν)) else none)) :=
  (zE_runc zg_X6_inStore [4] 2000 4 _ _ _).trans rfl
set_option maxRecDepth 50000 in
theorem B_X6_add (d len : Nat) (μ : zMu) (ν : zNu) (a0 : Int32) (a1 : Int32) (a2 : Int32) : zF zT0 (d + 1) 77 [.ref 67, .int a0, .int a1, .int a2] (zm len μ ν) = (fun call => (if (32 : Int32) ≤ (μ 67 1) then some (.int (-1 : Int32), (zm len μ ν)) else zbi (call 175 [.int a0, .int (0 : Int32), .int (3 : Int32)] (zm len μ ν)) (fun w' M' => zE zc_X6_add call 15 [.ref 67, .int a0, .int a1, .int a2] [.int w'] M'))) (zF zT0 d) :=
  (show _ = zE zc_X6_add (zF zT0 d) 0 [.ref 67, .int a0, .int a1, .int a2] [] (zm len μ ν) from rfl).trans ((zE_runc zg_X6_add [15, 25, 40, 45, 60] 2000 0 _ _ _).trans rfl)
set_option maxRecDepth 50000 in
theorem B_X6_add_15 (call : zC) (len : Nat) (μ : zMu) (ν : zNu) (x1 : Int32) (x2 : Int32) (x3 : Int32) (xs0 : Int32) : zE zc_X6_add call 15 [.ref 67, .int x1, .int x2, .int x3] [.int xs0] (zm len μ ν) = (if xs0 = 0 then some (.int (-1 : Int32), (zm len μ ν)) else zbi (call 175 [.int x2, .int (0 : Int32), .int (99 : Int32)] (zm len μ ν)) (fun w' M' => zE zc_X6_add call 25 [.ref 67, .int x1, .int x2, .int x3] [.int w'] M')) :=
  (zE_runc zg_X6_add [15, 25, 40, 45, 60] 2000 15 _ _ _).trans rfl
set_option maxRecDepth 50000 in
theorem B_X6_add_25 (call : zC) (len : Nat) (μ : zMu) (ν : zNu) (x1 : Int32) (x2 : Int32) (x3 : Int32) (xs0 : Int32) : zE zc_X6_add call 25 [.ref 67, .int x1, .int x2, .int x3] [.int xs0] (zm len μ ν) = (if xs0 = 0 then some (.int (-1 : Int32), (zm len μ ν)) else (if x3 = (-1 : Int32) then zE zc_X6_add call 45 [.ref 67, .int x1, .int x2, .int x3] [] (zm len μ ν) else zbi (call 73 [.ref 67, .int x3] (zm len μ ν)) (fun w' M' => zE zc_X6_add call 40 [.ref 67, .int x1, .int x2, .int x3] [.int w'] M'))) :=
  (zE_runc zg_X6_add [15, 25, 40, 45, 60] 2000 25 _ _ _).trans rfl
set_option maxRecDepth 50000 in
theorem B_X6_add_40 (call : zC) (len : Nat) (μ : zMu) (ν : zNu) (x1 : Int32) (x2 : Int32) (x3 : Int32) (xs0 : Int32) : zE zc_X6_add call 40 [.ref 67, .int x1, .int x2, .int x3] [.int xs0] (zm len μ ν) = (if xs0 = 0 then some (.int (-1 : Int32), (zm len μ ν)) else zE zc_X6_add call 45 [.ref 67, .int x1, .int x2, .int x3] [] (zm len μ ν)) :=
  (zE_runc zg_X6_add [15, 25, 40, 45, 60] 2000 40 _ _ _).trans rfl
set_option maxRecDepth 50000 in
theorem B_X6_add_45 (call : zC) (len : Nat) (μ : zMu) (ν : zNu) (x1 : Int32) (x2 : Int32) (x3 : Int32) : zE zc_X6_add call 45 [.ref 67, .int x1, .int x2, .int x3] [] (zm len μ ν) = (if x3 = (-1 : Int32) then zE zc_X6_add call 60 [.ref 67, .int x1, .int x2, .int x3] [] (zm len μ ν) else (if 0 ≤ (x3).toInt ∧ (x3).toInt < ((32 : Nat) : Int) then (if 0 ≤ (x3).toInt ∧ (x3).toInt < ((32 : Nat) : Int) then zE zc_X6_add call 60 [.ref 67, .int x1, .int x2, .int x3] [] (zm len (zup μ 71 (x3).toNatClampNeg ((μ 71 (x3).toNatClampNeg) + (1 : Int32))) ν) else none) else none)) :=
  (zE_runc zg_X6_add [15, 25, 40, 45, 60] 2000 45 _ _ _).trans rfl
set_option maxRecDepth 50000 in
theorem B_X6_add_60 (call : zC) (len : Nat) (μ : zMu) (ν : zNu) (x1 : Int32) (x2 : Int32) (x3 : Int32) : zE zc_X6_add call 60 [.ref 67, .int x1, .int x2, .int x3] [] (zm len μ ν) = (if 0 ≤ ((μ 67 1)).toInt ∧ ((μ 67 1)).toInt < ((32 : Nat) : Int) then (if 0 ≤ ((μ 67 1)).toInt ∧ ((μ 67 1)).toInt < ((32 : Nat) : Int) then some (.int (((μ 67 1) + (1 : Int32)) - (1 : Int32)), (zm len (zup (zup (zup μ 68 ((μ 67 1)).toNatClampNeg x1) 69 ((μ 67 1)).toNatClampNeg x2) 67 1 ((μ 67 1) + (1 : Int32))) ν)) else none) else none) :=
  (zE_runc zg_X6_add [15, 25, 40, 45, 60] 2000 60 _ _ _).trans rfl
set_option maxRecDepth 50000 in
theorem B_X6_setDays (d len : Nat) (μ : zMu) (ν : zNu) (a0 : Int32) (a1 : Int32) : zF zT0 (d + 1) 78 [.ref 67, .int a0, .int a1] (zm len μ ν) = (fun call => zbi (call 73 [.ref 67, .int a0] (zm len μ ν)) (fun w' M' => zE zc_X6_setDays call 5 [.ref 67, .int a0, .int a1] [.int w'] M')) (zF zT0 d) :=
  (show _ = zE zc_X6_setDays (zF zT0 d) 0 [.ref 67, .int a0, .int a1] [] (zm len μ ν) from rfl).trans ((zE_runc zg_X6_setDays [5, 15] 2000 0 _ _ _).trans rfl)
set_option maxRecDepth 50000 in
theorem B_X6_setDays_5 (call : zC) (len : Nat) (μ : zMu) (ν : zNu) (x1 : Int32) (x2 : Int32) (xs0 : Int32) : zE zc_X6_setDays call 5 [.ref 67, .int x1, .int x2] [.int xs0] (zm len μ ν) = (if xs0 = 0 then some (.int (0 : Int32), (zm len μ ν)) else zbi (call 175 [.int x2, .int (0 : Int32), .int (30 : Int32)] (zm len μ ν)) (fun w' M' => zE zc_X6_setDays call 15 [.ref 67, .int x1, .int x2] [.int w'] M')) :=
  (zE_runc zg_X6_setDays [5, 15] 2000 5 _ _ _).trans rfl
set_option maxRecDepth 50000 in
theorem B_X6_setDays_15 (call : zC) (len : Nat) (μ : zMu) (ν : zNu) (x1 : Int32) (x2 : Int32) (xs0 : Int32) : zE zc_X6_setDays call 15 [.ref 67, .int x1, .int x2] [.int xs0] (zm len μ ν) = (if xs0 = 0 then some (.int (0 : Int32), (zm len μ ν)) else (if 0 ≤ (x1).toInt ∧ (x1).toInt < ((32 : Nat) : Int) then some (.int (1 : Int32), (zm len (zup μ 70 (x1).toNatClampNeg x2) ν)) else none)) :=
  (zE_runc zg_X6_setDays [5, 15] 2000 15 _ _ _).trans rfl
set_option maxRecDepth 50000 in
theorem B_X6_putInStore (d len : Nat) (μ : zMu) (ν : zNu) (a0 : Int32) (a1 : Int32) : zF zT0 (d + 1) 79 [.ref 67, .int a0, .int a1] (zm len μ ν) = (fun call => zbi (call 176 [.int a0] (zm len μ ν)) (fun w' M' => zE zc_X6_putInStore call 4 [.ref 67, .int a0, .int a1] [.int w'] M')) (zF zT0 d) :=
  (show _ = zE zc_X6_putInStore (zF zT0 d) 0 [.ref 67, .int a0, .int a1] [] (zm len μ ν) from rfl).trans ((zE_runc zg_X6_putInStore [4, 21] 2000 0 _ _ _).trans rfl)
set_option maxRecDepth 50000 in
theorem B_X6_putInStore_4 (call : zC) (len : Nat) (μ : zMu) (ν : zNu) (x1 : Int32) (x2 : Int32) (xs0 : Int32) : zE zc_X6_putInStore call 4 [.ref 67, .int x1, .int x2] [.int xs0] (zm len μ ν) = (if xs0 = 0 then some (.int (-1 : Int32), (zm len μ ν)) else (if 0 ≤ (x1).toInt ∧ (x1).toInt < ((8 : Nat) : Int) then zbi (call 175 [.int x2, .int (0 : Int32), .int ((9999999 : Int32) - (μ 72 (x1).toNatClampNeg))] (zm len μ ν)) (fun w' M' => zE zc_X6_putInStore call 21 [.ref 67, .int x1, .int x2] [.int w'] M') else none)) :=
  (zE_runc zg_X6_putInStore [4, 21] 2000 4 _ _ _).trans rfl
set_option maxRecDepth 50000 in
theorem B_X6_putInStore_21 (call : zC) (len : Nat) (μ : zMu) (ν : zNu) (x1 : Int32) (x2 : Int32) (xs0 : Int32) : zE zc_X6_putInStore call 21 [.ref 67, .int x1, .int x2] [.int xs0] (zm len μ ν) = (if xs0 = 0 then some (.int (-1 : Int32), (zm len μ ν)) else (if 0 ≤ (x1).toInt ∧ (x1).toInt < ((8 : Nat) : Int) then (if 0 ≤ (x1).toInt ∧ (x1).toInt < ((8 : Nat) : Int) then (if 0 ≤ (x1).toInt ∧ (x1).toInt < ((8 : Nat) : Int) then some (.int ((upd (μ 72) (x1).toNatClampNeg ((μ 72 (x1).toNatClampNeg) + x2)) (x1).toNatClampNeg), (zm len (zup μ 72 (x1).toNatClampNeg ((μ 72 (x1).toNatClampNeg) + x2)) ν)) else none) else none) else none)) :=
  (zE_runc zg_X6_putInStore [4, 21] 2000 21 _ _ _).trans rfl
set_option maxRecDepth 50000 in
theorem B_X6_runMonth (d len : Nat) (μ : zMu) (ν : zNu) (a0 : Int32) : zF zT0 (d + 1) 80 [.ref 67, .int a0] (zm len μ ν) = (fun call => zbi (call 175 [.int a0, .int (0 : Int32), .int (11 : Int32)] (zm len μ ν)) (fun w' M' => zE zc_X6_runMonth call 7 [.ref 67, .int a0, zU, zU, zU, zU, zU, zU] [.int w'] M')) (zF zT0 d) :=
  (show _ = zE zc_X6_runMonth (zF zT0 d) 0 [.ref 67, .int a0, zU, zU, zU, zU, zU, zU] [] (zm len μ ν) from rfl).trans ((zE_runc zg_X6_runMonth [7, 16, 30, 33, 42, 58, 69, 119] 2000 0 _ _ _).trans rfl)
set_option maxRecDepth 50000 in
theorem B_X6_runMonth_7 (call : zC) (len : Nat) (μ : zMu) (ν : zNu) (x1 : Int32) (v2 : Value) (v3 : Value) (v4 : Value) (v5 : Value) (v6 : Value) (v7 : Value) (xs0 : Int32) : zE zc_X6_runMonth call 7 [.ref 67, .int x1, v2, v3, v4, v5, v6, v7] [.int xs0] (zm len μ ν) = (if xs0 = 0 then some (.int (-1 : Int32), (zm len μ ν)) else zE zc_X6_runMonth call 16 [.ref 67, .int x1, .int (0 : Int32), .int (0 : Int32), v4, v5, v6, v7] [] (zm len μ ν)) :=
  (zE_runc zg_X6_runMonth [7, 16, 30, 33, 42, 58, 69, 119] 2000 7 _ _ _).trans rfl
set_option maxRecDepth 50000 in
theorem B_X6_runMonth_16 (call : zC) (len : Nat) (μ : zMu) (ν : zNu) (x1 : Int32) (x2 : Int32) (x3 : Int32) (v4 : Value) (v5 : Value) (v6 : Value) (v7 : Value) : zE zc_X6_runMonth call 16 [.ref 67, .int x1, .int x2, .int x3, v4, v5, v6, v7] [] (zm len μ ν) = (if (μ 67 1) ≤ x3 then zE zc_X6_runMonth call 119 [.ref 67, .int x1, .int x2, .int (0 : Int32), v4, v5, v6, v7] [] (zm len μ ν) else zbv (call 82 [.ref 67, .int x3, .int x1] (zm len μ ν)) (fun M' => zE zc_X6_runMonth call 30 [.ref 67, .int x1, .int x2, .int x3, v4, v5, v6, v7] [] M')) :=
  (zE_runc zg_X6_runMonth [7, 16, 30, 33, 42, 58, 69, 119] 2000 16 _ _ _).trans rfl
set_option maxRecDepth 50000 in
theorem B_X6_runMonth_30 (call : zC) (len : Nat) (μ : zMu) (ν : zNu) (x1 : Int32) (x2 : Int32) (x3 : Int32) (v4 : Value) (v5 : Value) (v6 : Value) (v7 : Value) : zE zc_X6_runMonth call 30 [.ref 67, .int x1, .int x2, .int x3, v4, v5, v6, v7] [] (zm len μ ν) = zE zc_X6_runMonth call 33 [.ref 67, .int x1, .int x2, .int x3, .int (0 : Int32), v5, v6, v7] [] (zm len μ ν) :=
  (zE_runc zg_X6_runMonth [7, 16, 30, 33, 42, 58, 69, 119] 2000 30 _ _ _).trans rfl
set_option maxRecDepth 50000 in
theorem B_X6_runMonth_33 (call : zC) (len : Nat) (μ : zMu) (ν : zNu) (x1 : Int32) (x2 : Int32) (x3 : Int32) (x4 : Int32) (v5 : Value) (v6 : Value) (v7 : Value) : zE zc_X6_runMonth call 33 [.ref 67, .int x1, .int x2, .int x3, .int x4, v5, v6, v7] [] (zm len μ ν) = zbi (call 84 [.ref 57] (zm len μ ν)) (fun w' M' => zE zc_X6_runMonth call 42 [.ref 67, .int x1, .int x2, .int x3, .int x4, v5, v6, v7] [.int w', .int x4] M') :=
  (zE_runc zg_X6_runMonth [7, 16, 30, 33, 42, 58, 69, 119] 2000 33 _ _ _).trans rfl
set_option maxRecDepth 50000 in
theorem B_X6_runMonth_42 (call : zC) (len : Nat) (μ : zMu) (ν : zNu) (x1 : Int32) (x2 : Int32) (x3 : Int32) (x4 : Int32) (v5 : Value) (v6 : Value) (v7 : Value) (xs0 : Int32) (xs1 : Int32) : zE zc_X6_runMonth call 42 [.ref 67, .int x1, .int x2, .int x3, .int x4, v5, v6, v7] [.int xs0, .int xs1] (zm len μ ν) = (if xs0 ≤ xs1 then zE zc_X6_runMonth call 16 [.ref 67, .int x1, .int x2, .int (x3 + (1 : Int32)), .int x4, v5, v6, v7] [] (zm len μ ν) else zbi (call 94 [.ref 57, .int x4, .ref 73] (zm len μ ν)) (fun w' M' => zE zc_X6_runMonth call 58 [.ref 67, .int x1, .int x2, .int x3, .int x4, v5, v6, v7] [.int w'] M')) :=
  (zE_runc zg_X6_runMonth [7, 16, 30, 33, 42, 58, 69, 119] 2000 42 _ _ _).trans rfl
set_option maxRecDepth 50000 in
theorem B_X6_runMonth_58 (call : zC) (len : Nat) (μ : zMu) (ν : zNu) (x1 : Int32) (x2 : Int32) (x3 : Int32) (x4 : Int32) (v5 : Value) (v6 : Value) (v7 : Value) (xs0 : Int32) : zE zc_X6_runMonth call 58 [.ref 67, .int x1, .int x2, .int x3, .int x4, v5, v6, v7] [.int xs0] (zm len μ ν) = zbi (call 85 [.ref 57, .int x4] (zm len μ ν)) (fun w' M' => zE zc_X6_runMonth call 69 [.ref 67, .int x1, .int x2, .int x3, .int x4, .int xs0, v6, v7] [.int w'] M') :=
  (zE_runc zg_X6_runMonth [7, 16, 30, 33, 42, 58, 69, 119] 2000 58 _ _ _).trans rfl
set_option maxRecDepth 50000 in
theorem B_X6_runMonth_69 (call : zC) (len : Nat) (μ : zMu) (ν : zNu) (x1 : Int32) (x2 : Int32) (x3 : Int32) (x4 : Int32) (x5 : Int32) (v6 : Value) (v7 : Value) (xs0 : Int32) : zE zc_X6_runMonth call 69 [.ref 67, .int x1, .int x2, .int x3, .int x4, .int x5, v6, v7] [.int xs0] (zm len μ ν) = (if 0 ≤ (xs0).toInt ∧ (xs0).toInt < ((8 : Nat) : Int) then (if 0 ≤ (xs0).toInt ∧ (xs0).toInt < ((8 : Nat) : Int) then (if 0 ≤ (xs0).toInt ∧ (xs0).toInt < ((8 : Nat) : Int) then zE zc_X6_runMonth call 33 [.ref 67, .int x1, .int (x2 + (x5 - (if (μ 72 (xs0).toNatClampNeg) < x5 then (μ 72 (xs0).toNatClampNeg) else x5))), .int x3, .int (x4 + (1 : Int32)), .int x5, .int xs0, .int (if (μ 72 (xs0).toNatClampNeg) < x5 then (μ 72 (xs0).toNatClampNeg) else x5)] [] (zm len (zup μ 72 (xs0).toNatClampNeg ((μ 72 (xs0).toNatClampNeg) - (if (μ 72 (xs0).toNatClampNeg) < x5 then (μ 72 (xs0).toNatClampNeg) else x5))) ν) else none) else none) else none) :=
  (zE_runc zg_X6_runMonth [7, 16, 30, 33, 42, 58, 69, 119] 2000 69 _ _ _).trans rfl
set_option maxRecDepth 50000 in
theorem B_X6_runMonth_119 (call : zC) (len : Nat) (μ : zMu) (ν : zNu) (x1 : Int32) (x2 : Int32) (x3 : Int32) (v4 : Value) (v5 : Value) (v6 : Value) (v7 : Value) : zE zc_X6_runMonth call 119 [.ref 67, .int x1, .int x2, .int x3, v4, v5, v6, v7] [] (zm len μ ν) = (if (μ 67 1) ≤ x3 then some (.int x2, (zm len μ (zupl ν 67 7 ((ν 67 7) + (x2).toInt64)))) else (if 0 ≤ (x3).toInt ∧ (x3).toInt < ((32 : Nat) : Int) then zE zc_X6_runMonth call 119 [.ref 67, .int x1, .int x2, .int (x3 + (1 : Int32)), v4, v5, v6, v7] [] (zm len (zup μ 70 (x3).toNatClampNeg (0 : Int32)) ν) else none)) :=
  (zE_runc zg_X6_runMonth [7, 16, 30, 33, 42, 58, 69, 119] 2000 119 _ _ _).trans rfl
set_option maxRecDepth 50000 in
theorem B_X6_rationOf (d len : Nat) (μ : zMu) (ν : zNu) (a0 : Int32) (a1 : Int32) (a2 : Int32) : zF zT0 (d + 1) 81 [.ref 67, .int a0, .int a1, .int a2] (zm len μ ν) = (fun call => zbi (call 73 [.ref 67, .int a0] (zm len μ ν)) (fun w' M' => zE zc_X6_rationOf call 5 [.ref 67, .int a0, .int a1, .int a2, zU, zU] [.int w'] M')) (zF zT0 d) :=
  (show _ = zE zc_X6_rationOf (zF zT0 d) 0 [.ref 67, .int a0, .int a1, .int a2, zU, zU] [] (zm len μ ν) from rfl).trans ((zE_runc zg_X6_rationOf [5, 12, 22, 33, 39, 48, 62, 79, 83] 2000 0 _ _ _).trans rfl)
set_option maxRecDepth 50000 in
theorem B_X6_rationOf_5 (call : zC) (len : Nat) (μ : zMu) (ν : zNu) (x1 : Int32) (x2 : Int32) (x3 : Int32) (v4 : Value) (v5 : Value) (xs0 : Int32) : zE zc_X6_rationOf call 5 [.ref 67, .int x1, .int x2, .int x3, v4, v5] [.int xs0] (zm len μ ν) = (if xs0 = 0 then some (.int (-1 : Int32), (zm len μ ν)) else zbi (call 176 [.int x2] (zm len μ ν)) (fun w' M' => zE zc_X6_rationOf call 12 [.ref 67, .int x1, .int x2, .int x3, v4, v5] [.int w'] M')) :=
  (zE_runc zg_X6_rationOf [5, 12, 22, 33, 39, 48, 62, 79, 83] 2000 5 _ _ _).trans rfl
set_option maxRecDepth 50000 in
theorem B_X6_rationOf_12 (call : zC) (len : Nat) (μ : zMu) (ν : zNu) (x1 : Int32) (x2 : Int32) (x3 : Int32) (v4 : Value) (v5 : Value) (xs0 : Int32) : zE zc_X6_rationOf call 12 [.ref 67, .int x1, .int x2, .int x3, v4, v5] [.int xs0] (zm len μ ν) = (if xs0 = 0 then some (.int (-1 : Int32), (zm len μ ν)) else zbi (call 175 [.int x3, .int (0 : Int32), .int (11 : Int32)] (zm len μ ν)) (fun w' M' => zE zc_X6_rationOf call 22 [.ref 67, .int x1, .int x2, .int x3, v4, v5] [.int w'] M')) :=
  (zE_runc zg_X6_rationOf [5, 12, 22, 33, 39, 48, 62, 79, 83] 2000 12 _ _ _).trans rfl
set_option maxRecDepth 50000 in
theorem B_X6_rationOf_22 (call : zC) (len : Nat) (μ : zMu) (ν : zNu) (x1 : Int32) (x2 : Int32) (x3 : Int32) (v4 : Value) (v5 : Value) (xs0 : Int32) : zE zc_X6_rationOf call 22 [.ref 67, .int x1, .int x2, .int x3, v4, v5] [.int xs0] (zm len μ ν) = (if xs0 = 0 then some (.int (-1 : Int32), (zm len μ ν)) else zbv (call 82 [.ref 67, .int x1, .int x3] (zm len μ ν)) (fun M' => zE zc_X6_rationOf call 33 [.ref 67, .int x1, .int x2, .int x3, v4, v5] [] M')) :=
  (zE_runc zg_X6_rationOf [5, 12, 22, 33, 39, 48, 62, 79, 83] 2000 22 _ _ _).trans rfl
set_option maxRecDepth 50000 in
theorem B_X6_rationOf_33 (call : zC) (len : Nat) (μ : zMu) (ν : zNu) (x1 : Int32) (x2 : Int32) (x3 : Int32) (v4 : Value) (v5 : Value) : zE zc_X6_rationOf call 33 [.ref 67, .int x1, .int x2, .int x3, v4, v5] [] (zm len μ ν) = zE zc_X6_rationOf call 39 [.ref 67, .int x1, .int x2, .int x3, .int (0 : Int32), .int (0 : Int32)] [] (zm len μ ν) :=
  (zE_runc zg_X6_rationOf [5, 12, 22, 33, 39, 48, 62, 79, 83] 2000 33 _ _ _).trans rfl
set_option maxRecDepth 50000 in
theorem B_X6_rationOf_39 (call : zC) (len : Nat) (μ : zMu) (ν : zNu) (x1 : Int32) (x2 : Int32) (x3 : Int32) (x4 : Int32) (x5 : Int32) : zE zc_X6_rationOf call 39 [.ref 67, .int x1, .int x2, .int x3, .int x4, .int x5] [] (zm len μ ν) = zbi (call 84 [.ref 57] (zm len μ ν)) (fun w' M' => zE zc_X6_rationOf call 48 [.ref 67, .int x1, .int x2, .int x3, .int x4, .int x5] [.int w', .int x5] M') :=
  (zE_runc zg_X6_rationOf [5, 12, 22, 33, 39, 48, 62, 79, 83] 2000 39 _ _ _).trans rfl
set_option maxRecDepth 50000 in
theorem B_X6_rationOf_48 (call : zC) (len : Nat) (μ : zMu) (ν : zNu) (x1 : Int32) (x2 : Int32) (x3 : Int32) (x4 : Int32) (x5 : Int32) (xs0 : Int32) (xs1 : Int32) : zE zc_X6_rationOf call 48 [.ref 67, .int x1, .int x2, .int x3, .int x4, .int x5] [.int xs0, .int xs1] (zm len μ ν) = (if xs0 ≤ xs1 then some (.int x4, (zm len μ ν)) else zbi (call 85 [.ref 57, .int x5] (zm len μ ν)) (fun w' M' => zE zc_X6_rationOf call 62 [.ref 67, .int x1, .int x2, .int x3, .int x4, .int x5] [.int w', .int x4] M')) :=
  (zE_runc zg_X6_rationOf [5, 12, 22, 33, 39, 48, 62, 79, 83] 2000 48 _ _ _).trans rfl
set_option maxRecDepth 50000 in
theorem B_X6_rationOf_62 (call : zC) (len : Nat) (μ : zMu) (ν : zNu) (x1 : Int32) (x2 : Int32) (x3 : Int32) (x4 : Int32) (x5 : Int32) (xs0 : Int32) (xs1 : Int32) : zE zc_X6_rationOf call 62 [.ref 67, .int x1, .int x2, .int x3, .int x4, .int x5] [.int xs0, .int xs1] (zm len μ ν) = (if xs0 = x2 then zbi (call 94 [.ref 57, .int x5, .ref 73] (zm len μ ν)) (fun w' M' => zE zc_X6_rationOf call 79 [.ref 67, .int x1, .int x2, .int x3, .int x4, .int x5] [.int w', .int xs1] M') else zE zc_X6_rationOf call 83 [.ref 67, .int x1, .int x2, .int x3, .int x4, .int x5] [.int (0 : Int32), .int xs1] (zm len μ ν)) :=
  (zE_runc zg_X6_rationOf [5, 12, 22, 33, 39, 48, 62, 79, 83] 2000 62 _ _ _).trans rfl
set_option maxRecDepth 50000 in
theorem B_X6_rationOf_79 (call : zC) (len : Nat) (μ : zMu) (ν : zNu) (x1 : Int32) (x2 : Int32) (x3 : Int32) (x4 : Int32) (x5 : Int32) (xs0 : Int32) (xs1 : Int32) : zE zc_X6_rationOf call 79 [.ref 67, .int x1, .int x2, .int x3, .int x4, .int x5] [.int xs0, .int xs1] (zm len μ ν) = zE zc_X6_rationOf call 83 [.ref 67, .int x1, .int x2, .int x3, .int x4, .int x5] [.int xs0, .int xs1] (zm len μ ν) :=
  (zE_runc zg_X6_rationOf [5, 12, 22, 33, 39, 48, 62, 79, 83] 2000 79 _ _ _).trans rfl
set_option maxRecDepth 50000 in
theorem B_X6_rationOf_83 (call : zC) (len : Nat) (μ : zMu) (ν : zNu) (x1 : Int32) (x2 : Int32) (x3 : Int32) (x4 : Int32) (x5 : Int32) (xs0 : Int32) (xs1 : Int32) : zE zc_X6_rationOf call 83 [.ref 67, .int x1, .int x2, .int x3, .int x4, .int x5] [.int xs0, .int xs1] (zm len μ ν) = zE zc_X6_rationOf call 39 [.ref 67, .int x1, .int x2, .int x3, .int (xs1 + xs0), .int (x5 + (1 : Int32))] [] (zm len μ ν) :=
  (zE_runc zg_X6_rationOf [5, 12, 22, 33, 39, 48, 62, 79, 83] 2000 83 _ _ _).trans rfl
set_option maxRecDepth 50000 in
theorem B_X6_learnFacts (d len : Nat) (μ : zMu) (ν : zNu) (a0 : Int32) (a1 : Int32) : zF zT0 (d + 1) 82 [.ref 67, .int a0, .int a1] (zm len μ ν) = (fun call => (if 0 ≤ (a0).toInt ∧ (a0).toInt < ((32 : Nat) : Int) then (if 0 ≤ (a0).toInt ∧ (a0).toInt < ((32 : Nat) : Int) then (if 0 ≤ (a0).toInt ∧ (a0).toInt < ((32 : Nat) : Int) then (if 0 ≤ (a0).toInt ∧ (a0).toInt < ((32 : Nat) : Int) then some (.null, (zm len (zup (zup (zup (zup (zup μ 73 0 (μ 68 (a0).toNatClampNeg)) 73 1 (μ 69 (a0).toNatClampNeg)) 73 2 (μ 70 (a0).toNatClampNeg)) 73 3 (μ 71 (a0).toNatClampNeg)) 73 4 a1) ν)) else none) else none) else none) else none)) (zF zT0 d) :=
  (show _ = zE zc_X6_learnFacts (zF zT0 d) 0 [.ref 67, .int a0, .int a1] [] (zm len μ ν) from rfl).trans ((zE_runc zg_X6_learnFacts [] 2000 0 _ _ _).trans rfl)
set_option maxRecDepth 50000 in
theorem B_X7_lines (d len : Nat) (μ : zMu) (ν : zNu)  : zF zT0 (d + 1) 84 [.ref 57] (zm len μ ν) = (fun call => some (.int (μ 57 1), (zm len μ ν))) (zF zT0 d) :=
  (show _ = zE zc_X7_lines (zF zT0 d) 0 [.ref 57] [] (zm len μ ν) from rfl).trans ((zE_runc zg_X7_lines [] 2000 0 _ _ _).trans rfl)
set_option maxRecDepth 50000 in
theorem B_X7_goodOf (d len : Nat) (μ : zMu) (ν : zNu) (a0 : Int32) : zF zT0 (d + 1) 85 [.ref 57, .int a0] (zm len μ ν) = (fun call => zbi (call 175 [.int a0, .int (0 : Int32), .int ((μ 57 1) - (1 : Int32))] (zm len μ ν)) (fun w' M' => zE zc_X7_goodOf call 11 [.ref 57, .int a0] [.int w'] M')) (zF zT0 d) :=
  (show _ = zE zc_X7_goodOf (zF zT0 d) 0 [.ref 57, .int a0] [] (zm len μ ν) from rfl).trans ((zE_runc zg_X7_goodOf [11] 2000 0 _ _ _).trans rfl)
set_option maxRecDepth 50000 in
theorem B_X7_goodOf_11 (call : zC) (len : Nat) (μ : zMu) (ν : zNu) (x1 : Int32) (xs0 : Int32) : zE zc_X7_goodOf call 11 [.ref 57, .int x1] [.int xs0] (zm len μ ν) = (if xs0 = 0 then some (.int (0 : Int32), (zm len μ ν)) else (if 0 ≤ (x1).toInt ∧ (x1).toInt < ((16 : Nat) : Int) then some (.int (μ 59 (x1).toNatClampNeg), (zm len μ ν)) else none)) :=
  (zE_runc zg_X7_goodOf [11] 2000 11 _ _ _).trans rfl
set_option maxRecDepth 50000 in
theorem B_X7_read (d len : Nat) (μ : zMu) (ν : zNu)  : zF zT0 (d + 1) 86 [.ref 57] (zm len μ ν) = (fun call => zE zc_X7_read call 12 [.ref 57, .int (0 : Int32)] [] (zm len (zup (zup μ 57 6 (0 : Int32)) 57 7 (0 : Int32)) ν)) (zF zT0 d) :=
  (show _ = zE zc_X7_read (zF zT0 d) 0 [.ref 57, zU] [] (zm len μ ν) from rfl).trans ((zE_runc zg_X7_read [12, 25, 32, 43, 68, 85, 102, 119] 2000 0 _ _ _).trans rfl)
set_option maxRecDepth 50000 in
theorem B_X7_read_12 (call : zC) (len : Nat) (μ : zMu) (ν : zNu) (x1 : Int32) : zE zc_X7_read call 12 [.ref 57, .int x1] [] (zm len μ ν) = (if (16 : Int32) < x1 then zE zc_X7_read call 43 [.ref 57, .int x1] [] (zm len μ ν) else zbi (call 129 [.ref 6] (zm len μ ν)) (fun w' M' => zE zc_X7_read call 25 [.ref 57, .int x1] [.int w'] M')) :=
  (zE_runc zg_X7_read [12, 25, 32, 43, 68, 85, 102, 119] 2000 12 _ _ _).trans rfl
set_option maxRecDepth 50000 in
theorem B_X7_read_25 (call : zC) (len : Nat) (μ : zMu) (ν : zNu) (x1 : Int32) (xs0 : Int32) : zE zc_X7_read call 25 [.ref 57, .int x1] [.int xs0] (zm len μ ν) = (if xs0 = 0 then zE zc_X7_read call 43 [.ref 57, .int x1] [] (zm len μ ν) else zbi (call 87 [.ref 57] (zm len μ ν)) (fun w' M' => zE zc_X7_read call 32 [.ref 57, .int x1] [.int w'] M')) :=
  (zE_runc zg_X7_read [12, 25, 32, 43, 68, 85, 102, 119] 2000 25 _ _ _).trans rfl
set_option maxRecDepth 50000 in
theorem B_X7_read_32 (call : zC) (len : Nat) (μ : zMu) (ν : zNu) (x1 : Int32) (xs0 : Int32) : zE zc_X7_read call 32 [.ref 57, .int x1] [.int xs0] (zm len μ ν) = (if xs0 = 0 then some (.int (0 : Int32), (zm len μ ν)) else zE zc_X7_read call 12 [.ref 57, .int (x1 + (1 : Int32))] [] (zm len μ ν)) :=
  (zE_runc zg_X7_read [12, 25, 32, 43, 68, 85, 102, 119] 2000 32 _ _ _).trans rfl
set_option maxRecDepth 50000 in
theorem B_X7_read_43 (call : zC) (len : Nat) (μ : zMu) (ν : zNu) (x1 : Int32) : zE zc_X7_read call 43 [.ref 57, .int x1] [] (zm len μ ν) = (if (0 ≤ ((0 : Int32)).toInt ∧ 0 ≤ ((0 : Int32)).toInt ∧ 0 ≤ ((μ 57 7)).toInt) ∧ ((0 : Int32)).toInt + ((μ 57 7)).toInt ≤ ((800 : Nat) : Int) ∧ ((0 : Int32)).toInt + ((μ 57 7)).toInt ≤ ((800 : Nat) : Int) then zE zc_X7_read call 68 [.ref 57, .int x1] [] (zm len (fun a => if a = 58 then va_cpy ((zup μ 57 1 (μ 57 6)) 62) ((zup μ 57 1 (μ 57 6)) 58) 0 0 ((μ 57 7)).toNatClampNeg else (zup μ 57 1 (μ 57 6)) a) ν) else none) :=
  (zE_runc zg_X7_read [12, 25, 32, 43, 68, 85, 102, 119] 2000 43 _ _ _).trans rfl
set_option maxRecDepth 50000 in
theorem B_X7_read_68 (call : zC) (len : Nat) (μ : zMu) (ν : zNu) (x1 : Int32) : zE zc_X7_read call 68 [.ref 57, .int x1] [] (zm len μ ν) = (if (0 ≤ ((0 : Int32)).toInt ∧ 0 ≤ ((0 : Int32)).toInt ∧ 0 ≤ ((μ 57 1)).toInt) ∧ ((0 : Int32)).toInt + ((μ 57 1)).toInt ≤ ((16 : Nat) : Int) ∧ ((0 : Int32)).toInt + ((μ 57 1)).toInt ≤ ((16 : Nat) : Int) then zE zc_X7_read call 85 [.ref 57, .int x1] [] (zm len (fun a => if a = 59 then va_cpy (μ 63) (μ 59) 0 0 ((μ 57 1)).toNatClampNeg else μ a) ν) else none) :=
  (zE_runc zg_X7_read [12, 25, 32, 43, 68, 85, 102, 119] 2000 68 _ _ _).trans rfl
set_option maxRecDepth 50000 in
theorem B_X7_read_85 (call : zC) (len : Nat) (μ : zMu) (ν : zNu) (x1 : Int32) : zE zc_X7_read call 85 [.ref 57, .int x1] [] (zm len μ ν) = (if (0 ≤ ((0 : Int32)).toInt ∧ 0 ≤ ((0 : Int32)).toInt ∧ 0 ≤ ((μ 57 1)).toInt) ∧ ((0 : Int32)).toInt + ((μ 57 1)).toInt ≤ ((16 : Nat) : Int) ∧ ((0 : Int32)).toInt + ((μ 57 1)).toInt ≤ ((16 : Nat) : Int) then zE zc_X7_read call 102 [.ref 57, .int x1] [] (zm len (fun a => if a = 60 then va_cpy (μ 64) (μ 60) 0 0 ((μ 57 1)).toNatClampNeg else μ a) ν) else none) :=
  (zE_runc zg_X7_read [12, 25, 32, 43, 68, 85, 102, 119] 2000 85 _ _ _).trans rfl
set_option maxRecDepth 50000 in
theorem B_X7_read_102 (call : zC) (len : Nat) (μ : zMu) (ν : zNu) (x1 : Int32) : zE zc_X7_read call 102 [.ref 57, .int x1] [] (zm len μ ν) = (if (0 ≤ ((0 : Int32)).toInt ∧ 0 ≤ ((0 : Int32)).toInt ∧ 0 ≤ ((μ 57 1)).toInt) ∧ ((0 : Int32)).toInt + ((μ 57 1)).toInt ≤ ((16 : Nat) : Int) ∧ ((0 : Int32)).toInt + ((μ 57 1)).toInt ≤ ((16 : Nat) : Int) then zE zc_X7_read call 119 [.ref 57, .int x1] [] (zm len (fun a => if a = 61 then va_cpy (μ 65) (μ 61) 0 0 ((μ 57 1)).toNatClampNeg else μ a) ν) else none) :=
  (zE_runc zg_X7_read [12, 25, 32, 43, 68, 85, 102, 119] 2000 102 _ _ _).trans rfl
set_option maxRecDepth 50000 in
theorem B_X7_read_119 (call : zC) (len : Nat) (μ : zMu) (ν : zNu) (x1 : Int32) : zE zc_X7_read call 119 [.ref 57, .int x1] [] (zm len μ ν) = some (.int (1 : Int32), (zm len μ ν)) :=
  (zE_runc zg_X7_read [12, 25, 32, 43, 68, 85, 102, 119] 2000 119 _ _ _).trans rfl
set_option maxRecDepth 50000 in
theorem B_X7_readGive (d len : Nat) (μ : zMu) (ν : zNu)  : zF zT0 (d + 1) 87 [.ref 57] (zm len μ ν) = (fun call => zbi (call 129 [.ref 6] (zm len μ ν)) (fun w' M' => zE zc_X7_readGive call 7 [.ref 57] [.int w'] M')) (zF zT0 d) :=
  (show _ = zE zc_X7_readGive (zF zT0 d) 0 [.ref 57] [] (zm len μ ν) from rfl).trans ((zE_runc zg_X7_readGive [7, 21, 39, 47, 51, 64, 76, 88, 96, 99, 110, 126, 147, 154, 167, 172, 177, 209] 2000 0 _ _ _).trans rfl)
set_option maxRecDepth 50000 in
theorem B_X7_readGive_7 (call : zC) (len : Nat) (μ : zMu) (ν : zNu) (xs0 : Int32) : zE zc_X7_readGive call 7 [.ref 57] [.int xs0] (zm len μ ν) = (if xs0 = (133 : Int32) then (if (μ 57 6) < (16 : Int32) then zbv (call 132 [.ref 6] (zm len μ ν)) (fun M' => zE zc_X7_readGive call 47 [.ref 57] [] M') else zbi (call 134 [.ref 6, .int (3 : Int32)] (zm len μ ν)) (fun w' M' => zE zc_X7_readGive call 39 [.ref 57] [.int w'] M')) else zbi (call 134 [.ref 6, .int (1 : Int32)] (zm len μ ν)) (fun w' M' => zE zc_X7_readGive call 21 [.ref 57] [.int w'] M')) :=
  (zE_runc zg_X7_readGive [7, 21, 39, 47, 51, 64, 76, 88, 96, 99, 110, 126, 147, 154, 167, 172, 177, 209] 2000 7 _ _ _).trans rfl
set_option maxRecDepth 50000 in
theorem B_X7_readGive_21 (call : zC) (len : Nat) (μ : zMu) (ν : zNu) (xs0 : Int32) : zE zc_X7_readGive call 21 [.ref 57] [.int xs0] (zm len μ ν) = (if xs0 = 0 ∨ xs0 = 1 then some (.int xs0, (zm len μ ν)) else none) :=
  (zE_runc zg_X7_readGive [7, 21, 39, 47, 51, 64, 76, 88, 96, 99, 110, 126, 147, 154, 167, 172, 177, 209] 2000 21 _ _ _).trans rfl
set_option maxRecDepth 50000 in
theorem B_X7_readGive_39 (call : zC) (len : Nat) (μ : zMu) (ν : zNu) (xs0 : Int32) : zE zc_X7_readGive call 39 [.ref 57] [.int xs0] (zm len μ ν) = (if xs0 = 0 ∨ xs0 = 1 then some (.int xs0, (zm len μ ν)) else none) :=
  (zE_runc zg_X7_readGive [7, 21, 39, 47, 51, 64, 76, 88, 96, 99, 110, 126, 147, 154, 167, 172, 177, 209] 2000 39 _ _ _).trans rfl
set_option maxRecDepth 50000 in
theorem B_X7_readGive_47 (call : zC) (len : Nat) (μ : zMu) (ν : zNu)  : zE zc_X7_readGive call 47 [.ref 57] [] (zm len μ ν) = zbi (call 90 [.ref 57] (zm len μ ν)) (fun w' M' => zE zc_X7_readGive call 51 [.ref 57] [.int w'] M') :=
  (zE_runc zg_X7_readGive [7, 21, 39, 47, 51, 64, 76, 88, 96, 99, 110, 126, 147, 154, 167, 172, 177, 209] 2000 47 _ _ _).trans rfl
set_option maxRecDepth 50000 in
theorem B_X7_readGive_51 (call : zC) (len : Nat) (μ : zMu) (ν : zNu) (xs0 : Int32) : zE zc_X7_readGive call 51 [.ref 57] [.int xs0] (zm len μ ν) = (if xs0 = 0 then some (.int (0 : Int32), (zm len μ ν)) else zbi (call 133 [.ref 6, .int (131 : Int32)] (zm len μ ν)) (fun w' M' => zE zc_X7_readGive call 64 [.ref 57] [.int w'] M')) :=
  (zE_runc zg_X7_readGive [7, 21, 39, 47, 51, 64, 76, 88, 96, 99, 110, 126, 147, 154, 167, 172, 177, 209] 2000 51 _ _ _).trans rfl
set_option maxRecDepth 50000 in
theorem B_X7_readGive_64 (call : zC) (len : Nat) (μ : zMu) (ν : zNu) (xs0 : Int32) : zE zc_X7_readGive call 64 [.ref 57] [.int xs0] (zm len μ ν) = (if xs0 = 0 then some (.int (0 : Int32), (zm len μ ν)) else zbi (call 129 [.ref 6] (zm len μ ν)) (fun w' M' => zE zc_X7_readGive call 76 [.ref 57] [.int w'] M')) :=
  (zE_runc zg_X7_readGive [7, 21, 39, 47, 51, 64, 76, 88, 96, 99, 110, 126, 147, 154, 167, 172, 177, 209] 2000 64 _ _ _).trans rfl
set_option maxRecDepth 50000 in
theorem B_X7_readGive_76 (call : zC) (len : Nat) (μ : zMu) (ν : zNu) (xs0 : Int32) : zE zc_X7_readGive call 76 [.ref 57] [.int xs0] (zm len μ ν) = (if xs0 = (2 : Int32) then zbi (call 130 [.ref 6] (zm len μ ν)) (fun w' M' => zE zc_X7_readGive call 96 [.ref 57] [.int w'] M') else zbi (call 134 [.ref 6, .int (1 : Int32)] (zm len μ ν)) (fun w' M' => zE zc_X7_readGive call 88 [.ref 57] [.int w'] M')) :=
  (zE_runc zg_X7_readGive [7, 21, 39, 47, 51, 64, 76, 88, 96, 99, 110, 126, 147, 154, 167, 172, 177, 209] 2000 76 _ _ _).trans rfl
set_option maxRecDepth 50000 in
theorem B_X7_readGive_88 (call : zC) (len : Nat) (μ : zMu) (ν : zNu) (xs0 : Int32) : zE zc_X7_readGive call 88 [.ref 57] [.int xs0] (zm len μ ν) = (if xs0 = 0 ∨ xs0 = 1 then some (.int xs0, (zm len μ ν)) else none) :=
  (zE_runc zg_X7_readGive [7, 21, 39, 47, 51, 64, 76, 88, 96, 99, 110, 126, 147, 154, 167, 172, 177, 209] 2000 88 _ _ _).trans rfl
set_option maxRecDepth 50000 in
theorem B_X7_readGive_96 (call : zC) (len : Nat) (μ : zMu) (ν : zNu) (xs0 : Int32) : zE zc_X7_readGive call 96 [.ref 57] [.int xs0] (zm len μ ν) = zbi (call 176 [.int xs0] (zm len μ ν)) (fun w' M' => zE zc_X7_readGive call 99 [.ref 57] [.int w'] M') :=
  (zE_runc zg_X7_readGive [7, 21, 39, 47, 51, 64, 76, 88, 96, 99, 110, 126, 147, 154, 167, 172, 177, 209] 2000 96 _ _ _).trans rfl
set_option maxRecDepth 50000 in
theorem B_X7_readGive_99 (call : zC) (len : Nat) (μ : zMu) (ν : zNu) (xs0 : Int32) : zE zc_X7_readGive call 99 [.ref 57] [.int xs0] (zm len μ ν) = (if xs0 = 0 then zbi (call 134 [.ref 6, .int (2 : Int32)] (zm len μ ν)) (fun w' M' => zE zc_X7_readGive call 110 [.ref 57] [.int w'] M') else zbi (call 130 [.ref 6] (zm len μ ν)) (fun w' M' => zE zc_X7_readGive call 126 [.ref 57] [.int w', .int (μ 57 6), .ref 63] M')) :=
  (zE_runc zg_X7_readGive [7, 21, 39, 47, 51, 64, 76, 88, 96, 99, 110, 126, 147, 154, 167, 172, 177, 209] 2000 99 _ _ _).trans rfl
set_option maxRecDepth 50000 in
theorem B_X7_readGive_110 (call : zC) (len : Nat) (μ : zMu) (ν : zNu) (xs0 : Int32) : zE zc_X7_readGive call 110 [.ref 57] [.int xs0] (zm len μ ν) = (if xs0 = 0 ∨ xs0 = 1 then some (.int xs0, (zm len μ ν)) else none) :=
  (zE_runc zg_X7_readGive [7, 21, 39, 47, 51, 64, 76, 88, 96, 99, 110, 126, 147, 154, 167, 172, 177, 209] 2000 110 _ _ _).trans rfl
set_option maxRecDepth 50000 in
theorem B_X7_readGive_126 (call : zC) (len : Nat) (μ : zMu) (ν : zNu) (xs0 : Int32) (xs1 : Int32) : zE zc_X7_readGive call 126 [.ref 57] [.int xs0, .int xs1, .ref 63] (zm len μ ν) = (if 0 ≤ (xs1).toInt ∧ (xs1).toInt < ((16 : Nat) : Int) then (if 0 ≤ ((μ 57 6)).toInt ∧ ((μ 57 6)).toInt < ((16 : Nat) : Int) then zbv (call 132 [.ref 6] (zm len (zup (zup μ 63 (xs1).toNatClampNeg xs0) 64 ((μ 57 6)).toNatClampNeg (μ 57 7)) ν)) (fun M' => zE zc_X7_readGive call 147 [.ref 57] [] M') else none) else none) :=
  (zE_runc zg_X7_readGive [7, 21, 39, 47, 51, 64, 76, 88, 96, 99, 110, 126, 147, 154, 167, 172, 177, 209] 2000 126 _ _ _).trans rfl
set_option maxRecDepth 50000 in
theorem B_X7_readGive_147 (call : zC) (len : Nat) (μ : zMu) (ν : zNu)  : zE zc_X7_readGive call 147 [.ref 57] [] (zm len μ ν) = zbi (call 129 [.ref 6] (zm len μ ν)) (fun w' M' => zE zc_X7_readGive call 154 [.ref 57] [.int w'] M') :=
  (zE_runc zg_X7_readGive [7, 21, 39, 47, 51, 64, 76, 88, 96, 99, 110, 126, 147, 154, 167, 172, 177, 209] 2000 147 _ _ _).trans rfl
set_option maxRecDepth 50000 in
theorem B_X7_readGive_154 (call : zC) (len : Nat) (μ : zMu) (ν : zNu) (xs0 : Int32) : zE zc_X7_readGive call 154 [.ref 57] [.int xs0] (zm len μ ν) = (if xs0 = (134 : Int32) then zbv (call 132 [.ref 6] (zm len μ ν)) (fun M' => zE zc_X7_readGive call 167 [.ref 57] [] M') else zE zc_X7_readGive call 177 [.ref 57] [] (zm len μ ν)) :=
  (zE_runc zg_X7_readGive [7, 21, 39, 47, 51, 64, 76, 88, 96, 99, 110, 126, 147, 154, 167, 172, 177, 209] 2000 154 _ _ _).trans rfl
set_option maxRecDepth 50000 in
theorem B_X7_readGive_167 (call : zC) (len : Nat) (μ : zMu) (ν : zNu)  : zE zc_X7_readGive call 167 [.ref 57] [] (zm len μ ν) = zbi (call 88 [.ref 57, .int (0 : Int32)] (zm len μ ν)) (fun w' M' => zE zc_X7_readGive call 172 [.ref 57] [.int w'] M') :=
  (zE_runc zg_X7_readGive [7, 21, 39, 47, 51, 64, 76, 88, 96, 99, 110, 126, 147, 154, 167, 172, 177, 209] 2000 167 _ _ _).trans rfl
set_option maxRecDepth 50000 in
theorem B_X7_readGive_172 (call : zC) (len : Nat) (μ : zMu) (ν : zNu) (xs0 : Int32) : zE zc_X7_readGive call 172 [.ref 57] [.int xs0] (zm len μ ν) = (if xs0 = 0 then some (.int (0 : Int32), (zm len μ ν)) else zE zc_X7_readGive call 177 [.ref 57] [] (zm len μ ν)) :=
  (zE_runc zg_X7_readGive [7, 21, 39, 47, 51, 64, 76, 88, 96, 99, 110, 126, 147, 154, 167, 172, 177, 209] 2000 172 _ _ _).trans rfl
set_option maxRecDepth 50000 in
theorem B_X7_readGive_177 (call : zC) (len : Nat) (μ : zMu) (ν : zNu)  : zE zc_X7_readGive call 177 [.ref 57] [] (zm len μ ν) = (if 0 ≤ ((μ 57 6)).toInt ∧ ((μ 57 6)).toInt < ((16 : Nat) : Int) then zbi (call 133 [.ref 6, .int (59 : Int32)] (zm len (zup (zup μ 65 ((μ 57 6)).toNatClampNeg (μ 57 7)) 57 6 ((μ 57 6) + (1 : Int32))) ν)) (fun w' M' => zE zc_X7_readGive call 209 [.ref 57] [.int w'] M') else none) :=
  (zE_runc zg_X7_readGive [7, 21, 39, 47, 51, 64, 76, 88, 96, 99, 110, 126, 147, 154, 167, 172, 177, 209] 2000 177 _ _ _).trans rfl
set_option maxRecDepth 50000 in
theorem B_X7_readGive_209 (call : zC) (len : Nat) (μ : zMu) (ν : zNu) (xs0 : Int32) : zE zc_X7_readGive call 209 [.ref 57] [.int xs0] (zm len μ ν) = (if xs0 = 0 ∨ xs0 = 1 then some (.int xs0, (zm len μ ν)) else none) :=
  (zE_runc zg_X7_readGive [7, 21, 39, 47, 51, 64, 76, 88, 96, 99, 110, 126, 147, 154, 167, 172, 177, 209] 2000 209 _ _ _).trans rfl
set_option maxRecDepth 50000 in
theorem B_X7_readWhen (d len : Nat) (μ : zMu) (ν : zNu) (a0 : Int32) : zF zT0 (d + 1) 88 [.ref 57, .int a0] (zm len μ ν) = (fun call => zbi (call 89 [.ref 57, .int a0] (zm len μ ν)) (fun w' M' => zE zc_X7_readWhen call 5 [.ref 57, .int a0, zU, zU, zU] [.int w'] M')) (zF zT0 d) :=
  (show _ = zE zc_X7_readWhen (zF zT0 d) 0 [.ref 57, .int a0, zU, zU, zU] [] (zm len μ ν) from rfl).trans ((zE_runc zg_X7_readWhen [5, 14, 28, 41, 47, 54, 65, 74, 90, 100, 117, 123, 134] 2000 0 _ _ _).trans rfl)
set_option maxRecDepth 50000 in
theorem B_X7_readWhen_5 (call : zC) (len : Nat) (μ : zMu) (ν : zNu) (x1 : Int32) (v2 : Value) (v3 : Value) (v4 : Value) (xs0 : Int32) : zE zc_X7_readWhen call 5 [.ref 57, .int x1, v2, v3, v4] [.int xs0] (zm len μ ν) = (if xs0 = 0 then some (.int (0 : Int32), (zm len μ ν)) else zE zc_X7_readWhen call 14 [.ref 57, .int x1, .int (0 : Int32), .int (0 : Int32), v4] [] (zm len μ ν)) :=
  (zE_runc zg_X7_readWhen [5, 14, 28, 41, 47, 54, 65, 74, 90, 100, 117, 123, 134] 2000 5 _ _ _).trans rfl
set_option maxRecDepth 50000 in
theorem B_X7_readWhen_14 (call : zC) (len : Nat) (μ : zMu) (ν : zNu) (x1 : Int32) (x2 : Int32) (x3 : Int32) (v4 : Value) : zE zc_X7_readWhen call 14 [.ref 57, .int x1, .int x2, .int x3, v4] [] (zm len μ ν) = (if (800 : Int32) ≤ x3 then zE zc_X7_readWhen call 123 [.ref 57, .int x1, .int x2, .int x3, v4] [] (zm len μ ν) else zbi (call 129 [.ref 6] (zm len μ ν)) (fun w' M' => zE zc_X7_readWhen call 28 [.ref 57, .int x1, .int x2, .int x3, v4] [.int w'] M')) :=
  (zE_runc zg_X7_readWhen [5, 14, 28, 41, 47, 54, 65, 74, 90, 100, 117, 123, 134] 2000 14 _ _ _).trans rfl
set_option maxRecDepth 50000 in
theorem B_X7_readWhen_28 (call : zC) (len : Nat) (μ : zMu) (ν : zNu) (x1 : Int32) (x2 : Int32) (x3 : Int32) (v4 : Value) (xs0 : Int32) : zE zc_X7_readWhen call 28 [.ref 57, .int x1, .int x2, .int x3, v4] [.int xs0] (zm len μ ν) = (if xs0 = (135 : Int32) then zE zc_X7_readWhen call 47 [.ref 57, .int x1, .int x2, .int x3, v4] [] (zm len μ ν) else zbi (call 129 [.ref 6] (zm len μ ν)) (fun w' M' => zE zc_X7_readWhen call 41 [.ref 57, .int x1, .int x2, .int x3, v4] [.int w'] M')) :=
  (zE_runc zg_X7_readWhen [5, 14, 28, 41, 47, 54, 65, 74, 90, 100, 117, 123, 134] 2000 28 _ _ _).trans rfl
set_option maxRecDepth 50000 in
theorem B_X7_readWhen_41 (call : zC) (len : Nat) (μ : zMu) (ν : zNu) (x1 : Int32) (x2 : Int32) (x3 : Int32) (v4 : Value) (xs0 : Int32) : zE zc_X7_readWhen call 41 [.ref 57, .int x1, .int x2, .int x3, v4] [.int xs0] (zm len μ ν) = (if xs0 = (136 : Int32) then zE zc_X7_readWhen call 47 [.ref 57, .int x1, .int x2, .int x3, v4] [] (zm len μ ν) else zE zc_X7_readWhen call 123 [.ref 57, .int x1, .int x2, .int x3, v4] [] (zm len μ ν)) :=
  (zE_runc zg_X7_readWhen [5, 14, 28, 41, 47, 54, 65, 74, 90, 100, 117, 123, 134] 2000 41 _ _ _).trans rfl
set_option maxRecDepth 50000 in
theorem B_X7_readWhen_47 (call : zC) (len : Nat) (μ : zMu) (ν : zNu) (x1 : Int32) (x2 : Int32) (x3 : Int32) (v4 : Value) : zE zc_X7_readWhen call 47 [.ref 57, .int x1, .int x2, .int x3, v4] [] (zm len μ ν) = zbi (call 129 [.ref 6] (zm len μ ν)) (fun w' M' => zE zc_X7_readWhen call 54 [.ref 57, .int x1, .int x2, .int x3, v4] [.int w'] M') :=
  (zE_runc zg_X7_readWhen [5, 14, 28, 41, 47, 54, 65, 74, 90, 100, 117, 123, 134] 2000 47 _ _ _).trans rfl
set_option maxRecDepth 50000 in
theorem B_X7_readWhen_54 (call : zC) (len : Nat) (μ : zMu) (ν : zNu) (x1 : Int32) (x2 : Int32) (x3 : Int32) (v4 : Value) (xs0 : Int32) : zE zc_X7_readWhen call 54 [.ref 57, .int x1, .int x2, .int x3, v4] [.int xs0] (zm len μ ν) = (if xs0 = (135 : Int32) then zE zc_X7_readWhen call 65 [.ref 57, .int x1, .int x2, .int x3, v4] [.int (1 : Int32)] (zm len μ ν) else zE zc_X7_readWhen call 65 [.ref 57, .int x1, .int x2, .int x3, v4] [.int (0 : Int32)] (zm len μ ν)) :=
  (zE_runc zg_X7_readWhen [5, 14, 28, 41, 47, 54, 65, 74, 90, 100, 117, 123, 134] 2000 54 _ _ _).trans rfl
set_option maxRecDepth 50000 in
theorem B_X7_readWhen_65 (call : zC) (len : Nat) (μ : zMu) (ν : zNu) (x1 : Int32) (x2 : Int32) (x3 : Int32) (v4 : Value) (xs0 : Int32) : zE zc_X7_readWhen call 65 [.ref 57, .int x1, .int x2, .int x3, v4] [.int xs0] (zm len μ ν) = zbv (call 132 [.ref 6] (zm len μ ν)) (fun M' => zE zc_X7_readWhen call 74 [.ref 57, .int x1, .int x2, .int x3, .int xs0] [] M') :=
  (zE_runc zg_X7_readWhen [5, 14, 28, 41, 47, 54, 65, 74, 90, 100, 117, 123, 134] 2000 65 _ _ _).trans rfl
set_option maxRecDepth 50000 in
theorem B_X7_readWhen_74 (call : zC) (len : Nat) (μ : zMu) (ν : zNu) (x1 : Int32) (x2 : Int32) (x3 : Int32) (x4 : Int32) : zE zc_X7_readWhen call 74 [.ref 57, .int x1, .int x2, .int x3, .int x4] [] (zm len μ ν) = (if x4 = 0 then zE zc_X7_readWhen call 90 [.ref 57, .int x1, .int x2, .int x3, .int x4] [] (zm len μ ν) else (if x2 = 0 then zE zc_X7_readWhen call 90 [.ref 57, .int x1, .int x2, .int x3, .int x4] [] (zm len μ ν) else zbv (call 93 [.ref 57, .int (-135 : Int32)] (zm len μ ν)) (fun M' => zE zc_X7_readWhen call 90 [.ref 57, .int x1, .int x2, .int x3, .int x4] [] M'))) :=
  (zE_runc zg_X7_readWhen [5, 14, 28, 41, 47, 54, 65, 74, 90, 100, 117, 123, 134] 2000 74 _ _ _).trans rfl
set_option maxRecDepth 50000 in
theorem B_X7_readWhen_90 (call : zC) (len : Nat) (μ : zMu) (ν : zNu) (x1 : Int32) (x2 : Int32) (x3 : Int32) (x4 : Int32) : zE zc_X7_readWhen call 90 [.ref 57, .int x1, .int x2, .int x3, .int x4] [] (zm len μ ν) = zbi (call 89 [.ref 57, .int x1] (zm len μ ν)) (fun w' M' => zE zc_X7_readWhen call 100 [.ref 57, .int x1, .int (x2 ||| x4), .int x3, .int x4] [.int w'] M') :=
  (zE_runc zg_X7_readWhen [5, 14, 28, 41, 47, 54, 65, 74, 90, 100, 117, 123, 134] 2000 90 _ _ _).trans rfl
set_option maxRecDepth 50000 in
theorem B_X7_readWhen_100 (call : zC) (len : Nat) (μ : zMu) (ν : zNu) (x1 : Int32) (x2 : Int32) (x3 : Int32) (x4 : Int32) (xs0 : Int32) : zE zc_X7_readWhen call 100 [.ref 57, .int x1, .int x2, .int x3, .int x4] [.int xs0] (zm len μ ν) = (if xs0 = 0 then some (.int (0 : Int32), (zm len μ ν)) else (if x4 = 0 then zbv (call 93 [.ref 57, .int (-136 : Int32)] (zm len μ ν)) (fun M' => zE zc_X7_readWhen call 117 [.ref 57, .int x1, .int x2, .int x3, .int x4] [] M') else zE zc_X7_readWhen call 117 [.ref 57, .int x1, .int x2, .int x3, .int x4] [] (zm len μ ν))) :=
  (zE_runc zg_X7_readWhen [5, 14, 28, 41, 47, 54, 65, 74, 90, 100, 117, 123, 134] 2000 100 _ _ _).trans rfl
set_option maxRecDepth 50000 in
theorem B_X7_readWhen_117 (call : zC) (len : Nat) (μ : zMu) (ν : zNu) (x1 : Int32) (x2 : Int32) (x3 : Int32) (x4 : Int32) : zE zc_X7_readWhen call 117 [.ref 57, .int x1, .int x2, .int x3, .int x4] [] (zm len μ ν) = zE zc_X7_readWhen call 14 [.ref 57, .int x1, .int x2, .int (x3 + (1 : Int32)), .int x4] [] (zm len μ ν) :=
  (zE_runc zg_X7_readWhen [5, 14, 28, 41, 47, 54, 65, 74, 90, 100, 117, 123, 134] 2000 117 _ _ _).trans rfl
set_option maxRecDepth 50000 in
theorem B_X7_readWhen_123 (call : zC) (len : Nat) (μ : zMu) (ν : zNu) (x1 : Int32) (x2 : Int32) (x3 : Int32) (v4 : Value) : zE zc_X7_readWhen call 123 [.ref 57, .int x1, .int x2, .int x3, v4] [] (zm len μ ν) = (if x2 = 0 then zE zc_X7_readWhen call 134 [.ref 57, .int x1, .int x2, .int x3, v4] [] (zm len μ ν) else zbv (call 93 [.ref 57, .int (-135 : Int32)] (zm len μ ν)) (fun M' => zE zc_X7_readWhen call 134 [.ref 57, .int x1, .int x2, .int x3, v4] [] M')) :=
  (zE_runc zg_X7_readWhen [5, 14, 28, 41, 47, 54, 65, 74, 90, 100, 117, 123, 134] 2000 123 _ _ _).trans rfl
set_option maxRecDepth 50000 in
theorem B_X7_readWhen_134 (call : zC) (len : Nat) (μ : zMu) (ν : zNu) (x1 : Int32) (x2 : Int32) (x3 : Int32) (v4 : Value) : zE zc_X7_readWhen call 134 [.ref 57, .int x1, .int x2, .int x3, v4] [] (zm len μ ν) = some (.int (1 : Int32), (zm len μ ν)) :=
  (zE_runc zg_X7_readWhen [5, 14, 28, 41, 47, 54, 65, 74, 90, 100, 117, 123, 134] 2000 134 _ _ _).trans rfl
set_option maxRecDepth 50000 in
theorem B_X7_readCondition (d len : Nat) (μ : zMu) (ν : zNu) (a0 : Int32) : zF zT0 (d + 1) 89 [.ref 57, .int a0] (zm len μ ν) = (fun call => zbi (call 129 [.ref 6] (zm len μ ν)) (fun w' M' => zE zc_X7_readCondition call 7 [.ref 57, .int a0, zU, zU] [.int w'] M')) (zF zT0 d) :=
  (show _ = zE zc_X7_readCondition (zF zT0 d) 0 [.ref 57, .int a0, zU, zU] [] (zm len μ ν) from rfl).trans ((zE_runc zg_X7_readCondition [7, 21, 35, 43, 56, 68, 84, 96, 102, 114, 141, 142, 149, 153, 164] 2000 0 _ _ _).trans rfl)
set_option maxRecDepth 50000 in
theorem B_X7_readCondition_7 (call : zC) (len : Nat) (μ : zMu) (ν : zNu) (x1 : Int32) (v2 : Value) (v3 : Value) (xs0 : Int32) : zE zc_X7_readCondition call 7 [.ref 57, .int x1, v2, v3] [.int xs0] (zm len μ ν) = (if xs0 = (137 : Int32) then zE zc_X7_readCondition call 21 [.ref 57, .int x1, .int xs0, v3] [] (zm len μ ν) else (if xs0 = (40 : Int32) then zE zc_X7_readCondition call 21 [.ref 57, .int x1, .int xs0, v3] [] (zm len μ ν) else zbi (call 90 [.ref 57] (zm len μ ν)) (fun w' M' => zE zc_X7_readCondition call 102 [.ref 57, .int x1, .int xs0, v3] [.int w'] M'))) :=
  (zE_runc zg_X7_readCondition [7, 21, 35, 43, 56, 68, 84, 96, 102, 114, 141, 142, 149, 153, 164] 2000 7 _ _ _).trans rfl
set_option maxRecDepth 50000 in
theorem B_X7_readCondition_21 (call : zC) (len : Nat) (μ : zMu) (ν : zNu) (x1 : Int32) (x2 : Int32) (v3 : Value) : zE zc_X7_readCondition call 21 [.ref 57, .int x1, .int x2, v3] [] (zm len μ ν) = (if x1 < (8 : Int32) then zbv (call 132 [.ref 6] (zm len μ ν)) (fun M' => zE zc_X7_readCondition call 43 [.ref 57, .int x1, .int x2, v3] [] M') else zbi (call 134 [.ref 6, .int (3 : Int32)] (zm len μ ν)) (fun w' M' => zE zc_X7_readCondition call 35 [.ref 57, .int x1, .int x2, v3] [.int w'] M')) :=
  (zE_runc zg_X7_readCondition [7, 21, 35, 43, 56, 68, 84, 96, 102, 114, 141, 142, 149, 153, 164] 2000 21 _ _ _).trans rfl
set_option maxRecDepth 50000 in
theorem B_X7_readCondition_35 (call : zC) (len : Nat) (μ : zMu) (ν : zNu) (x1 : Int32) (x2 : Int32) (v3 : Value) (xs0 : Int32) : zE zc_X7_readCondition call 35 [.ref 57, .int x1, .int x2, v3] [.int xs0] (zm len μ ν) = (if xs0 = 0 ∨ xs0 = 1 then some (.int xs0, (zm len μ ν)) else none) :=
  (zE_runc zg_X7_readCondition [7, 21, 35, 43, 56, 68, 84, 96, 102, 114, 141, 142, 149, 153, 164] 2000 35 _ _ _).trans rfl
set_option maxRecDepth 50000 in
theorem B_X7_readCondition_43 (call : zC) (len : Nat) (μ : zMu) (ν : zNu) (x1 : Int32) (x2 : Int32) (v3 : Value) : zE zc_X7_readCondition call 43 [.ref 57, .int x1, .int x2, v3] [] (zm len μ ν) = (if x2 = (40 : Int32) then zbi (call 88 [.ref 57, .int (x1 + (1 : Int32))] (zm len μ ν)) (fun w' M' => zE zc_X7_readCondition call 56 [.ref 57, .int x1, .int x2, v3] [.int w'] M') else zbi (call 89 [.ref 57, .int (x1 + (1 : Int32))] (zm len μ ν)) (fun w' M' => zE zc_X7_readCondition call 84 [.ref 57, .int x1, .int x2, v3] [.int w'] M')) :=
  (zE_runc zg_X7_readCondition [7, 21, 35, 43, 56, 68, 84, 96, 102, 114, 141, 142, 149, 153, 164] 2000 43 _ _ _).trans rfl
set_option maxRecDepth 50000 in
theorem B_X7_readCondition_56 (call : zC) (len : Nat) (μ : zMu) (ν : zNu) (x1 : Int32) (x2 : Int32) (v3 : Value) (xs0 : Int32) : zE zc_X7_readCondition call 56 [.ref 57, .int x1, .int x2, v3] [.int xs0] (zm len μ ν) = (if xs0 = 0 then some (.int (0 : Int32), (zm len μ ν)) else zbi (call 133 [.ref 6, .int (41 : Int32)] (zm len μ ν)) (fun w' M' => zE zc_X7_readCondition call 68 [.ref 57, .int x1, .int x2, v3] [.int w'] M')) :=
  (zE_runc zg_X7_readCondition [7, 21, 35, 43, 56, 68, 84, 96, 102, 114, 141, 142, 149, 153, 164] 2000 56 _ _ _).trans rfl
set_option maxRecDepth 50000 in
theorem B_X7_readCondition_68 (call : zC) (len : Nat) (μ : zMu) (ν : zNu) (x1 : Int32) (x2 : Int32) (v3 : Value) (xs0 : Int32) : zE zc_X7_readCondition call 68 [.ref 57, .int x1, .int x2, v3] [.int xs0] (zm len μ ν) = (if xs0 = 0 then some (.int (0 : Int32), (zm len μ ν)) else some (.int (1 : Int32), (zm len μ ν))) :=
  (zE_runc zg_X7_readCondition [7, 21, 35, 43, 56, 68, 84, 96, 102, 114, 141, 142, 149, 153, 164] 2000 68 _ _ _).trans rfl
set_option maxRecDepth 50000 in
theorem B_X7_readCondition_84 (call : zC) (len : Nat) (μ : zMu) (ν : zNu) (x1 : Int32) (x2 : Int32) (v3 : Value) (xs0 : Int32) : zE zc_X7_readCondition call 84 [.ref 57, .int x1, .int x2, v3] [.int xs0] (zm len μ ν) = (if xs0 = 0 then some (.int (0 : Int32), (zm len μ ν)) else zbv (call 93 [.ref 57, .int (-137 : Int32)] (zm len μ ν)) (fun M' => zE zc_X7_readCondition call 96 [.ref 57, .int x1, .int x2, v3] [] M')) :=
  (zE_runc zg_X7_readCondition [7, 21, 35, 43, 56, 68, 84, 96, 102, 114, 141, 142, 149, 153, 164] 2000 84 _ _ _).trans rfl
set_option maxRecDepth 50000 in
theorem B_X7_readCondition_96 (call : zC) (len : Nat) (μ : zMu) (ν : zNu) (x1 : Int32) (x2 : Int32) (v3 : Value) : zE zc_X7_readCondition call 96 [.ref 57, .int x1, .int x2, v3] [] (zm len μ ν) = some (.int (1 : Int32), (zm len μ ν)) :=
  (zE_runc zg_X7_readCondition [7, 21, 35, 43, 56, 68, 84, 96, 102, 114, 141, 142, 149, 153, 164] 2000 96 _ _ _).trans rfl
set_option maxRecDepth 50000 in
theorem B_X7_readCondition_102 (call : zC) (len : Nat) (μ : zMu) (ν : zNu) (x1 : Int32) (x2 : Int32) (v3 : Value) (xs0 : Int32) : zE zc_X7_readCondition call 102 [.ref 57, .int x1, .int x2, v3] [.int xs0] (zm len μ ν) = (if xs0 = 0 then some (.int (0 : Int32), (zm len μ ν)) else zbi (call 129 [.ref 6] (zm len μ ν)) (fun w' M' => zE zc_X7_readCondition call 114 [.ref 57, .int x1, .int x2, v3] [.int w'] M')) :=
  (zE_runc zg_X7_readCondition [7, 21, 35, 43, 56, 68, 84, 96, 102, 114, 141, 142, 149, 153, 164] 2000 102 _ _ _).trans rfl
set_option maxRecDepth 50000 in
theorem B_X7_readCondition_114 (call : zC) (len : Nat) (μ : zMu) (ν : zNu) (x1 : Int32) (x2 : Int32) (v3 : Value) (xs0 : Int32) : zE zc_X7_readCondition call 114 [.ref 57, .int x1, .int x2, v3] [.int xs0] (zm len μ ν) = (if xs0 = (60 : Int32) then zE zc_X7_readCondition call 142 [.ref 57, .int x1, .int x2, .int xs0] [] (zm len μ ν) else (if xs0 = (61 : Int32) then zE zc_X7_readCondition call 142 [.ref 57, .int x1, .int x2, .int xs0] [] (zm len μ ν) else (if xs0 = (62 : Int32) then zE zc_X7_readCondition call 142 [.ref 57, .int x1, .int x2, .int xs0] [] (zm len μ ν) else zbi (call 134 [.ref 6, .int (1 : Int32)] (zm len μ ν)) (fun w' M' => zE zc_X7_readCondition call 141 [.ref 57, .int x1, .int x2, .int xs0] [.int w'] M')))) :=
  (zE_runc zg_X7_readCondition [7, 21, 35, 43, 56, 68, 84, 96, 102, 114, 141, 142, 149, 153, 164] 2000 114 _ _ _).trans rfl
set_option maxRecDepth 50000 in
theorem B_X7_readCondition_141 (call : zC) (len : Nat) (μ : zMu) (ν : zNu) (x1 : Int32) (x2 : Int32) (x3 : Int32) (xs0 : Int32) : zE zc_X7_readCondition call 141 [.ref 57, .int x1, .int x2, .int x3] [.int xs0] (zm len μ ν) = (if xs0 = 0 ∨ xs0 = 1 then some (.int xs0, (zm len μ ν)) else none) :=
  (zE_runc zg_X7_readCondition [7, 21, 35, 43, 56, 68, 84, 96, 102, 114, 141, 142, 149, 153, 164] 2000 141 _ _ _).trans rfl
set_option maxRecDepth 50000 in
theorem B_X7_readCondition_142 (call : zC) (len : Nat) (μ : zMu) (ν : zNu) (x1 : Int32) (x2 : Int32) (x3 : Int32) : zE zc_X7_readCondition call 142 [.ref 57, .int x1, .int x2, .int x3] [] (zm len μ ν) = zbv (call 132 [.ref 6] (zm len μ ν)) (fun M' => zE zc_X7_readCondition call 149 [.ref 57, .int x1, .int x2, .int x3] [] M') :=
  (zE_runc zg_X7_readCondition [7, 21, 35, 43, 56, 68, 84, 96, 102, 114, 141, 142, 149, 153, 164] 2000 142 _ _ _).trans rfl
set_option maxRecDepth 50000 in
theorem B_X7_readCondition_149 (call : zC) (len : Nat) (μ : zMu) (ν : zNu) (x1 : Int32) (x2 : Int32) (x3 : Int32) : zE zc_X7_readCondition call 149 [.ref 57, .int x1, .int x2, .int x3] [] (zm len μ ν) = zbi (call 90 [.ref 57] (zm len μ ν)) (fun w' M' => zE zc_X7_readCondition call 153 [.ref 57, .int x1, .int x2, .int x3] [.int w'] M') :=
  (zE_runc zg_X7_readCondition [7, 21, 35, 43, 56, 68, 84, 96, 102, 114, 141, 142, 149, 153, 164] 2000 149 _ _ _).trans rfl
set_option maxRecDepth 50000 in
theorem B_X7_readCondition_153 (call : zC) (len : Nat) (μ : zMu) (ν : zNu) (x1 : Int32) (x2 : Int32) (x3 : Int32) (xs0 : Int32) : zE zc_X7_readCondition call 153 [.ref 57, .int x1, .int x2, .int x3] [.int xs0] (zm len μ ν) = (if xs0 = 0 then some (.int (0 : Int32), (zm len μ ν)) else zbv (call 93 [.ref 57, .int (-x3)] (zm len μ ν)) (fun M' => zE zc_X7_readCondition call 164 [.ref 57, .int x1, .int x2, .int x3] [] M')) :=
  (zE_runc zg_X7_readCondition [7, 21, 35, 43, 56, 68, 84, 96, 102, 114, 141, 142, 149, 153, 164] 2000 153 _ _ _).trans rfl
set_option maxRecDepth 50000 in
theorem B_X7_readCondition_164 (call : zC) (len : Nat) (μ : zMu) (ν : zNu) (x1 : Int32) (x2 : Int32) (x3 : Int32) : zE zc_X7_readCondition call 164 [.ref 57, .int x1, .int x2, .int x3] [] (zm len μ ν) = some (.int (1 : Int32), (zm len μ ν)) :=
  (zE_runc zg_X7_readCondition [7, 21, 35, 43, 56, 68, 84, 96, 102, 114, 141, 142, 149, 153, 164] 2000 164 _ _ _).trans rfl
set_option maxRecDepth 50000 in
theorem B_X7_readSum (d len : Nat) (μ : zMu) (ν : zNu)  : zF zT0 (d + 1) 90 [.ref 57] (zm len μ ν) = (fun call => zbi (call 91 [.ref 57] (zm len μ ν)) (fun w' M' => zE zc_X7_readSum call 4 [.ref 57, zU, zU, zU, zU] [.int w'] M')) (zF zT0 d) :=
  (show _ = zE zc_X7_readSum (zF zT0 d) 0 [.ref 57, zU, zU, zU, zU] [] (zm len μ ν) from rfl).trans ((zE_runc zg_X7_readSum [4, 13, 27, 55, 62, 74, 79, 96, 106, 117, 127, 132, 143, 149, 159] 2000 0 _ _ _).trans rfl)
set_option maxRecDepth 50000 in
theorem B_X7_readSum_4 (call : zC) (len : Nat) (μ : zMu) (ν : zNu) (v1 : Value) (v2 : Value) (v3 : Value) (v4 : Value) (xs0 : Int32) : zE zc_X7_readSum call 4 [.ref 57, v1, v2, v3, v4] [.int xs0] (zm len μ ν) = (if xs0 = 0 then some (.int (0 : Int32), (zm len μ ν)) else zE zc_X7_readSum call 13 [.ref 57, .int (0 : Int32), .int (0 : Int32), v3, v4] [] (zm len μ ν)) :=
  (zE_runc zg_X7_readSum [4, 13, 27, 55, 62, 74, 79, 96, 106, 117, 127, 132, 143, 149, 159] 2000 4 _ _ _).trans rfl
set_option maxRecDepth 50000 in
theorem B_X7_readSum_13 (call : zC) (len : Nat) (μ : zMu) (ν : zNu) (x1 : Int32) (x2 : Int32) (v3 : Value) (v4 : Value) : zE zc_X7_readSum call 13 [.ref 57, .int x1, .int x2, v3, v4] [] (zm len μ ν) = (if (800 : Int32) ≤ x2 then zE zc_X7_readSum call 149 [.ref 57, .int x1, .int x2, v3, v4] [] (zm len μ ν) else zbi (call 129 [.ref 6] (zm len μ ν)) (fun w' M' => zE zc_X7_readSum call 27 [.ref 57, .int x1, .int x2, v3, v4] [.int w'] M')) :=
  (zE_runc zg_X7_readSum [4, 13, 27, 55, 62, 74, 79, 96, 106, 117, 127, 132, 143, 149, 159] 2000 13 _ _ _).trans rfl
set_option maxRecDepth 50000 in
theorem B_X7_readSum_27 (call : zC) (len : Nat) (μ : zMu) (ν : zNu) (x1 : Int32) (x2 : Int32) (v3 : Value) (v4 : Value) (xs0 : Int32) : zE zc_X7_readSum call 27 [.ref 57, .int x1, .int x2, v3, v4] [.int xs0] (zm len μ ν) = (if xs0 = (43 : Int32) then zE zc_X7_readSum call 55 [.ref 57, .int x1, .int x2, .int xs0, v4] [] (zm len μ ν) else (if xs0 = (45 : Int32) then zE zc_X7_readSum call 55 [.ref 57, .int x1, .int x2, .int xs0, v4] [] (zm len μ ν) else (if xs0 = (42 : Int32) then zE zc_X7_readSum call 55 [.ref 57, .int x1, .int x2, .int xs0, v4] [] (zm len μ ν) else (if xs0 = (47 : Int32) then zE zc_X7_readSum call 55 [.ref 57, .int x1, .int x2, .int xs0, v4] [] (zm len μ ν) else zE zc_X7_readSum call 149 [.ref 57, .int x1, .int x2, .int xs0, v4] [] (zm len μ ν))))) :=
  (zE_runc zg_X7_readSum [4, 13, 27, 55, 62, 74, 79, 96, 106, 117, 127, 132, 143, 149, 159] 2000 27 _ _ _).trans rfl
set_option maxRecDepth 50000 in
theorem B_X7_readSum_55 (call : zC) (len : Nat) (μ : zMu) (ν : zNu) (x1 : Int32) (x2 : Int32) (x3 : Int32) (v4 : Value) : zE zc_X7_readSum call 55 [.ref 57, .int x1, .int x2, .int x3, v4] [] (zm len μ ν) = zbv (call 132 [.ref 6] (zm len μ ν)) (fun M' => zE zc_X7_readSum call 62 [.ref 57, .int x1, .int x2, .int x3, v4] [] M') :=
  (zE_runc zg_X7_readSum [4, 13, 27, 55, 62, 74, 79, 96, 106, 117, 127, 132, 143, 149, 159] 2000 55 _ _ _).trans rfl
set_option maxRecDepth 50000 in
theorem B_X7_readSum_62 (call : zC) (len : Nat) (μ : zMu) (ν : zNu) (x1 : Int32) (x2 : Int32) (x3 : Int32) (v4 : Value) : zE zc_X7_readSum call 62 [.ref 57, .int x1, .int x2, .int x3, v4] [] (zm len μ ν) = (if x3 = (43 : Int32) then zE zc_X7_readSum call 74 [.ref 57, .int x1, .int x2, .int x3, v4] [] (zm len μ ν) else (if x3 = (45 : Int32) then zE zc_X7_readSum call 74 [.ref 57, .int x1, .int x2, .int x3, v4] [] (zm len μ ν) else zE zc_X7_readSum call 79 [.ref 57, .int x1, .int x2, .int x3, v4] [.int (0 : Int32)] (zm len μ ν))) :=
  (zE_runc zg_X7_readSum [4, 13, 27, 55, 62, 74, 79, 96, 106, 117, 127, 132, 143, 149, 159] 2000 62 _ _ _).trans rfl
set_option maxRecDepth 50000 in
theorem B_X7_readSum_74 (call : zC) (len : Nat) (μ : zMu) (ν : zNu) (x1 : Int32) (x2 : Int32) (x3 : Int32) (v4 : Value) : zE zc_X7_readSum call 74 [.ref 57, .int x1, .int x2, .int x3, v4] [] (zm len μ ν) = zE zc_X7_readSum call 79 [.ref 57, .int x1, .int x2, .int x3, v4] [.int (1 : Int32)] (zm len μ ν) :=
  (zE_runc zg_X7_readSum [4, 13, 27, 55, 62, 74, 79, 96, 106, 117, 127, 132, 143, 149, 159] 2000 74 _ _ _).trans rfl
set_option maxRecDepth 50000 in
theorem B_X7_readSum_79 (call : zC) (len : Nat) (μ : zMu) (ν : zNu) (x1 : Int32) (x2 : Int32) (x3 : Int32) (v4 : Value) (xs0 : Int32) : zE zc_X7_readSum call 79 [.ref 57, .int x1, .int x2, .int x3, v4] [.int xs0] (zm len μ ν) = (if xs0 = 0 then zE zc_X7_readSum call 96 [.ref 57, .int x1, .int x2, .int x3, .int xs0] [] (zm len μ ν) else (if x1 = 0 then zE zc_X7_readSum call 96 [.ref 57, .int x1, .int x2, .int x3, .int xs0] [] (zm len μ ν) else zbv (call 93 [.ref 57, .int (-x1)] (zm len μ ν)) (fun M' => zE zc_X7_readSum call 96 [.ref 57, .int x1, .int x2, .int x3, .int xs0] [] M'))) :=
  (zE_runc zg_X7_readSum [4, 13, 27, 55, 62, 74, 79, 96, 106, 117, 127, 132, 143, 149, 159] 2000 79 _ _ _).trans rfl
set_option maxRecDepth 50000 in
theorem B_X7_readSum_96 (call : zC) (len : Nat) (μ : zMu) (ν : zNu) (x1 : Int32) (x2 : Int32) (x3 : Int32) (x4 : Int32) : zE zc_X7_readSum call 96 [.ref 57, .int x1, .int x2, .int x3, .int x4] [] (zm len μ ν) = (if x4 = 0 then zE zc_X7_readSum call 106 [.ref 57, .int x1, .int x2, .int x3, .int x4] [.int x1] (zm len μ ν) else zE zc_X7_readSum call 106 [.ref 57, .int x1, .int x2, .int x3, .int x4] [.int x3] (zm len μ ν)) :=
  (zE_runc zg_X7_readSum [4, 13, 27, 55, 62, 74, 79, 96, 106, 117, 127, 132, 143, 149, 159] 2000 96 _ _ _).trans rfl
set_option maxRecDepth 50000 in
theorem B_X7_readSum_106 (call : zC) (len : Nat) (μ : zMu) (ν : zNu) (x1 : Int32) (x2 : Int32) (x3 : Int32) (x4 : Int32) (xs0 : Int32) : zE zc_X7_readSum call 106 [.ref 57, .int x1, .int x2, .int x3, .int x4] [.int xs0] (zm len μ ν) = (if x3 = (47 : Int32) then zbi (call 92 [.ref 57] (zm len μ ν)) (fun w' M' => zE zc_X7_readSum call 117 [.ref 57, .int xs0, .int x2, .int x3, .int x4] [.int w'] M') else zbi (call 91 [.ref 57] (zm len μ ν)) (fun w' M' => zE zc_X7_readSum call 127 [.ref 57, .int xs0, .int x2, .int x3, .int x4] [.int w'] M')) :=
  (zE_runc zg_X7_readSum [4, 13, 27, 55, 62, 74, 79, 96, 106, 117, 127, 132, 143, 149, 159] 2000 106 _ _ _).trans rfl
set_option maxRecDepth 50000 in
theorem B_X7_readSum_117 (call : zC) (len : Nat) (μ : zMu) (ν : zNu) (x1 : Int32) (x2 : Int32) (x3 : Int32) (x4 : Int32) (xs0 : Int32) : zE zc_X7_readSum call 117 [.ref 57, .int x1, .int x2, .int x3, .int x4] [.int xs0] (zm len μ ν) = (if xs0 = 0 then some (.int (0 : Int32), (zm len μ ν)) else zE zc_X7_readSum call 132 [.ref 57, .int x1, .int x2, .int x3, .int x4] [] (zm len μ ν)) :=
  (zE_runc zg_X7_readSum [4, 13, 27, 55, 62, 74, 79, 96, 106, 117, 127, 132, 143, 149, 159] 2000 117 _ _ _).trans rfl
set_option maxRecDepth 50000 in
theorem B_X7_readSum_127 (call : zC) (len : Nat) (μ : zMu) (ν : zNu) (x1 : Int32) (x2 : Int32) (x3 : Int32) (x4 : Int32) (xs0 : Int32) : zE zc_X7_readSum call 127 [.ref 57, .int x1, .int x2, .int x3, .int x4] [.int xs0] (zm len μ ν) = (if xs0 = 0 then some (.int (0 : Int32), (zm len μ ν)) else zE zc_X7_readSum call 132 [.ref 57, .int x1, .int x2, .int x3, .int x4] [] (zm len μ ν)) :=
  (zE_runc zg_X7_readSum [4, 13, 27, 55, 62, 74, 79, 96, 106, 117, 127, 132, 143, 149, 159] 2000 127 _ _ _).trans rfl
set_option maxRecDepth 50000 in
theorem B_X7_readSum_132 (call : zC) (len : Nat) (μ : zMu) (ν : zNu) (x1 : Int32) (x2 : Int32) (x3 : Int32) (x4 : Int32) : zE zc_X7_readSum call 132 [.ref 57, .int x1, .int x2, .int x3, .int x4] [] (zm len μ ν) = (if x4 = 0 then zbv (call 93 [.ref 57, .int (-x3)] (zm len μ ν)) (fun M' => zE zc_X7_readSum call 143 [.ref 57, .int x1, .int x2, .int x3, .int x4] [] M') else zE zc_X7_readSum call 143 [.ref 57, .int x1, .int x2, .int x3, .int x4] [] (zm len μ ν)) :=
  (zE_runc zg_X7_readSum [4, 13, 27, 55, 62, 74, 79, 96, 106, 117, 127, 132, 143, 149, 159] 2000 132 _ _ _).trans rfl
set_option maxRecDepth 50000 in
theorem B_X7_readSum_143 (call : zC) (len : Nat) (μ : zMu) (ν : zNu) (x1 : Int32) (x2 : Int32) (x3 : Int32) (x4 : Int32) : zE zc_X7_readSum call 143 [.ref 57, .int x1, .int x2, .int x3, .int x4] [] (zm len μ ν) = zE zc_X7_readSum call 13 [.ref 57, .int x1, .int (x2 + (1 : Int32)), .int x3, .int x4] [] (zm len μ ν) :=
  (zE_runc zg_X7_readSum [4, 13, 27, 55, 62, 74, 79, 96, 106, 117, 127, 132, 143, 149, 159] 2000 143 _ _ _).trans rfl
set_option maxRecDepth 50000 in
theorem B_X7_readSum_149 (call : zC) (len : Nat) (μ : zMu) (ν : zNu) (x1 : Int32) (x2 : Int32) (v3 : Value) (v4 : Value) : zE zc_X7_readSum call 149 [.ref 57, .int x1, .int x2, v3, v4] [] (zm len μ ν) = (if x1 = 0 then zE zc_X7_readSum call 159 [.ref 57, .int x1, .int x2, v3, v4] [] (zm len μ ν) else zbv (call 93 [.ref 57, .int (-x1)] (zm len μ ν)) (fun M' => zE zc_X7_readSum call 159 [.ref 57, .int x1, .int x2, v3, v4] [] M')) :=
  (zE_runc zg_X7_readSum [4, 13, 27, 55, 62, 74, 79, 96, 106, 117, 127, 132, 143, 149, 159] 2000 149 _ _ _).trans rfl
set_option maxRecDepth 50000 in
theorem B_X7_readSum_159 (call : zC) (len : Nat) (μ : zMu) (ν : zNu) (x1 : Int32) (x2 : Int32) (v3 : Value) (v4 : Value) : zE zc_X7_readSum call 159 [.ref 57, .int x1, .int x2, v3, v4] [] (zm len μ ν) = some (.int (1 : Int32), (zm len μ ν)) :=
  (zE_runc zg_X7_readSum [4, 13, 27, 55, 62, 74, 79, 96, 106, 117, 127, 132, 143, 149, 159] 2000 159 _ _ _).trans rfl
set_option maxRecDepth 50000 in
theorem B_X7_readUnit (d len : Nat) (μ : zMu) (ν : zNu)  : zF zT0 (d + 1) 91 [.ref 57] (zm len μ ν) = (fun call => zbi (call 129 [.ref 6] (zm len μ ν)) (fun w' M' => zE zc_X7_readUnit call 7 [.ref 57, zU] [.int w'] M')) (zF zT0 d) :=
  (show _ = zE zc_X7_readUnit (zF zT0 d) 0 [.ref 57, zU] [] (zm len μ ν) from rfl).trans ((zE_runc zg_X7_readUnit [7, 23, 34, 35, 48, 56, 63] 2000 0 _ _ _).trans rfl)
set_option maxRecDepth 50000 in
theorem B_X7_readUnit_7 (call : zC) (len : Nat) (μ : zMu) (ν : zNu) (v1 : Value) (xs0 : Int32) : zE zc_X7_readUnit call 7 [.ref 57, v1] [.int xs0] (zm len μ ν) = (if xs0 = (2 : Int32) then zE zc_X7_readUnit call 35 [.ref 57, .int xs0] [] (zm len μ ν) else zbi (call 175 [.int xs0, .int (138 : Int32), .int (142 : Int32)] (zm len μ ν)) (fun w' M' => zE zc_X7_readUnit call 23 [.ref 57, .int xs0] [.int w'] M')) :=
  (zE_runc zg_X7_readUnit [7, 23, 34, 35, 48, 56, 63] 2000 7 _ _ _).trans rfl
set_option maxRecDepth 50000 in
theorem B_X7_readUnit_23 (call : zC) (len : Nat) (μ : zMu) (ν : zNu) (x1 : Int32) (xs0 : Int32) : zE zc_X7_readUnit call 23 [.ref 57, .int x1] [.int xs0] (zm len μ ν) = (if xs0 = 0 then zbi (call 134 [.ref 6, .int (1 : Int32)] (zm len μ ν)) (fun w' M' => zE zc_X7_readUnit call 34 [.ref 57, .int x1] [.int w'] M') else zE zc_X7_readUnit call 35 [.ref 57, .int x1] [] (zm len μ ν)) :=
  (zE_runc zg_X7_readUnit [7, 23, 34, 35, 48, 56, 63] 2000 23 _ _ _).trans rfl
set_option maxRecDepth 50000 in
theorem B_X7_readUnit_34 (call : zC) (len : Nat) (μ : zMu) (ν : zNu) (x1 : Int32) (xs0 : Int32) : zE zc_X7_readUnit call 34 [.ref 57, .int x1] [.int xs0] (zm len μ ν) = (if xs0 = 0 ∨ xs0 = 1 then some (.int xs0, (zm len μ ν)) else none) :=
  (zE_runc zg_X7_readUnit [7, 23, 34, 35, 48, 56, 63] 2000 34 _ _ _).trans rfl
set_option maxRecDepth 50000 in
theorem B_X7_readUnit_35 (call : zC) (len : Nat) (μ : zMu) (ν : zNu) (x1 : Int32) : zE zc_X7_readUnit call 35 [.ref 57, .int x1] [] (zm len μ ν) = (if x1 = (2 : Int32) then zbi (call 130 [.ref 6] (zm len μ ν)) (fun w' M' => zE zc_X7_readUnit call 48 [.ref 57, .int x1] [.int w', .ref 57] M') else zbv (call 93 [.ref 57, .int (-x1)] (zm len μ ν)) (fun M' => zE zc_X7_readUnit call 56 [.ref 57, .int x1] [] M')) :=
  (zE_runc zg_X7_readUnit [7, 23, 34, 35, 48, 56, 63] 2000 35 _ _ _).trans rfl
set_option maxRecDepth 50000 in
theorem B_X7_readUnit_48 (call : zC) (len : Nat) (μ : zMu) (ν : zNu) (x1 : Int32) (xs0 : Int32) : zE zc_X7_readUnit call 48 [.ref 57, .int x1] [.int xs0, .ref 57] (zm len μ ν) = zbv (call 93 [.ref 57, .int xs0] (zm len μ ν)) (fun M' => zE zc_X7_readUnit call 56 [.ref 57, .int x1] [] M') :=
  (zE_runc zg_X7_readUnit [7, 23, 34, 35, 48, 56, 63] 2000 48 _ _ _).trans rfl
set_option maxRecDepth 50000 in
theorem B_X7_readUnit_56 (call : zC) (len : Nat) (μ : zMu) (ν : zNu) (x1 : Int32) : zE zc_X7_readUnit call 56 [.ref 57, .int x1] [] (zm len μ ν) = zbv (call 132 [.ref 6] (zm len μ ν)) (fun M' => zE zc_X7_readUnit call 63 [.ref 57, .int x1] [] M') :=
  (zE_runc zg_X7_readUnit [7, 23, 34, 35, 48, 56, 63] 2000 56 _ _ _).trans rfl
set_option maxRecDepth 50000 in
theorem B_X7_readUnit_63 (call : zC) (len : Nat) (μ : zMu) (ν : zNu) (x1 : Int32) : zE zc_X7_readUnit call 63 [.ref 57, .int x1] [] (zm len μ ν) = some (.int (1 : Int32), (zm len μ ν)) :=
  (zE_runc zg_X7_readUnit [7, 23, 34, 35, 48, 56, 63] 2000 63 _ _ _).trans rfl
set_option maxRecDepth 50000 in
theorem B_X7_readDivisor (d len : Nat) (μ : zMu) (ν : zNu)  : zF zT0 (d + 1) 92 [.ref 57] (zm len μ ν) = (fun call => zbi (call 129 [.ref 6] (zm len μ ν)) (fun w' M' => zE zc_X7_readDivisor call 7 [.ref 57] [.int w'] M')) (zF zT0 d) :=
  (show _ = zE zc_X7_readDivisor (zF zT0 d) 0 [.ref 57] [] (zm len μ ν) from rfl).trans ((zE_runc zg_X7_readDivisor [7, 19, 27, 38, 47, 50, 57] 2000 0 _ _ _).trans rfl)
set_option maxRecDepth 50000 in
theorem B_X7_readDivisor_7 (call : zC) (len : Nat) (μ : zMu) (ν : zNu) (xs0 : Int32) : zE zc_X7_readDivisor call 7 [.ref 57] [.int xs0] (zm len μ ν) = (if xs0 = (2 : Int32) then zbi (call 130 [.ref 6] (zm len μ ν)) (fun w' M' => zE zc_X7_readDivisor call 27 [.ref 57] [.int w'] M') else zbi (call 134 [.ref 6, .int (1 : Int32)] (zm len μ ν)) (fun w' M' => zE zc_X7_readDivisor call 19 [.ref 57] [.int w'] M')) :=
  (zE_runc zg_X7_readDivisor [7, 19, 27, 38, 47, 50, 57] 2000 7 _ _ _).trans rfl
set_option maxRecDepth 50000 in
theorem B_X7_readDivisor_19 (call : zC) (len : Nat) (μ : zMu) (ν : zNu) (xs0 : Int32) : zE zc_X7_readDivisor call 19 [.ref 57] [.int xs0] (zm len μ ν) = (if xs0 = 0 ∨ xs0 = 1 then some (.int xs0, (zm len μ ν)) else none) :=
  (zE_runc zg_X7_readDivisor [7, 19, 27, 38, 47, 50, 57] 2000 19 _ _ _).trans rfl
set_option maxRecDepth 50000 in
theorem B_X7_readDivisor_27 (call : zC) (len : Nat) (μ : zMu) (ν : zNu) (xs0 : Int32) : zE zc_X7_readDivisor call 27 [.ref 57] [.int xs0] (zm len μ ν) = (if xs0 = 0 then zbi (call 134 [.ref 6, .int (2 : Int32)] (zm len μ ν)) (fun w' M' => zE zc_X7_readDivisor call 38 [.ref 57] [.int w'] M') else zbi (call 130 [.ref 6] (zm len μ ν)) (fun w' M' => zE zc_X7_readDivisor call 47 [.ref 57] [.int w', .ref 57] M')) :=
  (zE_runc zg_X7_readDivisor [7, 19, 27, 38, 47, 50, 57] 2000 27 _ _ _).trans rfl
set_option maxRecDepth 50000 in
theorem B_X7_readDivisor_38 (call : zC) (len : Nat) (μ : zMu) (ν : zNu) (xs0 : Int32) : zE zc_X7_readDivisor call 38 [.ref 57] [.int xs0] (zm len μ ν) = (if xs0 = 0 ∨ xs0 = 1 then some (.int xs0, (zm len μ ν)) else none) :=
  (zE_runc zg_X7_readDivisor [7, 19, 27, 38, 47, 50, 57] 2000 38 _ _ _).trans rfl
set_option maxRecDepth 50000 in
theorem B_X7_readDivisor_47 (call : zC) (len : Nat) (μ : zMu) (ν : zNu) (xs0 : Int32) : zE zc_X7_readDivisor call 47 [.ref 57] [.int xs0, .ref 57] (zm len μ ν) = zbv (call 93 [.ref 57, .int xs0] (zm len μ ν)) (fun M' => zE zc_X7_readDivisor call 50 [.ref 57] [] M') :=
  (zE_runc zg_X7_readDivisor [7, 19, 27, 38, 47, 50, 57] 2000 47 _ _ _).trans rfl
set_option maxRecDepth 50000 in
theorem B_X7_readDivisor_50 (call : zC) (len : Nat) (μ : zMu) (ν : zNu)  : zE zc_X7_readDivisor call 50 [.ref 57] [] (zm len μ ν) = zbv (call 132 [.ref 6] (zm len μ ν)) (fun M' => zE zc_X7_readDivisor call 57 [.ref 57] [] M') :=
  (zE_runc zg_X7_readDivisor [7, 19, 27, 38, 47, 50, 57] 2000 50 _ _ _).trans rfl
set_option maxRecDepth 50000 in
theorem B_X7_readDivisor_57 (call : zC) (len : Nat) (μ : zMu) (ν : zNu)  : zE zc_X7_readDivisor call 57 [.ref 57] [] (zm len μ ν) = some (.int (1 : Int32), (zm len μ ν)) :=
  (zE_runc zg_X7_readDivisor [7, 19, 27, 38, 47, 50, 57] 2000 57 _ _ _).trans rfl
set_option maxRecDepth 50000 in
theorem B_X7_write (d len : Nat) (μ : zMu) (ν : zNu) (a0 : Int32) : zF zT0 (d + 1) 93 [.ref 57, .int a0] (zm len μ ν) = (fun call => (if (Int32.ofNat 800) ≤ (μ 57 7) then some (.null, (zm len μ ν)) else (if 0 ≤ ((μ 57 7)).toInt ∧ ((μ 57 7)).toInt < ((800 : Nat) : Int) then some (.null, (zm len (zup (zup μ 62 ((μ 57 7)).toNatClampNeg a0) 57 7 ((μ 57 7) + (1 : Int32))) ν)) else none))) (zF zT0 d) :=
  (show _ = zE zc_X7_write (zF zT0 d) 0 [.ref 57, .int a0] [] (zm len μ ν) from rfl).trans ((zE_runc zg_X7_write [] 2000 0 _ _ _).trans rfl)
set_option maxRecDepth 50000 in
theorem B_X7_amountOf (d len : Nat) (μ : zMu) (ν : zNu) (a0 : Int32) : zF zT0 (d + 1) 94 [.ref 57, .int a0, .ref 73] (zm len μ ν) = (fun call => zbi (call 175 [.int a0, .int (0 : Int32), .int ((μ 57 1) - (1 : Int32))] (zm len μ ν)) (fun w' M' => zE zc_X7_amountOf call 11 [.ref 57, .int a0, .ref 73, zU] [.int w'] M')) (zF zT0 d) :=
  (show _ = zE zc_X7_amountOf (zF zT0 d) 0 [.ref 57, .int a0, .ref 73, zU] [] (zm len μ ν) from rfl).trans ((zE_runc zg_X7_amountOf [11, 32, 65, 70, 86] 2000 0 _ _ _).trans rfl)
set_option maxRecDepth 50000 in
theorem B_X7_amountOf_11 (call : zC) (len : Nat) (μ : zMu) (ν : zNu) (x1 : Int32) (v3 : Value) (xs0 : Int32) : zE zc_X7_amountOf call 11 [.ref 57, .int x1, .ref 73, v3] [.int xs0] (zm len μ ν) = (if xs0 = 0 then some (.int (0 : Int32), (zm len μ ν)) else (if x1 = 0 then zE zc_X7_amountOf call 32 [.ref 57, .int x1, .ref 73, v3] [.int (0 : Int32)] (zm len μ ν) else (if 0 ≤ ((x1 - (1 : Int32))).toInt ∧ ((x1 - (1 : Int32))).toInt < ((16 : Nat) : Int) then zE zc_X7_amountOf call 32 [.ref 57, .int x1, .ref 73, v3] [.int (μ 61 ((x1 - (1 : Int32))).toNatClampNeg)] (zm len μ ν) else none))) :=
  (zE_runc zg_X7_amountOf [11, 32, 65, 70, 86] 2000 11 _ _ _).trans rfl
set_option maxRecDepth 50000 in
theorem B_X7_amountOf_32 (call : zC) (len : Nat) (μ : zMu) (ν : zNu) (x1 : Int32) (v3 : Value) (xs0 : Int32) : zE zc_X7_amountOf call 32 [.ref 57, .int x1, .ref 73, v3] [.int xs0] (zm len μ ν) = (if 0 ≤ (x1).toInt ∧ (x1).toInt < ((16 : Nat) : Int) then (if 0 ≤ (x1).toInt ∧ (x1).toInt < ((16 : Nat) : Int) then (if (μ 61 (x1).toNatClampNeg) ≤ (μ 60 (x1).toNatClampNeg) then zE zc_X7_amountOf call 70 [.ref 57, .int x1, .ref 73, .int xs0] [] (zm len μ ν) else (if 0 ≤ (x1).toInt ∧ (x1).toInt < ((16 : Nat) : Int) then (if 0 ≤ (x1).toInt ∧ (x1).toInt < ((16 : Nat) : Int) then zbi (call 95 [.ref 57, .int (μ 60 (x1).toNatClampNeg), .int (μ 61 (x1).toNatClampNeg), .ref 73] (zm len μ ν)) (fun w' M' => zE zc_X7_amountOf call 65 [.ref 57, .int x1, .ref 73, .int xs0] [.int w'] M') else none) else none)) else none) else none) :=
  (zE_runc zg_X7_amountOf [11, 32, 65, 70, 86] 2000 32 _ _ _).trans rfl
set_option maxRecDepth 50000 in
theorem B_X7_amountOf_65 (call : zC) (len : Nat) (μ : zMu) (ν : zNu) (x1 : Int32) (x3 : Int32) (xs0 : Int32) : zE zc_X7_amountOf call 65 [.ref 57, .int x1, .ref 73, .int x3] [.int xs0] (zm len μ ν) = (if xs0 = 0 then some (.int (0 : Int32), (zm len μ ν)) else zE zc_X7_amountOf call 70 [.ref 57, .int x1, .ref 73, .int x3] [] (zm len μ ν)) :=
  (zE_runc zg_X7_amountOf [11, 32, 65, 70, 86] 2000 65 _ _ _).trans rfl
set_option maxRecDepth 50000 in
theorem B_X7_amountOf_70 (call : zC) (len : Nat) (μ : zMu) (ν : zNu) (x1 : Int32) (x3 : Int32) : zE zc_X7_amountOf call 70 [.ref 57, .int x1, .ref 73, .int x3] [] (zm len μ ν) = (if 0 ≤ (x1).toInt ∧ (x1).toInt < ((16 : Nat) : Int) then zbi (call 95 [.ref 57, .int x3, .int (μ 60 (x1).toNatClampNeg), .ref 73] (zm len μ ν)) (fun w' M' => zE zc_X7_amountOf call 86 [.ref 57, .int x1, .ref 73, .int x3] [.int w', .int (9999 : Int32), .int (0 : Int32)] M') else none) :=
  (zE_runc zg_X7_amountOf [11, 32, 65, 70, 86] 2000 70 _ _ _).trans rfl
set_option maxRecDepth 50000 in
theorem B_X7_amountOf_86 (call : zC) (len : Nat) (μ : zMu) (ν : zNu) (x1 : Int32) (x3 : Int32) (xs0 : Int32) (xs1 : Int32) (xs2 : Int32) : zE zc_X7_amountOf call 86 [.ref 57, .int x1, .ref 73, .int x3] [.int xs0, .int xs1, .int xs2] (zm len μ ν) = some (.int (if xs2 < (if xs0 < xs1 then xs0 else xs1) then (if xs0 < xs1 then xs0 else xs1) else xs2), (zm len μ ν)) :=
  (zE_runc zg_X7_amountOf [11, 32, 65, 70, 86] 2000 86 _ _ _).trans rfl
set_option maxRecDepth 50000 in
theorem B_X7_reckon (d len : Nat) (μ : zMu) (ν : zNu) (a0 : Int32) (a1 : Int32) : zF zT0 (d + 1) 95 [.ref 57, .int a0, .int a1, .ref 73] (zm len μ ν) = (fun call => zE zc_X7_reckon call 6 [.ref 57, .int a0, .int a1, .ref 73, .int (0 : Int32), .int a0, zU, zU] [] (zm len μ ν)) (zF zT0 d) :=
  (show _ = zE zc_X7_reckon (zF zT0 d) 0 [.ref 57, .int a0, .int a1, .ref 73, zU, zU, zU, zU] [] (zm len μ ν) from rfl).trans ((zE_runc zg_X7_reckon [6, 91, 94, 121, 137, 148, 167, 168] 2000 0 _ _ _).trans rfl)
set_option maxRecDepth 50000 in
theorem B_X7_reckon_6 (call : zC) (len : Nat) (μ : zMu) (ν : zNu) (x1 : Int32) (x2 : Int32) (x4 : Int32) (x5 : Int32) (v6 : Value) (v7 : Value) : zE zc_X7_reckon call 6 [.ref 57, .int x1, .int x2, .ref 73, .int x4, .int x5, v6, v7] [] (zm len μ ν) = (if x2 ≤ x5 then some (.int (μ 66 0), (zm len μ ν)) else (if (Int32.ofNat 800) ≤ x5 then some (.int (μ 66 0), (zm len μ ν)) else (if 0 ≤ (x5).toInt ∧ (x5).toInt < ((800 : Nat) : Int) then (if (μ 58 (x5).toNatClampNeg) = (-137 : Int32) then (if x4 ≤ 0 then zE zc_X7_reckon call 168 [.ref 57, .int x1, .int x2, .ref 73, .int x4, .int x5, .int (μ 58 (x5).toNatClampNeg), .int ((-(μ 58 (x5).toNatClampNeg)) - (138 : Int32))] [] (zm len μ ν) else (if 0 ≤ ((x4 - (1 : Int32))).toInt ∧ ((x4 - (1 : Int32))).toInt < ((64 : Nat) : Int) then (if 0 ≤ ((x4 - (1 : Int32))).toInt ∧ ((x4 - (1 : Int32))).toInt < ((64 : Nat) : Int) then zE zc_X7_reckon call 168 [.ref 57, .int x1, .int x2, .ref 73, .int x4, .int x5, .int (μ 58 (x5).toNatClampNeg), .int ((-(μ 58 (x5).toNatClampNeg)) - (138 : Int32))] [] (zm len (zup μ 66 ((x4 - (1 : Int32))).toNatClampNeg ((1 : Int32) - (μ 66 ((x4 - (1 : Int32))).toNatClampNeg))) ν) else none) else none)) else (if 0 ≤ (μ 58 (x5).toNatClampNeg) then zE zc_X7_reckon call 94 [.ref 57, .int x1, .int x2, .ref 73, .int x4, .int x5, .int (μ 58 (x5).toNatClampNeg), .int ((-(μ 58 (x5).toNatClampNeg)) - (138 : Int32))] [] (zm len μ ν) else zbi (call 175 [.int ((-(μ 58 (x5).toNatClampNeg)) - (138 : Int32)), .int (0 : Int32), .int ((Int32.ofNat 5) - (1 : Int32))] (zm len μ ν)) (fun w' M' => zE zc_X7_reckon call 91 [.ref 57, .int x1, .int x2, .ref 73, .int x4, .int x5, .int (μ 58 (x5).toNatClampNeg), .int ((-(μ 58 (x5).toNatClampNeg)) - (138 : Int32))] [.int w'] M'))) else none))) :=
  (zE_runc zg_X7_reckon [6, 91, 94, 121, 137, 148, 167, 168] 2000 6 _ _ _).trans rfl
set_option maxRecDepth 50000 in
theorem B_X7_reckon_91 (call : zC) (len : Nat) (μ : zMu) (ν : zNu) (x1 : Int32) (x2 : Int32) (x4 : Int32) (x5 : Int32) (x6 : Int32) (x7 : Int32) (xs0 : Int32) : zE zc_X7_reckon call 91 [.ref 57, .int x1, .int x2, .ref 73, .int x4, .int x5, .int x6, .int x7] [.int xs0] (zm len μ ν) = (if xs0 = 0 then (if x4 ≤ (1 : Int32) then zE zc_X7_reckon call 168 [.ref 57, .int x1, .int x2, .ref 73, .int x4, .int x5, .int x6, .int x7] [] (zm len μ ν) else zE zc_X7_reckon call 137 [.ref 57, .int x1, .int x2, .ref 73, .int (x4 + (-1 : Int32)), .int x5, .int x6, .int x7] [] (zm len μ ν)) else zE zc_X7_reckon call 94 [.ref 57, .int x1, .int x2, .ref 73, .int x4, .int x5, .int x6, .int x7] [] (zm len μ ν)) :=
  (zE_runc zg_X7_reckon [6, 91, 94, 121, 137, 148, 167, 168] 2000 91 _ _ _).trans rfl
set_option maxRecDepth 50000 in
theorem B_X7_reckon_94 (call : zC) (len : Nat) (μ : zMu) (ν : zNu) (x1 : Int32) (x2 : Int32) (x4 : Int32) (x5 : Int32) (x6 : Int32) (x7 : Int32) : zE zc_X7_reckon call 94 [.ref 57, .int x1, .int x2, .ref 73, .int x4, .int x5, .int x6, .int x7] [] (zm len μ ν) = (if (64 : Int32) ≤ x4 then zE zc_X7_reckon call 168 [.ref 57, .int x1, .int x2, .ref 73, .int x4, .int x5, .int x6, .int x7] [] (zm len μ ν) else (if x6 < 0 then (if 0 ≤ (x7).toInt ∧ (x7).toInt < ((5 : Nat) : Int) then zE zc_X7_reckon call 121 [.ref 57, .int x1, .int x2, .ref 73, .int x4, .int x5, .int x6, .int x7] [.int (μ 73 (x7).toNatClampNeg), .int x4, .ref 66] (zm len μ ν) else none) else zE zc_X7_reckon call 121 [.ref 57, .int x1, .int x2, .ref 73, .int x4, .int x5, .int x6, .int x7] [.int x6, .int x4, .ref 66] (zm len μ ν))) :=
  (zE_runc zg_X7_reckon [6, 91, 94, 121, 137, 148, 167, 168] 2000 94 _ _ _).trans rfl
set_option maxRecDepth 50000 in
theorem B_X7_reckon_121 (call : zC) (len : Nat) (μ : zMu) (ν : zNu) (x1 : Int32) (x2 : Int32) (x4 : Int32) (x5 : Int32) (x6 : Int32) (x7 : Int32) (xs0 : Int32) (xs1 : Int32) : zE zc_X7_reckon call 121 [.ref 57, .int x1, .int x2, .ref 73, .int x4, .int x5, .int x6, .int x7] [.int xs0, .int xs1, .ref 66] (zm len μ ν) = (if 0 ≤ (xs1).toInt ∧ (xs1).toInt < ((64 : Nat) : Int) then zE zc_X7_reckon call 168 [.ref 57, .int x1, .int x2, .ref 73, .int (x4 + (1 : Int32)), .int x5, .int x6, .int x7] [] (zm len (zup μ 66 (xs1).toNatClampNeg xs0) ν) else none) :=
  (zE_runc zg_X7_reckon [6, 91, 94, 121, 137, 148, 167, 168] 2000 121 _ _ _).trans rfl
set_option maxRecDepth 50000 in
theorem B_X7_reckon_137 (call : zC) (len : Nat) (μ : zMu) (ν : zNu) (x1 : Int32) (x2 : Int32) (x4 : Int32) (x5 : Int32) (x6 : Int32) (x7 : Int32) : zE zc_X7_reckon call 137 [.ref 57, .int x1, .int x2, .ref 73, .int x4, .int x5, .int x6, .int x7] [] (zm len μ ν) = zE zc_X7_reckon call 148 [.ref 57, .int x1, .int x2, .ref 73, .int x4, .int x5, .int x6, .int x7] [.int (-x6), .int (x4 - (1 : Int32)), .ref 66] (zm len μ ν) :=
  (zE_runc zg_X7_reckon [6, 91, 94, 121, 137, 148, 167, 168] 2000 137 _ _ _).trans rfl
set_option maxRecDepth 50000 in
theorem B_X7_reckon_148 (call : zC) (len : Nat) (μ : zMu) (ν : zNu) (x1 : Int32) (x2 : Int32) (x4 : Int32) (x5 : Int32) (x6 : Int32) (x7 : Int32) (xs0 : Int32) (xs1 : Int32) : zE zc_X7_reckon call 148 [.ref 57, .int x1, .int x2, .ref 73, .int x4, .int x5, .int x6, .int x7] [.int xs0, .int xs1, .ref 66] (zm len μ ν) = (if 0 ≤ ((x4 - (1 : Int32))).toInt ∧ ((x4 - (1 : Int32))).toInt < ((64 : Nat) : Int) then (if 0 ≤ (x4).toInt ∧ (x4).toInt < ((64 : Nat) : Int) then zbi (call 96 [.int xs0, .int (μ 66 ((x4 - (1 : Int32))).toNatClampNeg), .int (μ 66 (x4).toNatClampNeg)] (zm len μ ν)) (fun w' M' => zE zc_X7_reckon call 167 [.ref 57, .int x1, .int x2, .ref 73, .int x4, .int x5, .int x6, .int x7] [.int w', .int xs1, .ref 66] M') else none) else none) :=
  (zE_runc zg_X7_reckon [6, 91, 94, 121, 137, 148, 167, 168] 2000 148 _ _ _).trans rfl
set_option maxRecDepth 50000 in
theorem B_X7_reckon_167 (call : zC) (len : Nat) (μ : zMu) (ν : zNu) (x1 : Int32) (x2 : Int32) (x4 : Int32) (x5 : Int32) (x6 : Int32) (x7 : Int32) (xs0 : Int32) (xs1 : Int32) : zE zc_X7_reckon call 167 [.ref 57, .int x1, .int x2, .ref 73, .int x4, .int x5, .int x6, .int x7] [.int xs0, .int xs1, .ref 66] (zm len μ ν) = (if 0 ≤ (xs1).toInt ∧ (xs1).toInt < ((64 : Nat) : Int) then zE zc_X7_reckon call 168 [.ref 57, .int x1, .int x2, .ref 73, .int x4, .int x5, .int x6, .int x7] [] (zm len (zup μ 66 (xs1).toNatClampNeg xs0) ν) else none) :=
  (zE_runc zg_X7_reckon [6, 91, 94, 121, 137, 148, 167, 168] 2000 167 _ _ _).trans rfl
set_option maxRecDepth 50000 in
theorem B_X7_reckon_168 (call : zC) (len : Nat) (μ : zMu) (ν : zNu) (x1 : Int32) (x2 : Int32) (x4 : Int32) (x5 : Int32) (x6 : Int32) (x7 : Int32) : zE zc_X7_reckon call 168 [.ref 57, .int x1, .int x2, .ref 73, .int x4, .int x5, .int x6, .int x7] [] (zm len μ ν) = zE zc_X7_reckon call 6 [.ref 57, .int x1, .int x2, .ref 73, .int x4, .int (x5 + (1 : Int32)), .int x6, .int x7] [] (zm len μ ν) :=
  (zE_runc zg_X7_reckon [6, 91, 94, 121, 137, 148, 167, 168] 2000 168 _ _ _).trans rfl
set_option maxRecDepth 50000 in
theorem B_X7_joined (d len : Nat) (μ : zMu) (ν : zNu) (a0 : Int32) (a1 : Int32) (a2 : Int32) : zF zT0 (d + 1) 96 [.int a0, .int a1, .int a2] (zm len μ ν) = (fun call => (if a0 = (42 : Int32) then some (.int (a1 * a2), (zm len μ ν)) else (if a0 = (43 : Int32) then some (.int (a1 + a2), (zm len μ ν)) else (if a0 = (45 : Int32) then some (.int (a1 - a2), (zm len μ ν)) else (if a0 = (47 : Int32) then (if a2 = 0 then some (.int (0 : Int32), (zm len μ ν)) else (if a2 = 0 then none else some (.int (a1 / a2), (zm len μ ν)))) else (if a0 = (60 : Int32) then (if a2 ≤ a1 then some (.int (0 : Int32), (zm len μ ν)) else some (.int (1 : Int32), (zm len μ ν))) else (if a0 = (61 : Int32) then (if a1 = a2 then some (.int (1 : Int32), (zm len μ ν)) else some (.int (0 : Int32), (zm len μ ν))) else (if a0 = (62 : Int32) then (if a1 ≤ a2 then some (.int (0 : Int32), (zm len μ ν)) else some (.int (1 : Int32), (zm len μ ν))) else (if a0 = (136 : Int32) then some (.int (a1 &&& a2), (zm len μ ν)) else some (.int (a1 ||| a2), (zm len μ ν))))))))))) (zF zT0 d) :=
  (show _ = zE zc_X7_joined (zF zT0 d) 0 [.int a0, .int a1, .int a2] [] (zm len μ ν) from rfl).trans ((zE_runc zg_X7_joined [] 2000 0 _ _ _).trans rfl)
set_option maxRecDepth 50000 in
theorem B_X8_isSealing (d len : Nat) (μ : zMu) (ν : zNu) (a0 : Int32) : zF zT0 (d + 1) 98 [.ref 45, .int a0] (zm len μ ν) = (fun call => zbi (call 175 [.int a0, .int (0 : Int32), .int ((μ 45 0) - (1 : Int32))] (zm len μ ν)) (fun w' M' => zE zc_X8_isSealing call 11 [.ref 45, .int a0] [.int w'] M')) (zF zT0 d) :=
  (show _ = zE zc_X8_isSealing (zF zT0 d) 0 [.ref 45, .int a0] [] (zm len μ ν) from rfl).trans ((zE_runc zg_X8_isSealing [11] 2000 0 _ _ _).trans rfl)
set_option maxRecDepth 50000 in
theorem B_X8_isSealing_11 (call : zC) (len : Nat) (μ : zMu) (ν : zNu) (x1 : Int32) (xs0 : Int32) : zE zc_X8_isSealing call 11 [.ref 45, .int x1] [.int xs0] (zm len μ ν) = (if xs0 = 0 ∨ xs0 = 1 then some (.int xs0, (zm len μ ν)) else none) :=
  (zE_runc zg_X8_isSealing [11] 2000 11 _ _ _).trans rfl
set_option maxRecDepth 50000 in
theorem B_X8_size (d len : Nat) (μ : zMu) (ν : zNu)  : zF zT0 (d + 1) 99 [.ref 45] (zm len μ ν) = (fun call => some (.int (μ 45 0), (zm len μ ν))) (zF zT0 d) :=
  (show _ = zE zc_X8_size (zF zT0 d) 0 [.ref 45] [] (zm len μ ν) from rfl).trans ((zE_runc zg_X8_size [] 2000 0 _ _ _).trans rfl)
set_option maxRecDepth 50000 in
theorem B_X8_add (d len : Nat) (μ : zMu) (ν : zNu)  : zF zT0 (d + 1) 100 [.ref 45] (zm len μ ν) = (fun call => (if (μ 45 0) < (10 : Int32) then some (.int (((μ 45 0) + (1 : Int32)) - (1 : Int32)), (zm len (zup μ 45 0 ((μ 45 0) + (1 : Int32))) ν)) else some (.int (-1 : Int32), (zm len μ ν)))) (zF zT0 d) :=
  (show _ = zE zc_X8_add (zF zT0 d) 0 [.ref 45] [] (zm len μ ν) from rfl).trans ((zE_runc zg_X8_add [] 2000 0 _ _ _).trans rfl)
set_option maxRecDepth 50000 in
theorem B_X8_lay (d len : Nat) (μ : zMu) (ν : zNu) (a0 : Int32) (a1 : Int32) : zF zT0 (d + 1) 101 [.ref 45, .int a0, .int a1] (zm len μ ν) = (fun call => zbi (call 98 [.ref 45, .int a0] (zm len μ ν)) (fun w' M' => zE zc_X8_lay call 5 [.ref 45, .int a0, .int a1] [.int w'] M')) (zF zT0 d) :=
  (show _ = zE zc_X8_lay (zF zT0 d) 0 [.ref 45, .int a0, .int a1] [] (zm len μ ν) from rfl).trans ((zE_runc zg_X8_lay [5, 13] 2000 0 _ _ _).trans rfl)
set_option maxRecDepth 50000 in
theorem B_X8_lay_5 (call : zC) (len : Nat) (μ : zMu) (ν : zNu) (x1 : Int32) (x2 : Int32) (xs0 : Int32) : zE zc_X8_lay call 5 [.ref 45, .int x1, .int x2] [.int xs0] (zm len μ ν) = (if xs0 = 0 then some (.int (0 : Int32), (zm len μ ν)) else zbi (call 98 [.ref 45, .int x2] (zm len μ ν)) (fun w' M' => zE zc_X8_lay call 13 [.ref 45, .int x1, .int x2] [.int w'] M')) :=
  (zE_runc zg_X8_lay [5, 13] 2000 5 _ _ _).trans rfl
set_option maxRecDepth 50000 in
theorem B_X8_lay_13 (call : zC) (len : Nat) (μ : zMu) (ν : zNu) (x1 : Int32) (x2 : Int32) (xs0 : Int32) : zE zc_X8_lay call 13 [.ref 45, .int x1, .int x2] [.int xs0] (zm len μ ν) = (if xs0 = 0 then some (.int (0 : Int32), (zm len μ ν)) else (if x1 = x2 then some (.int (0 : Int32), (zm len μ ν)) else (if 0 ≤ (x1).toInt ∧ (x1).toInt < ((10 : Nat) : Int) then (if (((μ 46 (x1).toNatClampNeg) >>> (x2 &&& 31)) &&& (1 : Int32)) = 0 then (if 0 ≤ (x1).toInt ∧ (x1).toInt < ((10 : Nat) : Int) then (if 0 ≤ (x1).toInt ∧ (x1).toInt < ((10 : Nat) : Int) then some (.int (1 : Int32), (zm len (zup μ 46 (x1).toNatClampNeg ((μ 46 (x1).toNatClampNeg) ||| ((1 : Int32) <<< (x2 &&& 31)))) ν)) else none) else none) else some (.int (0 : Int32), (zm len μ ν))) else none))) :=
  (zE_runc zg_X8_lay [5, 13] 2000 13 _ _ _).trans rfl
set_option maxRecDepth 50000 in
theorem B_X8_answer (d len : Nat) (μ : zMu) (ν : zNu) (a0 : Int32) : zF zT0 (d + 1) 102 [.ref 45, .int a0] (zm len μ ν) = (fun call => (if a0 = 0 then zbi (call 103 [.ref 45] (zm len μ ν)) (fun w' M' => zE zc_X8_answer call 8 [.ref 45, .int a0, zU] [.int w'] M') else zbi (call 175 [.int a0, .int (10 : Int32), .int (((10 : Int32) + (μ 45 0)) - (1 : Int32))] (zm len μ ν)) (fun w' M' => zE zc_X8_answer call 24 [.ref 45, .int a0, zU] [.int w'] M'))) (zF zT0 d) :=
  (show _ = zE zc_X8_answer (zF zT0 d) 0 [.ref 45, .int a0, zU] [] (zm len μ ν) from rfl).trans ((zE_runc zg_X8_answer [8, 24, 31, 56, 63, 70] 2000 0 _ _ _).trans rfl)
set_option maxRecDepth 50000 in
theorem B_X8_answer_8 (call : zC) (len : Nat) (μ : zMu) (ν : zNu) (x1 : Int32) (v2 : Value) (xs0 : Int32) : zE zc_X8_answer call 8 [.ref 45, .int x1, v2] [.int xs0] (zm len μ ν) = some (.int xs0, (zm len μ ν)) :=
  (zE_runc zg_X8_answer [8, 24, 31, 56, 63, 70] 2000 8 _ _ _).trans rfl
set_option maxRecDepth 50000 in
theorem B_X8_answer_24 (call : zC) (len : Nat) (μ : zMu) (ν : zNu) (x1 : Int32) (v2 : Value) (xs0 : Int32) : zE zc_X8_answer call 24 [.ref 45, .int x1, v2] [.int xs0] (zm len μ ν) = (if xs0 = 0 then zbi (call 175 [.int x1, .int (20 : Int32), .int (30 : Int32)] (zm len μ ν)) (fun w' M' => zE zc_X8_answer call 56 [.ref 45, .int x1, v2] [.int w'] M') else zbi (call 104 [.ref 45] (zm len μ ν)) (fun w' M' => zE zc_X8_answer call 31 [.ref 45, .int x1, v2] [.int w'] M')) :=
  (zE_runc zg_X8_answer [8, 24, 31, 56, 63, 70] 2000 24 _ _ _).trans rfl
set_option maxRecDepth 50000 in
theorem B_X8_answer_31 (call : zC) (len : Nat) (μ : zMu) (ν : zNu) (x1 : Int32) (v2 : Value) (xs0 : Int32) : zE zc_X8_answer call 31 [.ref 45, .int x1, v2] [.int xs0] (zm len μ ν) = (if xs0 = 0 then some (.int (-1 : Int32), (zm len μ ν)) else (if 0 ≤ ((x1 - (10 : Int32))).toInt ∧ ((x1 - (10 : Int32))).toInt < ((10 : Nat) : Int) then some (.int (μ 48 ((x1 - (10 : Int32))).toNatClampNeg), (zm len μ ν)) else none)) :=
  (zE_runc zg_X8_answer [8, 24, 31, 56, 63, 70] 2000 31 _ _ _).trans rfl
set_option maxRecDepth 50000 in
theorem B_X8_answer_56 (call : zC) (len : Nat) (μ : zMu) (ν : zNu) (x1 : Int32) (v2 : Value) (xs0 : Int32) : zE zc_X8_answer call 56 [.ref 45, .int x1, v2] [.int xs0] (zm len μ ν) = (if xs0 = 0 then some (.int (-1 : Int32), (zm len μ ν)) else zbi (call 104 [.ref 45] (zm len μ ν)) (fun w' M' => zE zc_X8_answer call 63 [.ref 45, .int x1, v2] [.int w'] M')) :=
  (zE_runc zg_X8_answer [8, 24, 31, 56, 63, 70] 2000 56 _ _ _).trans rfl
set_option maxRecDepth 50000 in
theorem B_X8_answer_63 (call : zC) (len : Nat) (μ : zMu) (ν : zNu) (x1 : Int32) (v2 : Value) (xs0 : Int32) : zE zc_X8_answer call 63 [.ref 45, .int x1, v2] [.int xs0] (zm len μ ν) = (if xs0 = 0 then zbi (call 105 [.ref 45] (zm len μ ν)) (fun w' M' => zE zc_X8_answer call 70 [.ref 45, .int x1, v2] [.int w'] M') else some (.int (-1 : Int32), (zm len μ ν))) :=
  (zE_runc zg_X8_answer [8, 24, 31, 56, 63, 70] 2000 63 _ _ _).trans rfl
set_option maxRecDepth 50000 in
theorem B_X8_answer_70 (call : zC) (len : Nat) (μ : zMu) (ν : zNu) (x1 : Int32) (v2 : Value) (xs0 : Int32) : zE zc_X8_answer call 70 [.ref 45, .int x1, v2] [.int xs0] (zm len μ ν) = (if x1 = (20 : Int32) then some (.int xs0, (zm len μ ν)) else (if xs0 ≤ (x1 - (21 : Int32)) then some (.int (-1 : Int32), (zm len μ ν)) else (if 0 ≤ ((x1 - (21 : Int32))).toInt ∧ ((x1 - (21 : Int32))).toInt < ((10 : Nat) : Int) then some (.int (μ 49 ((x1 - (21 : Int32))).toNatClampNeg), (zm len μ ν)) else none))) :=
  (zE_runc zg_X8_answer [8, 24, 31, 56, 63, 70] 2000 70 _ _ _).trans rfl
set_option maxRecDepth 50000 in
theorem B_X8_countOrders (d len : Nat) (μ : zMu) (ν : zNu)  : zF zT0 (d + 1) 103 [.ref 45] (zm len μ ν) = (fun call => zE zc_X8_countOrders call 16 [.ref 45, .int ((1 : Int32) <<< ((μ 45 0) &&& 31)), .int (1 : Int32), zU, zU] [] (zm len (zup μ 47 0 (1 : Int32)) ν)) (zF zT0 d) :=
  (show _ = zE zc_X8_countOrders (zF zT0 d) 0 [.ref 45, zU, zU, zU, zU] [] (zm len μ ν) from rfl).trans ((zE_runc zg_X8_countOrders [16, 30, 83] 2000 0 _ _ _).trans rfl)
set_option maxRecDepth 50000 in
theorem B_X8_countOrders_16 (call : zC) (len : Nat) (μ : zMu) (ν : zNu) (x1 : Int32) (x2 : Int32) (v3 : Value) (v4 : Value) : zE zc_X8_countOrders call 16 [.ref 45, .int x1, .int x2, v3, v4] [] (zm len μ ν) = (if x1 ≤ x2 then (if 0 ≤ ((x1 - (1 : Int32))).toInt ∧ ((x1 - (1 : Int32))).toInt < ((1024 : Nat) : Int) then some (.int (μ 47 ((x1 - (1 : Int32))).toNatClampNeg), (zm len μ ν)) else none) else (if 0 ≤ (x2).toInt ∧ (x2).toInt < ((1024 : Nat) : Int) then zE zc_X8_countOrders call 30 [.ref 45, .int x1, .int x2, .int (0 : Int32), v4] [] (zm len (zup μ 47 (x2).toNatClampNeg (0 : Int32)) ν) else none)) :=
  (zE_runc zg_X8_countOrders [16, 30, 83] 2000 16 _ _ _).trans rfl
set_option maxRecDepth 50000 in
theorem B_X8_countOrders_30 (call : zC) (len : Nat) (μ : zMu) (ν : zNu) (x1 : Int32) (x2 : Int32) (x3 : Int32) (v4 : Value) : zE zc_X8_countOrders call 30 [.ref 45, .int x1, .int x2, .int x3, v4] [] (zm len μ ν) = (if (μ 45 0) ≤ x3 then zE zc_X8_countOrders call 16 [.ref 45, .int x1, .int (x2 + (1 : Int32)), .int x3, v4] [] (zm len μ ν) else (if (x2 &&& (((1 : Int32) <<< (x3 &&& 31)) ^^^ (-1 : Int32))) = x2 then zE zc_X8_countOrders call 83 [.ref 45, .int x1, .int x2, .int x3, .int (x2 &&& (((1 : Int32) <<< (x3 &&& 31)) ^^^ (-1 : Int32)))] [] (zm len μ ν) else (if 0 ≤ (x3).toInt ∧ (x3).toInt < ((10 : Nat) : Int) then (if ((μ 46 (x3).toNatClampNeg) &&& ((x2 &&& (((1 : Int32) <<< (x3 &&& 31)) ^^^ (-1 : Int32))) ^^^ (-1 : Int32))) = 0 then (if 0 ≤ (x2).toInt ∧ (x2).toInt < ((1024 : Nat) : Int) then (if 0 ≤ ((x2 &&& (((1 : Int32) <<< (x3 &&& 31)) ^^^ (-1 : Int32)))).toInt ∧ ((x2 &&& (((1 : Int32) <<< (x3 &&& 31)) ^^^ (-1 : Int32)))).toInt < ((1024 : Nat) : Int) then (if 0 ≤ (x2).toInt ∧ (x2).toInt < ((1024 : Nat) : Int) then zE zc_X8_countOrders call 83 [.ref 45, .int x1, .int x2, .int x3, .int (x2 &&& (((1 : Int32) <<< (x3 &&& 31)) ^^^ (-1 : Int32)))] [] (zm len (zup μ 47 (x2).toNatClampNeg ((μ 47 (x2).toNatClampNeg) + (μ 47 ((x2 &&& (((1 : Int32) <<< (x3 &&& 31)) ^^^ (-1 : Int32)))).toNatClampNeg))) ν) else none) else none) else none) else zE zc_X8_countOrders call 83 [.ref 45, .int x1, .int x2, .int x3, .int (x2 &&& (((1 : Int32) <<< (x3 &&& 31)) ^^^ (-1 : Int32)))] [] (zm len μ ν)) else none))) :=
  (zE_runc zg_X8_countOrders [16, 30, 83] 2000 30 _ _ _).trans rfl
set_option maxRecDepth 50000 in
theorem B_X8_countOrders_83 (call : zC) (len : Nat) (μ : zMu) (ν : zNu) (x1 : Int32) (x2 : Int32) (x3 : Int32) (x4 : Int32) : zE zc_X8_countOrders call 83 [.ref 45, .int x1, .int x2, .int x3, .int x4] [] (zm len μ ν) = zE zc_X8_countOrders call 30 [.ref 45, .int x1, .int x2, .int (x3 + (1 : Int32)), .int x4] [] (zm len μ ν) :=
  (zE_runc zg_X8_countOrders [16, 30, 83] 2000 83 _ _ _).trans rfl
set_option maxRecDepth 50000 in
theorem B_X8_findFirst (d len : Nat) (μ : zMu) (ν : zNu)  : zF zT0 (d + 1) 104 [.ref 45] (zm len μ ν) = (fun call => zE zc_X8_findFirst call 4 [.ref 45, .int (0 : Int32), .int (0 : Int32), zU] [] (zm len μ ν)) (zF zT0 d) :=
  (show _ = zE zc_X8_findFirst (zF zT0 d) 0 [.ref 45, zU, zU, zU] [] (zm len μ ν) from rfl).trans ((zE_runc zg_X8_findFirst [4, 14, 43, 49] 2000 0 _ _ _).trans rfl)
set_option maxRecDepth 50000 in
theorem B_X8_findFirst_4 (call : zC) (len : Nat) (μ : zMu) (ν : zNu) (x1 : Int32) (x2 : Int32) (v3 : Value) : zE zc_X8_findFirst call 4 [.ref 45, .int x1, .int x2, v3] [] (zm len μ ν) = (if (μ 45 0) ≤ x2 then some (.int (1 : Int32), (zm len μ ν)) else zE zc_X8_findFirst call 14 [.ref 45, .int x1, .int x2, .int (0 : Int32)] [] (zm len μ ν)) :=
  (zE_runc zg_X8_findFirst [4, 14, 43, 49] 2000 4 _ _ _).trans rfl
set_option maxRecDepth 50000 in
theorem B_X8_findFirst_14 (call : zC) (len : Nat) (μ : zMu) (ν : zNu) (x1 : Int32) (x2 : Int32) (x3 : Int32) : zE zc_X8_findFirst call 14 [.ref 45, .int x1, .int x2, .int x3] [] (zm len μ ν) = (if (μ 45 0) ≤ x3 then zE zc_X8_findFirst call 49 [.ref 45, .int x1, .int x2, .int x3] [] (zm len μ ν) else (if ((x1 >>> (x3 &&& 31)) &&& (1 : Int32)) = 0 then (if 0 ≤ (x3).toInt ∧ (x3).toInt < ((10 : Nat) : Int) then (if ((μ 46 (x3).toNatClampNeg) &&& (x1 ^^^ (-1 : Int32))) = 0 then zE zc_X8_findFirst call 49 [.ref 45, .int x1, .int x2, .int x3] [] (zm len μ ν) else zE zc_X8_findFirst call 43 [.ref 45, .int x1, .int x2, .int x3] [] (zm len μ ν)) else none) else zE zc_X8_findFirst call 43 [.ref 45, .int x1, .int x2, .int x3] [] (zm len μ ν))) :=
  (zE_runc zg_X8_findFirst [4, 14, 43, 49] 2000 14 _ _ _).trans rfl
set_option maxRecDepth 50000 in
theorem B_X8_findFirst_43 (call : zC) (len : Nat) (μ : zMu) (ν : zNu) (x1 : Int32) (x2 : Int32) (x3 : Int32) : zE zc_X8_findFirst call 43 [.ref 45, .int x1, .int x2, .int x3] [] (zm len μ ν) = zE zc_X8_findFirst call 14 [.ref 45, .int x1, .int x2, .int (x3 + (1 : Int32))] [] (zm len μ ν) :=
  (zE_runc zg_X8_findFirst [4, 14, 43, 49] 2000 43 _ _ _).trans rfl
set_option maxRecDepth 50000 in
theorem B_X8_findFirst_49 (call : zC) (len : Nat) (μ : zMu) (ν : zNu) (x1 : Int32) (x2 : Int32) (x3 : Int32) : zE zc_X8_findFirst call 49 [.ref 45, .int x1, .int x2, .int x3] [] (zm len μ ν) = (if x3 = (μ 45 0) then some (.int (0 : Int32), (zm len μ ν)) else (if 0 ≤ (x2).toInt ∧ (x2).toInt < ((10 : Nat) : Int) then zE zc_X8_findFirst call 4 [.ref 45, .int (x1 ||| ((1 : Int32) <<< (x3 &&& 31))), .int (x2 + (1 : Int32)), .int x3] [] (zm len (zup μ 48 (x2).toNatClampNeg x3) ν) else none)) :=
  (zE_runc zg_X8_findFirst [4, 14, 43, 49] 2000 49 _ _ _).trans rfl
set_option maxRecDepth 50000 in
theorem B_X8_findRing (d len : Nat) (μ : zMu) (ν : zNu)  : zF zT0 (d + 1) 105 [.ref 45] (zm len μ ν) = (fun call => zE zc_X8_findRing call 2 [.ref 45, .int (2 : Int32), zU] [] (zm len μ ν)) (zF zT0 d) :=
  (show _ = zE zc_X8_findRing (zF zT0 d) 0 [.ref 45, zU, zU] [] (zm len μ ν) from rfl).trans ((zE_runc zg_X8_findRing [2, 12, 26, 45] 2000 0 _ _ _).trans rfl)
set_option maxRecDepth 50000 in
theorem B_X8_findRing_2 (call : zC) (len : Nat) (μ : zMu) (ν : zNu) (x1 : Int32) (v2 : Value) : zE zc_X8_findRing call 2 [.ref 45, .int x1, v2] [] (zm len μ ν) = (if (μ 45 0) < x1 then some (.int (0 : Int32), (zm len μ ν)) else zE zc_X8_findRing call 12 [.ref 45, .int x1, .int (0 : Int32)] [] (zm len μ ν)) :=
  (zE_runc zg_X8_findRing [2, 12, 26, 45] 2000 2 _ _ _).trans rfl
set_option maxRecDepth 50000 in
theorem B_X8_findRing_12 (call : zC) (len : Nat) (μ : zMu) (ν : zNu) (x1 : Int32) (x2 : Int32) : zE zc_X8_findRing call 12 [.ref 45, .int x1, .int x2] [] (zm len μ ν) = (if (μ 45 0) ≤ x2 then zE zc_X8_findRing call 2 [.ref 45, .int (x1 + (1 : Int32)), .int x2] [] (zm len μ ν) else zbv (call 106 [.ref 45, .int x2, .int x1] (zm len μ ν)) (fun M' => zE zc_X8_findRing call 26 [.ref 45, .int x1, .int x2] [] M')) :=
  (zE_runc zg_X8_findRing [2, 12, 26, 45] 2000 12 _ _ _).trans rfl
set_option maxRecDepth 50000 in
theorem B_X8_findRing_26 (call : zC) (len : Nat) (μ : zMu) (ν : zNu) (x1 : Int32) (x2 : Int32) : zE zc_X8_findRing call 26 [.ref 45, .int x1, .int x2] [] (zm len μ ν) = (if 0 ≤ (x1).toInt ∧ (x1).toInt < ((11 : Nat) : Int) then (if (((μ 50 (x1).toNatClampNeg) >>> (x2 &&& 31)) &&& (1 : Int32)) = 0 then zE zc_X8_findRing call 12 [.ref 45, .int x1, .int (x2 + (1 : Int32))] [] (zm len μ ν) else zbv (call 107 [.ref 45, .int x2, .int x1] (zm len μ ν)) (fun M' => zE zc_X8_findRing call 45 [.ref 45, .int x1, .int x2] [] M')) else none) :=
  (zE_runc zg_X8_findRing [2, 12, 26, 45] 2000 26 _ _ _).trans rfl
set_option maxRecDepth 50000 in
theorem B_X8_findRing_45 (call : zC) (len : Nat) (μ : zMu) (ν : zNu) (x1 : Int32) (x2 : Int32) : zE zc_X8_findRing call 45 [.ref 45, .int x1, .int x2] [] (zm len μ ν) = some (.int x1, (zm len μ ν)) :=
  (zE_runc zg_X8_findRing [2, 12, 26, 45] 2000 45 _ _ _).trans rfl
set_option maxRecDepth 50000 in
theorem B_X8_findWaysBack (d len : Nat) (μ : zMu) (ν : zNu) (a0 : Int32) (a1 : Int32) : zF zT0 (d + 1) 106 [.ref 45, .int a0, .int a1] (zm len μ ν) = (fun call => zE zc_X8_findWaysBack call 11 [.ref 45, .int a0, .int a1, .int (1 : Int32), zU] [] (zm len (zup μ 50 0 ((1 : Int32) <<< (a0 &&& 31))) ν)) (zF zT0 d) :=
  (show _ = zE zc_X8_findWaysBack (zF zT0 d) 0 [.ref 45, .int a0, .int a1, zU, zU] [] (zm len μ ν) from rfl).trans ((zE_runc zg_X8_findWaysBack [11, 26, 67] 2000 0 _ _ _).trans rfl)
set_option maxRecDepth 50000 in
theorem B_X8_findWaysBack_11 (call : zC) (len : Nat) (μ : zMu) (ν : zNu) (x1 : Int32) (x2 : Int32) (x3 : Int32) (v4 : Value) : zE zc_X8_findWaysBack call 11 [.ref 45, .int x1, .int x2, .int x3, v4] [] (zm len μ ν) = (if x2 < x3 then some (.null, (zm len μ ν)) else (if 0 ≤ (x3).toInt ∧ (x3).toInt < ((11 : Nat) : Int) then zE zc_X8_findWaysBack call 26 [.ref 45, .int x1, .int x2, .int x3, .int (0 : Int32)] [] (zm len (zup μ 50 (x3).toNatClampNeg (0 : Int32)) ν) else none)) :=
  (zE_runc zg_X8_findWaysBack [11, 26, 67] 2000 11 _ _ _).trans rfl
set_option maxRecDepth 50000 in
theorem B_X8_findWaysBack_26 (call : zC) (len : Nat) (μ : zMu) (ν : zNu) (x1 : Int32) (x2 : Int32) (x3 : Int32) (x4 : Int32) : zE zc_X8_findWaysBack call 26 [.ref 45, .int x1, .int x2, .int x3, .int x4] [] (zm len μ ν) = (if (μ 45 0) ≤ x4 then zE zc_X8_findWaysBack call 11 [.ref 45, .int x1, .int x2, .int (x3 + (1 : Int32)), .int x4] [] (zm len μ ν) else (if 0 ≤ (x4).toInt ∧ (x4).toInt < ((10 : Nat) : Int) then (if 0 ≤ ((x3 - (1 : Int32))).toInt ∧ ((x3 - (1 : Int32))).toInt < ((11 : Nat) : Int) then (if ((μ 46 (x4).toNatClampNeg) &&& (μ 50 ((x3 - (1 : Int32))).toNatClampNeg)) = 0 then zE zc_X8_findWaysBack call 67 [.ref 45, .int x1, .int x2, .int x3, .int x4] [] (zm len μ ν) else (if 0 ≤ (x3).toInt ∧ (x3).toInt < ((11 : Nat) : Int) then (if 0 ≤ (x3).toInt ∧ (x3).toInt < ((11 : Nat) : Int) then zE zc_X8_findWaysBack call 67 [.ref 45, .int x1, .int x2, .int x3, .int x4] [] (zm len (zup μ 50 (x3).toNatClampNeg ((μ 50 (x3).toNatClampNeg) ||| ((1 : Int32) <<< (x4 &&& 31)))) ν) else none) else none)) else none) else none)) :=
  (zE_runc zg_X8_findWaysBack [11, 26, 67] 2000 26 _ _ _).trans rfl
set_option maxRecDepth 50000 in
theorem B_X8_findWaysBack_67 (call : zC) (len : Nat) (μ : zMu) (ν : zNu) (x1 : Int32) (x2 : Int32) (x3 : Int32) (x4 : Int32) : zE zc_X8_findWaysBack call 67 [.ref 45, .int x1, .int x2, .int x3, .int x4] [] (zm len μ ν) = zE zc_X8_findWaysBack call 26 [.ref 45, .int x1, .int x2, .int x3, .int (x4 + (1 : Int32))] [] (zm len μ ν) :=
  (zE_runc zg_X8_findWaysBack [11, 26, 67] 2000 67 _ _ _).trans rfl
set_option maxRecDepth 50000 in
theorem B_X8_walkRing (d len : Nat) (μ : zMu) (ν : zNu) (a0 : Int32) (a1 : Int32) : zF zT0 (d + 1) 107 [.ref 45, .int a0, .int a1] (zm len μ ν) = (fun call => zE zc_X8_walkRing call 9 [.ref 45, .int a0, .int a1, .int (1 : Int32), zU] [] (zm len (zup μ 49 0 a0) ν)) (zF zT0 d) :=
  (show _ = zE zc_X8_walkRing (zF zT0 d) 0 [.ref 45, .int a0, .int a1, zU, zU] [] (zm len μ ν) from rfl).trans ((zE_runc zg_X8_walkRing [9, 39] 2000 0 _ _ _).trans rfl)
set_option maxRecDepth 50000 in
theorem B_X8_walkRing_9 (call : zC) (len : Nat) (μ : zMu) (ν : zNu) (x1 : Int32) (x2 : Int32) (x3 : Int32) (v4 : Value) : zE zc_X8_walkRing call 9 [.ref 45, .int x1, .int x2, .int x3, v4] [] (zm len μ ν) = (if x2 ≤ x3 then some (.null, (zm len μ ν)) else (if 0 ≤ ((x3 - (1 : Int32))).toInt ∧ ((x3 - (1 : Int32))).toInt < ((10 : Nat) : Int) then (if 0 ≤ ((μ 49 ((x3 - (1 : Int32))).toNatClampNeg)).toInt ∧ ((μ 49 ((x3 - (1 : Int32))).toNatClampNeg)).toInt < ((10 : Nat) : Int) then (if 0 ≤ ((x2 - x3)).toInt ∧ ((x2 - x3)).toInt < ((11 : Nat) : Int) then zbi (call 294 [.int ((μ 46 ((μ 49 ((x3 - (1 : Int32))).toNatClampNeg)).toNatClampNeg) &&& (μ 50 ((x2 - x3)).toNatClampNeg))] (zm len μ ν)) (fun w' M' => zE zc_X8_walkRing call 39 [.ref 45, .int x1, .int x2, .int x3, v4] [.int w'] M') else none) else none) else none)) :=
  (zE_runc zg_X8_walkRing [9, 39] 2000 9 _ _ _).trans rfl
set_option maxRecDepth 50000 in
theorem B_X8_walkRing_39 (call : zC) (len : Nat) (μ : zMu) (ν : zNu) (x1 : Int32) (x2 : Int32) (x3 : Int32) (v4 : Value) (xs0 : Int32) : zE zc_X8_walkRing call 39 [.ref 45, .int x1, .int x2, .int x3, v4] [.int xs0] (zm len μ ν) = (if 0 ≤ (x3).toInt ∧ (x3).toInt < ((10 : Nat) : Int) then zE zc_X8_walkRing call 9 [.ref 45, .int x1, .int x2, .int (x3 + (1 : Int32)), .int xs0] [] (zm len (zup μ 49 (x3).toNatClampNeg (if ((μ 45 0) - (1 : Int32)) < xs0 then ((μ 45 0) - (1 : Int32)) else xs0)) ν) else none) :=
  (zE_runc zg_X8_walkRing [9, 39] 2000 39 _ _ _).trans rfl
set_option maxRecDepth 50000 in
theorem B_X8_compare (d len : Nat) (μ : zMu) (ν : zNu) (a0 : Int32) (a1 : Int32) : zF zT0 (d + 1) 108 [.ref 45, .int a0, .int a1] (zm len μ ν) = (fun call => zbi (call 98 [.ref 45, .int a0] (zm len μ ν)) (fun w' M' => zE zc_X8_compare call 5 [.ref 45, .int a0, .int a1] [.int w'] M')) (zF zT0 d) :=
  (show _ = zE zc_X8_compare (zF zT0 d) 0 [.ref 45, .int a0, .int a1] [] (zm len μ ν) from rfl).trans ((zE_runc zg_X8_compare [5, 13, 25, 35, 49] 2000 0 _ _ _).trans rfl)
set_option maxRecDepth 50000 in
theorem B_X8_compare_5 (call : zC) (len : Nat) (μ : zMu) (ν : zNu) (x1 : Int32) (x2 : Int32) (xs0 : Int32) : zE zc_X8_compare call 5 [.ref 45, .int x1, .int x2] [.int xs0] (zm len μ ν) = (if xs0 = 0 then some (.int (-1 : Int32), (zm len μ ν)) else zbi (call 98 [.ref 45, .int x2] (zm len μ ν)) (fun w' M' => zE zc_X8_compare call 13 [.ref 45, .int x1, .int x2] [.int w'] M')) :=
  (zE_runc zg_X8_compare [5, 13, 25, 35, 49] 2000 5 _ _ _).trans rfl
set_option maxRecDepth 50000 in
theorem B_X8_compare_13 (call : zC) (len : Nat) (μ : zMu) (ν : zNu) (x1 : Int32) (x2 : Int32) (xs0 : Int32) : zE zc_X8_compare call 13 [.ref 45, .int x1, .int x2] [.int xs0] (zm len μ ν) = (if xs0 = 0 then some (.int (-1 : Int32), (zm len μ ν)) else (if x1 = x2 then some (.int (-1 : Int32), (zm len μ ν)) else zbi (call 104 [.ref 45] (zm len μ ν)) (fun w' M' => zE zc_X8_compare call 25 [.ref 45, .int x1, .int x2] [.int w'] M'))) :=
  (zE_runc zg_X8_compare [5, 13, 25, 35, 49] 2000 13 _ _ _).trans rfl
set_option maxRecDepth 50000 in
theorem B_X8_compare_25 (call : zC) (len : Nat) (μ : zMu) (ν : zNu) (x1 : Int32) (x2 : Int32) (xs0 : Int32) : zE zc_X8_compare call 25 [.ref 45, .int x1, .int x2] [.int xs0] (zm len μ ν) = (if xs0 = 0 then some (.int (-1 : Int32), (zm len μ ν)) else zbi (call 109 [.ref 45, .int x2] (zm len μ ν)) (fun w' M' => zE zc_X8_compare call 35 [.ref 45, .int x1, .int x2] [.int w'] M')) :=
  (zE_runc zg_X8_compare [5, 13, 25, 35, 49] 2000 25 _ _ _).trans rfl
set_option maxRecDepth 50000 in
theorem B_X8_compare_35 (call : zC) (len : Nat) (μ : zMu) (ν : zNu) (x1 : Int32) (x2 : Int32) (xs0 : Int32) : zE zc_X8_compare call 35 [.ref 45, .int x1, .int x2] [.int xs0] (zm len μ ν) = (if ((xs0 >>> (x1 &&& 31)) &&& (1 : Int32)) = 0 then zbi (call 109 [.ref 45, .int x1] (zm len μ ν)) (fun w' M' => zE zc_X8_compare call 49 [.ref 45, .int x1, .int x2] [.int w'] M') else some (.int (1 : Int32), (zm len μ ν))) :=
  (zE_runc zg_X8_compare [5, 13, 25, 35, 49] 2000 35 _ _ _).trans rfl
set_option maxRecDepth 50000 in
theorem B_X8_compare_49 (call : zC) (len : Nat) (μ : zMu) (ν : zNu) (x1 : Int32) (x2 : Int32) (xs0 : Int32) : zE zc_X8_compare call 49 [.ref 45, .int x1, .int x2] [.int xs0] (zm len μ ν) = (if ((xs0 >>> (x2 &&& 31)) &&& (1 : Int32)) = 0 then some (.int (2 : Int32), (zm len μ ν)) else some (.int (0 : Int32), (zm len μ ν))) :=
  (zE_runc zg_X8_compare [5, 13, 25, 35, 49] 2000 49 _ _ _).trans rfl
set_option maxRecDepth 50000 in
theorem B_X8_allUnder (d len : Nat) (μ : zMu) (ν : zNu) (a0 : Int32) : zF zT0 (d + 1) 109 [.ref 45, .int a0] (zm len μ ν) = (fun call => (if 0 ≤ (a0).toInt ∧ (a0).toInt < ((10 : Nat) : Int) then zE zc_X8_allUnder call 9 [.ref 45, .int a0, .int (μ 46 (a0).toNatClampNeg), .int (0 : Int32), zU] [] (zm len μ ν) else none)) (zF zT0 d) :=
  (show _ = zE zc_X8_allUnder (zF zT0 d) 0 [.ref 45, .int a0, zU, zU, zU] [] (zm len μ ν) from rfl).trans ((zE_runc zg_X8_allUnder [9, 20, 48] 2000 0 _ _ _).trans rfl)
set_option maxRecDepth 50000 in
theorem B_X8_allUnder_9 (call : zC) (len : Nat) (μ : zMu) (ν : zNu) (x1 : Int32) (x2 : Int32) (x3 : Int32) (v4 : Value) : zE zc_X8_allUnder call 9 [.ref 45, .int x1, .int x2, .int x3, v4] [] (zm len μ ν) = (if (μ 45 0) ≤ x3 then some (.int x2, (zm len μ ν)) else zE zc_X8_allUnder call 20 [.ref 45, .int x1, .int x2, .int x3, .int (0 : Int32)] [] (zm len μ ν)) :=
  (zE_runc zg_X8_allUnder [9, 20, 48] 2000 9 _ _ _).trans rfl
set_option maxRecDepth 50000 in
theorem B_X8_allUnder_20 (call : zC) (len : Nat) (μ : zMu) (ν : zNu) (x1 : Int32) (x2 : Int32) (x3 : Int32) (x4 : Int32) : zE zc_X8_allUnder call 20 [.ref 45, .int x1, .int x2, .int x3, .int x4] [] (zm len μ ν) = (if (μ 45 0) ≤ x4 then zE zc_X8_allUnder call 9 [.ref 45, .int x1, .int x2, .int (x3 + (1 : Int32)), .int x4] [] (zm len μ ν) else (if ((x2 >>> (x4 &&& 31)) &&& (1 : Int32)) = 0 then zE zc_X8_allUnder call 48 [.ref 45, .int x1, .int x2, .int x3, .int x4] [] (zm len μ ν) else (if 0 ≤ (x4).toInt ∧ (x4).toInt < ((10 : Nat) : Int) then zE zc_X8_allUnder call 48 [.ref 45, .int x1, .int (x2 ||| (μ 46 (x4).toNatClampNeg)), .int x3, .int x4] [] (zm len μ ν) else none))) :=
  (zE_runc zg_X8_allUnder [9, 20, 48] 2000 20 _ _ _).trans rfl
set_option maxRecDepth 50000 in
theorem B_X8_allUnder_48 (call : zC) (len : Nat) (μ : zMu) (ν : zNu) (x1 : Int32) (x2 : Int32) (x3 : Int32) (x4 : Int32) : zE zc_X8_allUnder call 48 [.ref 45, .int x1, .int x2, .int x3, .int x4] [] (zm len μ ν) = zE zc_X8_allUnder call 20 [.ref 45, .int x1, .int x2, .int x3, .int (x4 + (1 : Int32))] [] (zm len μ ν) :=
  (zE_runc zg_X8_allUnder [9, 20, 48] 2000 48 _ _ _).trans rfl
set_option maxRecDepth 50000 in
theorem B_X9_has (d len : Nat) (μ : zMu) (ν : zNu) (a0 : Int32) : zF zT0 (d + 1) 111 [.ref 27, .int a0] (zm len μ ν) = (fun call => zbi (call 175 [.int a0, .int (0 : Int32), .int (11 : Int32)] (zm len μ ν)) (fun w' M' => zE zc_X9_has call 7 [.ref 27, .int a0] [.int w'] M')) (zF zT0 d) :=
  (show _ = zE zc_X9_has (zF zT0 d) 0 [.ref 27, .int a0] [] (zm len μ ν) from rfl).trans ((zE_runc zg_X9_has [7] 2000 0 _ _ _).trans rfl)
set_option maxRecDepth 50000 in
theorem B_X9_has_7 (call : zC) (len : Nat) (μ : zMu) (ν : zNu) (x1 : Int32) (xs0 : Int32) : zE zc_X9_has call 7 [.ref 27, .int x1] [.int xs0] (zm len μ ν) = (if xs0 = 0 ∨ xs0 = 1 then some (.int xs0, (zm len μ ν)) else none) :=
  (zE_runc zg_X9_has [7] 2000 7 _ _ _).trans rfl
set_option maxRecDepth 50000 in
theorem B_X9_keep (d len : Nat) (μ : zMu) (ν : zNu) (a0 : Int32) (a2 : Int32) : zF zT0 (d + 1) 112 [.ref 27, .int a0, .ref 11, .int a2] (zm len μ ν) = (fun call => zbi (call 111 [.ref 27, .int a0] (zm len μ ν)) (fun w' M' => zE zc_X9_keep call 5 [.ref 27, .int a0, .ref 11, .int a2, zU, zU] [.int w'] M')) (zF zT0 d) :=
  (show _ = zE zc_X9_keep (zF zT0 d) 0 [.ref 27, .int a0, .ref 11, .int a2, zU, zU] [] (zm len μ ν) from rfl).trans ((zE_runc zg_X9_keep [5, 28, 121] 2000 0 _ _ _).trans rfl)
set_option maxRecDepth 50000 in
theorem B_X9_keep_5 (call : zC) (len : Nat) (μ : zMu) (ν : zNu) (x1 : Int32) (x3 : Int32) (v4 : Value) (v5 : Value) (xs0 : Int32) : zE zc_X9_keep call 5 [.ref 27, .int x1, .ref 11, .int x3, v4, v5] [.int xs0] (zm len μ ν) = (if xs0 = 0 then some (.null, (zm len μ ν)) else (if 0 ≤ (x1).toInt ∧ (x1).toInt < ((12 : Nat) : Int) then (if 0 ≤ (x1).toInt ∧ (x1).toInt < ((12 : Nat) : Int) then zE zc_X9_keep call 28 [.ref 27, .int x1, .ref 11, .int x3, .int (0 : Int32), v5] [] (zm len (zup (zup μ 28 (x1).toNatClampNeg x3) 29 (x1).toNatClampNeg (μ 11 2)) ν) else none) else none)) :=
  (zE_runc zg_X9_keep [5, 28, 121] 2000 5 _ _ _).trans rfl
set_option maxRecDepth 50000 in
theorem B_X9_keep_28 (call : zC) (len : Nat) (μ : zMu) (ν : zNu) (x1 : Int32) (x3 : Int32) (x4 : Int32) (v5 : Value) : zE zc_X9_keep call 28 [.ref 27, .int x1, .ref 11, .int x3, .int x4, v5] [] (zm len μ ν) = (if (μ 11 2) ≤ x4 then some (.null, (zm len μ ν)) else (if 0 ≤ (x4).toInt ∧ (x4).toInt < ((24 : Nat) : Int) then (if 0 ≤ (((x1 * (24 : Int32)) + x4)).toInt ∧ (((x1 * (24 : Int32)) + x4)).toInt < ((288 : Nat) : Int) then (if 0 ≤ (x4).toInt ∧ (x4).toInt < ((24 : Nat) : Int) then (if 0 ≤ (((x1 * (24 : Int32)) + x4)).toInt ∧ (((x1 * (24 : Int32)) + x4)).toInt < ((288 : Nat) : Int) then (if 0 ≤ (x4).toInt ∧ (x4).toInt < ((24 : Nat) : Int) then (if 0 ≤ (((x1 * (24 : Int32)) + x4)).toInt ∧ (((x1 * (24 : Int32)) + x4)).toInt < ((288 : Nat) : Int) then (if 0 ≤ (x4).toInt ∧ (x4).toInt < ((24 : Nat) : Int) then (if 0 ≤ (((x1 * (24 : Int32)) + x4)).toInt ∧ (((x1 * (24 : Int32)) + x4)).toInt < ((288 : Nat) : Int) then (if 0 ≤ (x4).toInt ∧ (x4).toInt < ((24 : Nat) : Int) then (if 0 ≤ ((μ 17 (x4).toNatClampNeg)).toInt ∧ ((μ 17 (x4).toNatClampNeg)).toInt < ((24 : Nat) : Int) then (if 0 ≤ (((x1 * (24 : Int32)) + x4)).toInt ∧ (((x1 * (24 : Int32)) + x4)).toInt < ((288 : Nat) : Int) then zE zc_X9_keep call 121 [.ref 27, .int x1, .ref 11, .int x3, .int x4, .int ((x1 * (24 : Int32)) + x4)] [] (zm len (zup (zup (zup (zup (zup μ 30 (((x1 * (24 : Int32)) + x4)).toNatClampNeg (μ 12 (x4).toNatClampNeg)) 31 (((x1 * (24 : Int32)) + x4)).toNatClampNeg (μ 13 (x4).toNatClampNeg)) 32 (((x1 * (24 : Int32)) + x4)).toNatClampNeg (μ 15 (x4).toNatClampNeg)) 33 (((x1 * (24 : Int32)) + x4)).toNatClampNeg (μ 16 (x4).toNatClampNeg)) 34 (((x1 * (24 : Int32)) + x4)).toNatClampNeg (μ 21 ((μ 17 (x4).toNatClampNeg)).toNatClampNeg)) ν) else none) else none) else none) else none) else none) else none) else none) else none) else none) else none) else none)) :=
  (zE_runc zg_X9_keep [5, 28, 121] 2000 28 _ _ _).trans rfl
set_option maxRecDepth 50000 in
theorem B_X9_keep_121 (call : zC) (len : Nat) (μ : zMu) (ν : zNu) (x1 : Int32) (x3 : Int32) (x4 : Int32) (x5 : Int32) : zE zc_X9_keep call 121 [.ref 27, .int x1, .ref 11, .int x3, .int x4, .int x5] [] (zm len μ ν) = zE zc_X9_keep call 28 [.ref 27, .int x1, .ref 11, .int x3, .int (x4 + (1 : Int32)), .int x5] [] (zm len μ ν) :=
  (zE_runc zg_X9_keep [5, 28, 121] 2000 121 _ _ _).trans rfl
set_option maxRecDepth 50000 in
theorem B_X9_lineOf (d len : Nat) (μ : zMu) (ν : zNu) (a0 : Int32) (a1 : Int32) (a2 : Int32) : zF zT0 (d + 1) 113 [.ref 27, .int a0, .int a1, .int a2] (zm len μ ν) = (fun call => zbi (call 111 [.ref 27, .int a0] (zm len μ ν)) (fun w' M' => zE zc_X9_lineOf call 5 [.ref 27, .int a0, .int a1, .int a2, zU] [.int w'] M')) (zF zT0 d) :=
  (show _ = zE zc_X9_lineOf (zF zT0 d) 0 [.ref 27, .int a0, .int a1, .int a2, zU] [] (zm len μ ν) from rfl).trans ((zE_runc zg_X9_lineOf [5, 21] 2000 0 _ _ _).trans rfl)
set_option maxRecDepth 50000 in
theorem B_X9_lineOf_5 (call : zC) (len : Nat) (μ : zMu) (ν : zNu) (x1 : Int32) (x2 : Int32) (x3 : Int32) (v4 : Value) (xs0 : Int32) : zE zc_X9_lineOf call 5 [.ref 27, .int x1, .int x2, .int x3, v4] [.int xs0] (zm len μ ν) = (if xs0 = 0 then some (.int (-1 : Int32), (zm len μ ν)) else (if 0 ≤ (x1).toInt ∧ (x1).toInt < ((12 : Nat) : Int) then zbi (call 175 [.int x2, .int (0 : Int32), .int ((μ 29 (x1).toNatClampNeg) - (1 : Int32))] (zm len μ ν)) (fun w' M' => zE zc_X9_lineOf call 21 [.ref 27, .int x1, .int x2, .int x3, v4] [.int w'] M') else none)) :=
  (zE_runc zg_X9_lineOf [5, 21] 2000 5 _ _ _).trans rfl
set_option maxRecDepth 50000 in
theorem B_X9_lineOf_21 (call : zC) (len : Nat) (μ : zMu) (ν : zNu) (x1 : Int32) (x2 : Int32) (x3 : Int32) (v4 : Value) (xs0 : Int32) : zE zc_X9_lineOf call 21 [.ref 27, .int x1, .int x2, .int x3, v4] [.int xs0] (zm len μ ν) = (if xs0 = 0 then some (.int (-1 : Int32), (zm len μ ν)) else (if x3 = (0 : Int32) then (if 0 ≤ (((x1 * (24 : Int32)) + x2)).toInt ∧ (((x1 * (24 : Int32)) + x2)).toInt < ((288 : Nat) : Int) then some (.int (μ 30 (((x1 * (24 : Int32)) + x2)).toNatClampNeg), (zm len μ ν)) else none) else (if x3 = (1 : Int32) then (if 0 ≤ (((x1 * (24 : Int32)) + x2)).toInt ∧ (((x1 * (24 : Int32)) + x2)).toInt < ((288 : Nat) : Int) then some (.int (μ 31 (((x1 * (24 : Int32)) + x2)).toNatClampNeg), (zm len μ ν)) else none) else (if x3 = (2 : Int32) then (if 0 ≤ (((x1 * (24 : Int32)) + x2)).toInt ∧ (((x1 * (24 : Int32)) + x2)).toInt < ((288 : Nat) : Int) then some (.int (μ 32 (((x1 * (24 : Int32)) + x2)).toNatClampNeg), (zm len μ ν)) else none) else (if x3 = (3 : Int32) then (if 0 ≤ (((x1 * (24 : Int32)) + x2)).toInt ∧ (((x1 * (24 : Int32)) + x2)).toInt < ((288 : Nat) : Int) then some (.int (μ 33 (((x1 * (24 : Int32)) + x2)).toNatClampNeg), (zm len μ ν)) else none) else (if x3 = (4 : Int32) then (if 0 ≤ (((x1 * (24 : Int32)) + x2)).toInt ∧ (((x1 * (24 : Int32)) + x2)).toInt < ((288 : Nat) : Int) then some (.int (μ 34 (((x1 * (24 : Int32)) + x2)).toNatClampNeg), (zm len μ ν)) else none) else (if x3 = (5 : Int32) then (if 0 ≤ (x1).toInt ∧ (x1).toInt < ((12 : Nat) : Int) then some (.int (μ 28 (x1).toNatClampNeg), (zm len μ ν)) else none) else some (.int (-1 : Int32), (zm len μ ν))))))))) :=
  (zE_runc zg_X9_lineOf [5, 21] 2000 21 _ _ _).trans rfl
set_option maxRecDepth 50000 in
theorem B_X9_stockOf (d len : Nat) (μ : zMu) (ν : zNu) (a0 : Int32) (a1 : Int32) (a2 : Int32) : zF zT0 (d + 1) 114 [.ref 27, .int a0, .int a1, .int a2] (zm len μ ν) = (fun call => zE zc_X9_stockOf call 6 [.ref 27, .int a0, .int a1, .int a2, .long (0 : Int64), zU, .int (0 : Int32), zU, zU, zU] [] (zm len μ ν)) (zF zT0 d) :=
  (show _ = zE zc_X9_stockOf (zF zT0 d) 0 [.ref 27, .int a0, .int a1, .int a2, zU, zU, zU, zU, zU, zU] [] (zm len μ ν) from rfl).trans ((zE_runc zg_X9_stockOf [6, 16, 85, 86, 128, 134, 164, 167, 173] 2000 0 _ _ _).trans rfl)
set_option maxRecDepth 50000 in
theorem B_X9_stockOf_6 (call : zC) (len : Nat) (μ : zMu) (ν : zNu) (x1 : Int32) (x2 : Int32) (x3 : Int32) (x4 : Int64) (v5 : Value) (x6 : Int32) (v7 : Value) (v8 : Value) (v9 : Value) : zE zc_X9_stockOf call 6 [.ref 27, .int x1, .int x2, .int x3, .long x4, v5, .int x6, v7, v8, v9] [] (zm len μ ν) = (if (12 : Int32) ≤ x6 then some (.long x4, (zm len μ ν)) else zE zc_X9_stockOf call 16 [.ref 27, .int x1, .int x2, .int x3, .long x4, v5, .int x6, .int (0 : Int32), v8, v9] [] (zm len μ ν)) :=
  (zE_runc zg_X9_stockOf [6, 16, 85, 86, 128, 134, 164, 167, 173] 2000 6 _ _ _).trans rfl
set_option maxRecDepth 50000 in
theorem B_X9_stockOf_16 (call : zC) (len : Nat) (μ : zMu) (ν : zNu) (x1 : Int32) (x2 : Int32) (x3 : Int32) (x4 : Int64) (v5 : Value) (x6 : Int32) (x7 : Int32) (v8 : Value) (v9 : Value) : zE zc_X9_stockOf call 16 [.ref 27, .int x1, .int x2, .int x3, .long x4, v5, .int x6, .int x7, v8, v9] [] (zm len μ ν) = (if 0 ≤ (x6).toInt ∧ (x6).toInt < ((12 : Nat) : Int) then (if (μ 29 (x6).toNatClampNeg) ≤ x7 then zE zc_X9_stockOf call 173 [.ref 27, .int x1, .int x2, .int x3, .long x4, v5, .int x6, .int x7, v8, v9] [] (zm len μ ν) else (if 0 ≤ (x6).toInt ∧ (x6).toInt < ((12 : Nat) : Int) then (if x2 < (μ 28 (x6).toNatClampNeg) then zE zc_X9_stockOf call 173 [.ref 27, .int x1, .int x2, .int x3, .long x4, v5, .int x6, .int x7, v8, v9] [] (zm len μ ν) else (if 0 ≤ (((x6 * (24 : Int32)) + x7)).toInt ∧ (((x6 * (24 : Int32)) + x7)).toInt < ((288 : Nat) : Int) then (if (μ 31 (((x6 * (24 : Int32)) + x7)).toNatClampNeg) = x1 then (if 0 ≤ (((x6 * (24 : Int32)) + x7)).toInt ∧ (((x6 * (24 : Int32)) + x7)).toInt < ((288 : Nat) : Int) then (if (μ 30 (((x6 * (24 : Int32)) + x7)).toNatClampNeg) = (2 : Int32) then zE zc_X9_stockOf call 85 [.ref 27, .int x1, .int x2, .int x3, .long x4, v5, .int x6, .int x7, .int ((x6 * (24 : Int32)) + x7), v9] [] (zm len μ ν) else (if 0 ≤ (((x6 * (24 : Int32)) + x7)).toInt ∧ (((x6 * (24 : Int32)) + x7)).toInt < ((288 : Nat) : Int) then (if (μ 34 (((x6 * (24 : Int32)) + x7)).toNatClampNeg) ≤ 0 then zE zc_X9_stockOf call 85 [.ref 27, .int x1, .int x2, .int x3, .long x4, v5, .int x6, .int x7, .int ((x6 * (24 : Int32)) + x7), v9] [] (zm len μ ν) else zE zc_X9_stockOf call 86 [.ref 27, .int x1, .int x2, .int x3, .long x4, v5, .int x6, .int x7, .int ((x6 * (24 : Int32)) + x7), v9] [.int (1 : Int32)] (zm len μ ν)) else none)) else none) else zE zc_X9_stockOf call 85 [.ref 27, .int x1, .int x2, .int x3, .long x4, v5, .int x6, .int x7, .int ((x6 * (24 : Int32)) + x7), v9] [] (zm len μ ν)) else none)) else none)) else none) :=
  (zE_runc zg_X9_stockOf [6, 16, 85, 86, 128, 134, 164, 167, 173] 2000 16 _ _ _).trans rfl
set_option maxRecDepth 50000 in
theorem B_X9_stockOf_85 (call : zC) (len : Nat) (μ : zMu) (ν : zNu) (x1 : Int32) (x2 : Int32) (x3 : Int32) (x4 : Int64) (v5 : Value) (x6 : Int32) (x7 : Int32) (x8 : Int32) (v9 : Value) : zE zc_X9_stockOf call 85 [.ref 27, .int x1, .int x2, .int x3, .long x4, v5, .int x6, .int x7, .int x8, v9] [] (zm len μ ν) = zE zc_X9_stockOf call 86 [.ref 27, .int x1, .int x2, .int x3, .long x4, v5, .int x6, .int x7, .int x8, v9] [.int (0 : Int32)] (zm len μ ν) :=
  (zE_runc zg_X9_stockOf [6, 16, 85, 86, 128, 134, 164, 167, 173] 2000 85 _ _ _).trans rfl
set_option maxRecDepth 50000 in
theorem B_X9_stockOf_86 (call : zC) (len : Nat) (μ : zMu) (ν : zNu) (x1 : Int32) (x2 : Int32) (x3 : Int32) (x4 : Int64) (v5 : Value) (x6 : Int32) (x7 : Int32) (x8 : Int32) (v9 : Value) (xs0 : Int32) : zE zc_X9_stockOf call 86 [.ref 27, .int x1, .int x2, .int x3, .long x4, v5, .int x6, .int x7, .int x8, v9] [.int xs0] (zm len μ ν) = (if xs0 = 0 then zE zc_X9_stockOf call 134 [.ref 27, .int x1, .int x2, .int x3, .long x4, v5, .int x6, .int x7, .int x8, .int xs0] [] (zm len μ ν) else (if 0 ≤ (x8).toInt ∧ (x8).toInt < ((288 : Nat) : Int) then (if (μ 30 (x8).toNatClampNeg) = 0 then (if x3 = 0 then (if 0 ≤ (x8).toInt ∧ (x8).toInt < ((288 : Nat) : Int) then zE zc_X9_stockOf call 128 [.ref 27, .int x1, .int x2, .int x3, .long x4, v5, .int x6, .int x7, .int x8, .int xs0] [.long ((μ 33 (x8).toNatClampNeg)).toInt64, .long x4] (zm len μ ν) else none) else (if 0 ≤ (x8).toInt ∧ (x8).toInt < ((288 : Nat) : Int) then zE zc_X9_stockOf call 128 [.ref 27, .int x1, .int x2, .int x3, .long x4, v5, .int x6, .int x7, .int x8, .int xs0] [.long ((μ 32 (x8).toNatClampNeg)).toInt64, .long x4] (zm len μ ν) else none)) else zE zc_X9_stockOf call 134 [.ref 27, .int x1, .int x2, .int x3, .long x4, v5, .int x6, .int x7, .int x8, .int xs0] [] (zm len μ ν)) else none)) :=
  (zE_runc zg_X9_stockOf [6, 16, 85, 86, 128, 134, 164, 167, 173] 2000 86 _ _ _).trans rfl
set_option maxRecDepth 50000 in
theorem B_X9_stockOf_128 (call : zC) (len : Nat) (μ : zMu) (ν : zNu) (x1 : Int32) (x2 : Int32) (x3 : Int32) (x4 : Int64) (v5 : Value) (x6 : Int32) (x7 : Int32) (x8 : Int32) (x9 : Int32) (xs0 : Int64) (xs1 : Int64) : zE zc_X9_stockOf call 128 [.ref 27, .int x1, .int x2, .int x3, .long x4, v5, .int x6, .int x7, .int x8, .int x9] [.long xs0, .long xs1] (zm len μ ν) = zE zc_X9_stockOf call 167 [.ref 27, .int x1, .int x2, .int x3, .long (xs1 + xs0), zU, .int x6, .int x7, .int x8, .int x9] [] (zm len μ ν) :=
  (zE_runc zg_X9_stockOf [6, 16, 85, 86, 128, 134, 164, 167, 173] 2000 128 _ _ _).trans rfl
set_option maxRecDepth 50000 in
theorem B_X9_stockOf_134 (call : zC) (len : Nat) (μ : zMu) (ν : zNu) (x1 : Int32) (x2 : Int32) (x3 : Int32) (x4 : Int64) (v5 : Value) (x6 : Int32) (x7 : Int32) (x8 : Int32) (x9 : Int32) : zE zc_X9_stockOf call 134 [.ref 27, .int x1, .int x2, .int x3, .long x4, v5, .int x6, .int x7, .int x8, .int x9] [] (zm len μ ν) = (if x9 = 0 then zE zc_X9_stockOf call 167 [.ref 27, .int x1, .int x2, .int x3, .long x4, v5, .int x6, .int x7, .int x8, .int x9] [] (zm len μ ν) else (if x3 = 0 then (if 0 ≤ (x8).toInt ∧ (x8).toInt < ((288 : Nat) : Int) then zE zc_X9_stockOf call 164 [.ref 27, .int x1, .int x2, .int x3, .long x4, v5, .int x6, .int x7, .int x8, .int x9] [.long ((μ 32 (x8).toNatClampNeg)).toInt64, .long x4] (zm len μ ν) else none) else (if 0 ≤ (x8).toInt ∧ (x8).toInt < ((288 : Nat) : Int) then zE zc_X9_stockOf call 164 [.ref 27, .int x1, .int x2, .int x3, .long x4, v5, .int x6, .int x7, .int x8, .int x9] [.long ((μ 33 (x8).toNatClampNeg)).toInt64, .long x4] (zm len μ ν) else none))) :=
  (zE_runc zg_X9_stockOf [6, 16, 85, 86, 128, 134, 164, 167, 173] 2000 134 _ _ _).trans rfl
set_option maxRecDepth 50000 in
theorem B_X9_stockOf_164 (call : zC) (len : Nat) (μ : zMu) (ν : zNu) (x1 : Int32) (x2 : Int32) (x3 : Int32) (x4 : Int64) (v5 : Value) (x6 : Int32) (x7 : Int32) (x8 : Int32) (x9 : Int32) (xs0 : Int64) (xs1 : Int64) : zE zc_X9_stockOf call 164 [.ref 27, .int x1, .int x2, .int x3, .long x4, v5, .int x6, .int x7, .int x8, .int x9] [.long xs0, .long xs1] (zm len μ ν) = zE zc_X9_stockOf call 167 [.ref 27, .int x1, .int x2, .int x3, .long (xs1 - xs0), zU, .int x6, .int x7, .int x8, .int x9] [] (zm len μ ν) :=
  (zE_runc zg_X9_stockOf [6, 16, 85, 86, 128, 134, 164, 167, 173] 2000 164 _ _ _).trans rfl
set_option maxRecDepth 50000 in
theorem B_X9_stockOf_167 (call : zC) (len : Nat) (μ : zMu) (ν : zNu) (x1 : Int32) (x2 : Int32) (x3 : Int32) (x4 : Int64) (v5 : Value) (x6 : Int32) (x7 : Int32) (x8 : Int32) (x9 : Int32) : zE zc_X9_stockOf call 167 [.ref 27, .int x1, .int x2, .int x3, .long x4, v5, .int x6, .int x7, .int x8, .int x9] [] (zm len μ ν) = zE zc_X9_stockOf call 16 [.ref 27, .int x1, .int x2, .int x3, .long x4, v5, .int x6, .int (x7 + (1 : Int32)), .int x8, .int x9] [] (zm len μ ν) :=
  (zE_runc zg_X9_stockOf [6, 16, 85, 86, 128, 134, 164, 167, 173] 2000 167 _ _ _).trans rfl
set_option maxRecDepth 50000 in
theorem B_X9_stockOf_173 (call : zC) (len : Nat) (μ : zMu) (ν : zNu) (x1 : Int32) (x2 : Int32) (x3 : Int32) (x4 : Int64) (v5 : Value) (x6 : Int32) (x7 : Int32) (v8 : Value) (v9 : Value) : zE zc_X9_stockOf call 173 [.ref 27, .int x1, .int x2, .int x3, .long x4, v5, .int x6, .int x7, v8, v9] [] (zm len μ ν) = zE zc_X9_stockOf call 6 [.ref 27, .int x1, .int x2, .int x3, .long x4, (zclr v5), .int (x6 + (1 : Int32)), .int x7, v8, v9] [] (zm len μ ν) :=
  (zE_runc zg_X9_stockOf [6, 16, 85, 86, 128, 134, 164, 167, 173] 2000 173 _ _ _).trans rfl
set_option maxRecDepth 50000 in
theorem B_X9_ofAYear (d len : Nat) (μ : zMu) (ν : zNu)  : zF zT0 (d + 1) 115 [.ref 27] (zm len μ ν) = (fun call => zE zc_X9_ofAYear call 4 [.ref 27, .int (0 : Int32), .int (0 : Int32)] [] (zm len μ ν)) (zF zT0 d) :=
  (show _ = zE zc_X9_ofAYear (zF zT0 d) 0 [.ref 27, zU, zU] [] (zm len μ ν) from rfl).trans ((zE_runc zg_X9_ofAYear [4, 26] 2000 0 _ _ _).trans rfl)
set_option maxRecDepth 50000 in
theorem B_X9_ofAYear_4 (call : zC) (len : Nat) (μ : zMu) (ν : zNu) (x1 : Int32) (x2 : Int32) : zE zc_X9_ofAYear call 4 [.ref 27, .int x1, .int x2] [] (zm len μ ν) = (if (12 : Int32) ≤ x2 then some (.int x1, (zm len μ ν)) else (if 0 ≤ (x2).toInt ∧ (x2).toInt < ((12 : Nat) : Int) then (if (μ 28 (x2).toNatClampNeg) = (-1 : Int32) then zE zc_X9_ofAYear call 26 [.ref 27, .int x1, .int x2] [.int (0 : Int32), .int x1] (zm len μ ν) else zE zc_X9_ofAYear call 26 [.ref 27, .int x1, .int x2] [.int (1 : Int32), .int x1] (zm len μ ν)) else none)) :=
  (zE_runc zg_X9_ofAYear [4, 26] 2000 4 _ _ _).trans rfl
set_option maxRecDepth 50000 in
theorem B_X9_ofAYear_26 (call : zC) (len : Nat) (μ : zMu) (ν : zNu) (x1 : Int32) (x2 : Int32) (xs0 : Int32) (xs1 : Int32) : zE zc_X9_ofAYear call 26 [.ref 27, .int x1, .int x2] [.int xs0, .int xs1] (zm len μ ν) = zE zc_X9_ofAYear call 4 [.ref 27, .int (xs1 + xs0), .int (x2 + (1 : Int32))] [] (zm len μ ν) :=
  (zE_runc zg_X9_ofAYear [4, 26] 2000 26 _ _ _).trans rfl
set_option maxRecDepth 50000 in
theorem B_X10_append (d len : Nat) (μ : zMu) (ν : zNu) (a0 : Int32) (a1 : Int32) (a2 : Int32) (a3 : Int32) (a4 : Int32) : zF zT0 (d + 1) 117 [.ref 6, .int a0, .int a1, .int a2, .int a3, .int a4] (zm len μ ν) = (fun call => (if ((μ 6 1) + (20 : Int32)) ≤ (800 : Int32) then zbv (call 118 [.ref 6, .int a0] (zm len μ ν)) (fun M' => zE zc_X10_append call 20 [.ref 6, .int a0, .int a1, .int a2, .int a3, .int a4] [] M') else some (.int (-1 : Int32), (zm len μ ν)))) (zF zT0 d) :=
  (show _ = zE zc_X10_append (zF zT0 d) 0 [.ref 6, .int a0, .int a1, .int a2, .int a3, .int a4] [] (zm len μ ν) from rfl).trans ((zE_runc zg_X10_append [20, 25, 30, 36, 42] 2000 0 _ _ _).trans rfl)
set_option maxRecDepth 50000 in
theorem B_X10_append_20 (call : zC) (len : Nat) (μ : zMu) (ν : zNu) (x1 : Int32) (x2 : Int32) (x3 : Int32) (x4 : Int32) (x5 : Int32) : zE zc_X10_append call 20 [.ref 6, .int x1, .int x2, .int x3, .int x4, .int x5] [] (zm len μ ν) = zbv (call 118 [.ref 6, .int x2] (zm len μ ν)) (fun M' => zE zc_X10_append call 25 [.ref 6, .int x1, .int x2, .int x3, .int x4, .int x5] [] M') :=
  (zE_runc zg_X10_append [20, 25, 30, 36, 42] 2000 20 _ _ _).trans rfl
set_option maxRecDepth 50000 in
theorem B_X10_append_25 (call : zC) (len : Nat) (μ : zMu) (ν : zNu) (x1 : Int32) (x2 : Int32) (x3 : Int32) (x4 : Int32) (x5 : Int32) : zE zc_X10_append call 25 [.ref 6, .int x1, .int x2, .int x3, .int x4, .int x5] [] (zm len μ ν) = zbv (call 118 [.ref 6, .int x3] (zm len μ ν)) (fun M' => zE zc_X10_append call 30 [.ref 6, .int x1, .int x2, .int x3, .int x4, .int x5] [] M') :=
  (zE_runc zg_X10_append [20, 25, 30, 36, 42] 2000 25 _ _ _).trans rfl
set_option maxRecDepth 50000 in
theorem B_X10_append_30 (call : zC) (len : Nat) (μ : zMu) (ν : zNu) (x1 : Int32) (x2 : Int32) (x3 : Int32) (x4 : Int32) (x5 : Int32) : zE zc_X10_append call 30 [.ref 6, .int x1, .int x2, .int x3, .int x4, .int x5] [] (zm len μ ν) = zbv (call 118 [.ref 6, .int x4] (zm len μ ν)) (fun M' => zE zc_X10_append call 36 [.ref 6, .int x1, .int x2, .int x3, .int x4, .int x5] [] M') :=
  (zE_runc zg_X10_append [20, 25, 30, 36, 42] 2000 30 _ _ _).trans rfl
set_option maxRecDepth 50000 in
theorem B_X10_append_36 (call : zC) (len : Nat) (μ : zMu) (ν : zNu) (x1 : Int32) (x2 : Int32) (x3 : Int32) (x4 : Int32) (x5 : Int32) : zE zc_X10_append call 36 [.ref 6, .int x1, .int x2, .int x3, .int x4, .int x5] [] (zm len μ ν) = zbv (call 118 [.ref 6, .int x5] (zm len μ ν)) (fun M' => zE zc_X10_append call 42 [.ref 6, .int x1, .int x2, .int x3, .int x4, .int x5] [] M') :=
  (zE_runc zg_X10_append [20, 25, 30, 36, 42] 2000 36 _ _ _).trans rfl
set_option maxRecDepth 50000 in
theorem B_X10_append_42 (call : zC) (len : Nat) (μ : zMu) (ν : zNu) (x1 : Int32) (x2 : Int32) (x3 : Int32) (x4 : Int32) (x5 : Int32) : zE zc_X10_append call 42 [.ref 6, .int x1, .int x2, .int x3, .int x4, .int x5] [] (zm len μ ν) = some (.int (μ 6 1), (zm len μ ν)) :=
  (zE_runc zg_X10_append [20, 25, 30, 36, 42] 2000 42 _ _ _).trans rfl
set_option maxRecDepth 50000 in
theorem B_X10_appendNumber (d len : Nat) (μ : zMu) (ν : zNu) (a0 : Int32) : zF zT0 (d + 1) 118 [.ref 6, .int a0] (zm len μ ν) = (fun call => zE zc_X10_appendNumber call 3 [.ref 6, .int a0, .int (24 : Int32)] [] (zm len μ ν)) (zF zT0 d) :=
  (show _ = zE zc_X10_appendNumber (zF zT0 d) 0 [.ref 6, .int a0, zU] [] (zm len μ ν) from rfl).trans ((zE_runc zg_X10_appendNumber [3] 2000 0 _ _ _).trans rfl)
set_option maxRecDepth 50000 in
theorem B_X10_appendNumber_3 (call : zC) (len : Nat) (μ : zMu) (ν : zNu) (x1 : Int32) (x2 : Int32) : zE zc_X10_appendNumber call 3 [.ref 6, .int x1, .int x2] [] (zm len μ ν) = (if x2 < 0 then some (.null, (zm len μ ν)) else (if (800 : Int32) ≤ (μ 6 1) then some (.null, (zm len μ ν)) else (if 0 ≤ ((μ 6 1)).toInt ∧ ((μ 6 1)).toInt < ((800 : Nat) : Int) then zE zc_X10_appendNumber call 3 [.ref 6, .int x1, .int (x2 + (-8 : Int32))] [] (zm len (zup (zup μ 7 ((μ 6 1)).toNatClampNeg (znar 4 (((((x1).toUInt32 >>> ((x2).toUInt32 &&& Int32.toUInt32 31)).toInt32 &&& (255 : Int32))).toUInt32 % 65536).toInt32)) 6 1 ((μ 6 1) + (1 : Int32))) ν) else none))) :=
  (zE_runc zg_X10_appendNumber [3] 2000 3 _ _ _).trans rfl
set_option maxRecDepth 50000 in
theorem B_X10_cut (d len : Nat) (μ : zMu) (ν : zNu) (a0 : Int32) : zF zT0 (d + 1) 119 [.ref 6, .int a0] (zm len μ ν) = (fun call => zbi (call 175 [.int a0, .int (0 : Int32), .int (μ 6 1)] (zm len μ ν)) (fun w' M' => zE zc_X10_cut call 9 [.ref 6, .int a0] [.int w'] M')) (zF zT0 d) :=
  (show _ = zE zc_X10_cut (zF zT0 d) 0 [.ref 6, .int a0] [] (zm len μ ν) from rfl).trans ((zE_runc zg_X10_cut [9] 2000 0 _ _ _).trans rfl)
set_option maxRecDepth 50000 in
theorem B_X10_cut_9 (call : zC) (len : Nat) (μ : zMu) (ν : zNu) (x1 : Int32) (xs0 : Int32) : zE zc_X10_cut call 9 [.ref 6, .int x1] [.int xs0] (zm len μ ν) = (if xs0 = 0 then some (.int (0 : Int32), (zm len μ ν)) else some (.int (1 : Int32), (zm len (zup μ 6 1 x1) ν))) :=
  (zE_runc zg_X10_cut [9] 2000 9 _ _ _).trans rfl
set_option maxRecDepth 50000 in
theorem B_X10_split (d len : Nat) (μ : zMu) (ν : zNu)  : zF zT0 (d + 1) 120 [.ref 6] (zm len μ ν) = (fun call => zE zc_X10_split call 7 [.ref 6, .int (0 : Int32), zU] [] (zm len (zup μ 6 5 (0 : Int32)) ν)) (zF zT0 d) :=
  (show _ = zE zc_X10_split (zF zT0 d) 0 [.ref 6, zU, zU] [] (zm len μ ν) from rfl).trans ((zE_runc zg_X10_split [7, 42, 50, 56, 60, 66, 82] 2000 0 _ _ _).trans rfl)
set_option maxRecDepth 50000 in
theorem B_X10_split_7 (call : zC) (len : Nat) (μ : zMu) (ν : zNu) (x1 : Int32) (v2 : Value) : zE zc_X10_split call 7 [.ref 6, .int x1, v2] [] (zm len μ ν) = (if (μ 6 1) ≤ x1 then zbv (call 121 [.ref 6, .int (0 : Int32), .int (0 : Int32), .int (μ 6 1)] (zm len μ ν)) (fun M' => zE zc_X10_split call 82 [.ref 6, .int x1, v2] [] M') else (if 0 ≤ (x1).toInt ∧ (x1).toInt < ((800 : Nat) : Int) then (if (μ 7 (x1).toNatClampNeg) = (32 : Int32) then zE zc_X10_split call 66 [.ref 6, .int x1, v2] [] (zm len μ ν) else (if 0 ≤ (x1).toInt ∧ (x1).toInt < ((800 : Nat) : Int) then (if (μ 7 (x1).toNatClampNeg) = (10 : Int32) then zE zc_X10_split call 66 [.ref 6, .int x1, v2] [] (zm len μ ν) else zbi (call 122 [.ref 6, .int x1] (zm len μ ν)) (fun w' M' => zE zc_X10_split call 42 [.ref 6, .int x1, v2] [.int w'] M')) else none)) else none)) :=
  (zE_runc zg_X10_split [7, 42, 50, 56, 60, 66, 82] 2000 7 _ _ _).trans rfl
set_option maxRecDepth 50000 in
theorem B_X10_split_42 (call : zC) (len : Nat) (μ : zMu) (ν : zNu) (x1 : Int32) (v2 : Value) (xs0 : Int32) : zE zc_X10_split call 42 [.ref 6, .int x1, v2] [.int xs0] (zm len μ ν) = zbi (call 123 [.ref 6, .int x1, .int xs0] (zm len μ ν)) (fun w' M' => zE zc_X10_split call 50 [.ref 6, .int x1, .int xs0] [.int w', .ref 6] M') :=
  (zE_runc zg_X10_split [7, 42, 50, 56, 60, 66, 82] 2000 42 _ _ _).trans rfl
set_option maxRecDepth 50000 in
theorem B_X10_split_50 (call : zC) (len : Nat) (μ : zMu) (ν : zNu) (x1 : Int32) (x2 : Int32) (xs0 : Int32) : zE zc_X10_split call 50 [.ref 6, .int x1, .int x2] [.int xs0, .ref 6] (zm len μ ν) = zbi (call 124 [.ref 6, .int x1, .int x2] (zm len μ ν)) (fun w' M' => zE zc_X10_split call 56 [.ref 6, .int x1, .int x2] [.int w', .int xs0, .ref 6] M') :=
  (zE_runc zg_X10_split [7, 42, 50, 56, 60, 66, 82] 2000 50 _ _ _).trans rfl
set_option maxRecDepth 50000 in
theorem B_X10_split_56 (call : zC) (len : Nat) (μ : zMu) (ν : zNu) (x1 : Int32) (x2 : Int32) (xs0 : Int32) (xs1 : Int32) : zE zc_X10_split call 56 [.ref 6, .int x1, .int x2] [.int xs0, .int xs1, .ref 6] (zm len μ ν) = zbv (call 121 [.ref 6, .int xs1, .int xs0, .int x1] (zm len μ ν)) (fun M' => zE zc_X10_split call 60 [.ref 6, .int x1, .int x2] [] M') :=
  (zE_runc zg_X10_split [7, 42, 50, 56, 60, 66, 82] 2000 56 _ _ _).trans rfl
set_option maxRecDepth 50000 in
theorem B_X10_split_60 (call : zC) (len : Nat) (μ : zMu) (ν : zNu) (x1 : Int32) (x2 : Int32) : zE zc_X10_split call 60 [.ref 6, .int x1, .int x2] [] (zm len μ ν) = zE zc_X10_split call 66 [.ref 6, .int (x1 + (x2 - (1 : Int32))), .int x2] [] (zm len μ ν) :=
  (zE_runc zg_X10_split [7, 42, 50, 56, 60, 66, 82] 2000 60 _ _ _).trans rfl
set_option maxRecDepth 50000 in
theorem B_X10_split_66 (call : zC) (len : Nat) (μ : zMu) (ν : zNu) (x1 : Int32) (v2 : Value) : zE zc_X10_split call 66 [.ref 6, .int x1, v2] [] (zm len μ ν) = zE zc_X10_split call 7 [.ref 6, .int (x1 + (1 : Int32)), v2] [] (zm len μ ν) :=
  (zE_runc zg_X10_split [7, 42, 50, 56, 60, 66, 82] 2000 66 _ _ _).trans rfl
set_option maxRecDepth 50000 in
theorem B_X10_split_82 (call : zC) (len : Nat) (μ : zMu) (ν : zNu) (x1 : Int32) (v2 : Value) : zE zc_X10_split call 82 [.ref 6, .int x1, v2] [] (zm len μ ν) = some (.null, (zm len (zup (zup (zup (zup μ 6 1 (0 : Int32)) 6 6 (0 : Int32)) 6 7 (0 : Int32)) 6 8 (-1 : Int32)) ν)) :=
  (zE_runc zg_X10_split [7, 42, 50, 56, 60, 66, 82] 2000 82 _ _ _).trans rfl
set_option maxRecDepth 50000 in
theorem B_X10_addToken (d len : Nat) (μ : zMu) (ν : zNu) (a0 : Int32) (a1 : Int32) (a2 : Int32) : zF zT0 (d + 1) 121 [.ref 6, .int a0, .int a1, .int a2] (zm len μ ν) = (fun call => (if (Int32.ofNat 801) ≤ (μ 6 5) then some (.null, (zm len μ ν)) else (if 0 ≤ ((μ 6 5)).toInt ∧ ((μ 6 5)).toInt < ((801 : Nat) : Int) then (if 0 ≤ ((μ 6 5)).toInt ∧ ((μ 6 5)).toInt < ((801 : Nat) : Int) then (if 0 ≤ ((μ 6 5)).toInt ∧ ((μ 6 5)).toInt < ((801 : Nat) : Int) then some (.null, (zm len (zup (zup (zup (zup μ 8 ((μ 6 5)).toNatClampNeg a0) 9 ((μ 6 5)).toNatClampNeg a1) 10 ((μ 6 5)).toNatClampNeg a2) 6 5 ((μ 6 5) + (1 : Int32))) ν)) else none) else none) else none))) (zF zT0 d) :=
  (show _ = zE zc_X10_addToken (zF zT0 d) 0 [.ref 6, .int a0, .int a1, .int a2] [] (zm len μ ν) from rfl).trans ((zE_runc zg_X10_addToken [] 2000 0 _ _ _).trans rfl)
set_option maxRecDepth 50000 in
theorem B_X10_sizeFrom (d len : Nat) (μ : zMu) (ν : zNu) (a0 : Int32) : zF zT0 (d + 1) 122 [.ref 6, .int a0] (zm len μ ν) = (fun call => (if 0 ≤ (a0).toInt ∧ (a0).toInt < ((800 : Nat) : Int) then zbi (call 127 [.int (μ 7 (a0).toNatClampNeg)] (zm len μ ν)) (fun w' M' => zE zc_X10_sizeFrom call 9 [.ref 6, .int a0, zU, zU, zU] [.int w'] M') else none)) (zF zT0 d) :=
  (show _ = zE zc_X10_sizeFrom (zF zT0 d) 0 [.ref 6, .int a0, zU, zU, zU] [] (zm len μ ν) from rfl).trans ((zE_runc zg_X10_sizeFrom [9, 19, 31, 58, 76, 79] 2000 0 _ _ _).trans rfl)
set_option maxRecDepth 50000 in
theorem B_X10_sizeFrom_9 (call : zC) (len : Nat) (μ : zMu) (ν : zNu) (x1 : Int32) (v2 : Value) (v3 : Value) (v4 : Value) (xs0 : Int32) : zE zc_X10_sizeFrom call 9 [.ref 6, .int x1, v2, v3, v4] [.int xs0] (zm len μ ν) = (if 0 ≤ (x1).toInt ∧ (x1).toInt < ((800 : Nat) : Int) then zbi (call 128 [.int (μ 7 (x1).toNatClampNeg)] (zm len μ ν)) (fun w' M' => zE zc_X10_sizeFrom call 19 [.ref 6, .int x1, .int xs0, v3, v4] [.int w'] M') else none) :=
  (zE_runc zg_X10_sizeFrom [9, 19, 31, 58, 76, 79] 2000 9 _ _ _).trans rfl
set_option maxRecDepth 50000 in
theorem B_X10_sizeFrom_19 (call : zC) (len : Nat) (μ : zMu) (ν : zNu) (x1 : Int32) (x2 : Int32) (v3 : Value) (v4 : Value) (xs0 : Int32) : zE zc_X10_sizeFrom call 19 [.ref 6, .int x1, .int x2, v3, v4] [.int xs0] (zm len μ ν) = (if x2 = 0 then (if xs0 = 0 then some (.int (1 : Int32), (zm len μ ν)) else zE zc_X10_sizeFrom call 31 [.ref 6, .int x1, .int x2, .int xs0, .int (1 : Int32)] [] (zm len μ ν)) else zE zc_X10_sizeFrom call 31 [.ref 6, .int x1, .int x2, .int xs0, .int (1 : Int32)] [] (zm len μ ν)) :=
  (zE_runc zg_X10_sizeFrom [9, 19, 31, 58, 76, 79] 2000 19 _ _ _).trans rfl
set_option maxRecDepth 50000 in
theorem B_X10_sizeFrom_31 (call : zC) (len : Nat) (μ : zMu) (ν : zNu) (x1 : Int32) (x2 : Int32) (x3 : Int32) (x4 : Int32) : zE zc_X10_sizeFrom call 31 [.ref 6, .int x1, .int x2, .int x3, .int x4] [] (zm len μ ν) = (if (μ 6 1) ≤ (x1 + x4) then some (.int x4, (zm len μ ν)) else (if x2 = 0 then (if 0 ≤ ((x1 + x4)).toInt ∧ ((x1 + x4)).toInt < ((800 : Nat) : Int) then zbi (call 128 [.int (μ 7 ((x1 + x4)).toNatClampNeg)] (zm len μ ν)) (fun w' M' => zE zc_X10_sizeFrom call 76 [.ref 6, .int x1, .int x2, .int x3, .int x4] [.int w'] M') else none) else (if 0 ≤ ((x1 + x4)).toInt ∧ ((x1 + x4)).toInt < ((800 : Nat) : Int) then zbi (call 127 [.int (μ 7 ((x1 + x4)).toNatClampNeg)] (zm len μ ν)) (fun w' M' => zE zc_X10_sizeFrom call 58 [.ref 6, .int x1, .int x2, .int x3, .int x4] [.int w'] M') else none))) :=
  (zE_runc zg_X10_sizeFrom [9, 19, 31, 58, 76, 79] 2000 31 _ _ _).trans rfl
set_option maxRecDepth 50000 in
theorem B_X10_sizeFrom_58 (call : zC) (len : Nat) (μ : zMu) (ν : zNu) (x1 : Int32) (x2 : Int32) (x3 : Int32) (x4 : Int32) (xs0 : Int32) : zE zc_X10_sizeFrom call 58 [.ref 6, .int x1, .int x2, .int x3, .int x4] [.int xs0] (zm len μ ν) = (if xs0 = 0 then some (.int x4, (zm len μ ν)) else zE zc_X10_sizeFrom call 79 [.ref 6, .int x1, .int x2, .int x3, .int x4] [] (zm len μ ν)) :=
  (zE_runc zg_X10_sizeFrom [9, 19, 31, 58, 76, 79] 2000 58 _ _ _).trans rfl
set_option maxRecDepth 50000 in
theorem B_X10_sizeFrom_76 (call : zC) (len : Nat) (μ : zMu) (ν : zNu) (x1 : Int32) (x2 : Int32) (x3 : Int32) (x4 : Int32) (xs0 : Int32) : zE zc_X10_sizeFrom call 76 [.ref 6, .int x1, .int x2, .int x3, .int x4] [.int xs0] (zm len μ ν) = (if xs0 = 0 then some (.int x4, (zm len μ ν)) else zE zc_X10_sizeFrom call 79 [.ref 6, .int x1, .int x2, .int x3, .int x4] [] (zm len μ ν)) :=
  (zE_runc zg_X10_sizeFrom [9, 19, 31, 58, 76, 79] 2000 76 _ _ _).trans rfl
set_option maxRecDepth 50000 in
theorem B_X10_sizeFrom_79 (call : zC) (len : Nat) (μ : zMu) (ν : zNu) (x1 : Int32) (x2 : Int32) (x3 : Int32) (x4 : Int32) : zE zc_X10_sizeFrom call 79 [.ref 6, .int x1, .int x2, .int x3, .int x4] [] (zm len μ ν) = zE zc_X10_sizeFrom call 31 [.ref 6, .int x1, .int x2, .int x3, .int (x4 + (1 : Int32))] [] (zm len μ ν) :=
  (zE_runc zg_X10_sizeFrom [9, 19, 31, 58, 76, 79] 2000 79 _ _ _).trans rfl
set_option maxRecDepth 50000 in
theorem B_X10_kindOf (d len : Nat) (μ : zMu) (ν : zNu) (a0 : Int32) (a1 : Int32) : zF zT0 (d + 1) 123 [.ref 6, .int a0, .int a1] (zm len μ ν) = (fun call => (if 0 ≤ (a0).toInt ∧ (a0).toInt < ((800 : Nat) : Int) then zbi (call 128 [.int (μ 7 (a0).toNatClampNeg)] (zm len μ ν)) (fun w' M' => zE zc_X10_kindOf call 11 [.ref 6, .int a0, .int a1, .int (μ 7 (a0).toNatClampNeg)] [.int w'] M') else none)) (zF zT0 d) :=
  (show _ = zE zc_X10_kindOf (zF zT0 d) 0 [.ref 6, .int a0, .int a1, zU] [] (zm len μ ν) from rfl).trans ((zE_runc zg_X10_kindOf [11, 29, 59, 66] 2000 0 _ _ _).trans rfl)
set_option maxRecDepth 50000 in
theorem B_X10_kindOf_11 (call : zC) (len : Nat) (μ : zMu) (ν : zNu) (x1 : Int32) (x2 : Int32) (x3 : Int32) (xs0 : Int32) : zE zc_X10_kindOf call 11 [.ref 6, .int x1, .int x2, .int x3] [.int xs0] (zm len μ ν) = (if xs0 = 0 then zbi (call 127 [.int x3] (zm len μ ν)) (fun w' M' => zE zc_X10_kindOf call 29 [.ref 6, .int x1, .int x2, .int x3] [.int w'] M') else (if (4 : Int32) < x2 then some (.int (1 : Int32), (zm len μ ν)) else some (.int (2 : Int32), (zm len μ ν)))) :=
  (zE_runc zg_X10_kindOf [11, 29, 59, 66] 2000 11 _ _ _).trans rfl
set_option maxRecDepth 50000 in
theorem B_X10_kindOf_29 (call : zC) (len : Nat) (μ : zMu) (ν : zNu) (x1 : Int32) (x2 : Int32) (x3 : Int32) (xs0 : Int32) : zE zc_X10_kindOf call 29 [.ref 6, .int x1, .int x2, .int x3] [.int xs0] (zm len μ ν) = (if xs0 = 0 then zbi (call 297 [.retAddr 3, .int x3] (zm len μ ν)) (fun w' M' => zE zc_X10_kindOf call 66 [.ref 6, .int x1, .int x2, .int x3] [.int w'] M') else (if x2 = (1 : Int32) then (if x3 < (97 : Int32) then zbi (call 125 [.ref 6, .int x1, .int x2] (zm len μ ν)) (fun w' M' => zE zc_X10_kindOf call 59 [.ref 6, .int x1, .int x2, .int x3] [.int w'] M') else (if (102 : Int32) < x3 then zbi (call 125 [.ref 6, .int x1, .int x2] (zm len μ ν)) (fun w' M' => zE zc_X10_kindOf call 59 [.ref 6, .int x1, .int x2, .int x3] [.int w'] M') else zE zc_X10_kindOf call 59 [.ref 6, .int x1, .int x2, .int x3] [.int (3 : Int32)] (zm len μ ν))) else zbi (call 125 [.ref 6, .int x1, .int x2] (zm len μ ν)) (fun w' M' => zE zc_X10_kindOf call 59 [.ref 6, .int x1, .int x2, .int x3] [.int w'] M'))) :=
  (zE_runc zg_X10_kindOf [11, 29, 59, 66] 2000 29 _ _ _).trans rfl
set_option maxRecDepth 50000 in
theorem B_X10_kindOf_59 (call : zC) (len : Nat) (μ : zMu) (ν : zNu) (x1 : Int32) (x2 : Int32) (x3 : Int32) (xs0 : Int32) : zE zc_X10_kindOf call 59 [.ref 6, .int x1, .int x2, .int x3] [.int xs0] (zm len μ ν) = some (.int xs0, (zm len μ ν)) :=
  (zE_runc zg_X10_kindOf [11, 29, 59, 66] 2000 59 _ _ _).trans rfl
set_option maxRecDepth 50000 in
theorem B_X10_kindOf_66 (call : zC) (len : Nat) (μ : zMu) (ν : zNu) (x1 : Int32) (x2 : Int32) (x3 : Int32) (xs0 : Int32) : zE zc_X10_kindOf call 66 [.ref 6, .int x1, .int x2, .int x3] [.int xs0] (zm len μ ν) = (if xs0 < 0 then some (.int (1 : Int32), (zm len μ ν)) else some (.int x3, (zm len μ ν))) :=
  (zE_runc zg_X10_kindOf [11, 29, 59, 66] 2000 66 _ _ _).trans rfl
set_option maxRecDepth 50000 in
theorem B_X10_valueOf (d len : Nat) (μ : zMu) (ν : zNu) (a0 : Int32) (a1 : Int32) : zF zT0 (d + 1) 124 [.ref 6, .int a0, .int a1] (zm len μ ν) = (fun call => (if 0 ≤ (a0).toInt ∧ (a0).toInt < ((800 : Nat) : Int) then zbi (call 128 [.int (μ 7 (a0).toNatClampNeg)] (zm len μ ν)) (fun w' M' => zE zc_X10_valueOf call 9 [.ref 6, .int a0, .int a1, zU, zU] [.int w'] M') else none)) (zF zT0 d) :=
  (show _ = zE zc_X10_valueOf (zF zT0 d) 0 [.ref 6, .int a0, .int a1, zU, zU] [] (zm len μ ν) from rfl).trans ((zE_runc zg_X10_valueOf [9, 27] 2000 0 _ _ _).trans rfl)
set_option maxRecDepth 50000 in
theorem B_X10_valueOf_9 (call : zC) (len : Nat) (μ : zMu) (ν : zNu) (x1 : Int32) (x2 : Int32) (v3 : Value) (v4 : Value) (xs0 : Int32) : zE zc_X10_valueOf call 9 [.ref 6, .int x1, .int x2, v3, v4] [.int xs0] (zm len μ ν) = (if xs0 = 0 then (if 0 ≤ (x1).toInt ∧ (x1).toInt < ((800 : Nat) : Int) then some (.int ((μ 7 (x1).toNatClampNeg) - (97 : Int32)), (zm len μ ν)) else none) else zE zc_X10_valueOf call 27 [.ref 6, .int x1, .int x2, .int (0 : Int32), .int (0 : Int32)] [] (zm len μ ν)) :=
  (zE_runc zg_X10_valueOf [9, 27] 2000 9 _ _ _).trans rfl
set_option maxRecDepth 50000 in
theorem B_X10_valueOf_27 (call : zC) (len : Nat) (μ : zMu) (ν : zNu) (x1 : Int32) (x2 : Int32) (x3 : Int32) (x4 : Int32) : zE zc_X10_valueOf call 27 [.ref 6, .int x1, .int x2, .int x3, .int x4] [] (zm len μ ν) = (if x2 ≤ x4 then some (.int x3, (zm len μ ν)) else (if (4 : Int32) ≤ x4 then some (.int x3, (zm len μ ν)) else (if 0 ≤ ((x1 + x4)).toInt ∧ ((x1 + x4)).toInt < ((800 : Nat) : Int) then zE zc_X10_valueOf call 27 [.ref 6, .int x1, .int x2, .int ((x3 * (10 : Int32)) + ((μ 7 ((x1 + x4)).toNatClampNeg) - (48 : Int32))), .int (x4 + (1 : Int32))] [] (zm len μ ν) else none))) :=
  (zE_runc zg_X10_valueOf [9, 27] 2000 27 _ _ _).trans rfl
set_option maxRecDepth 50000 in
theorem B_X10_wordAt (d len : Nat) (μ : zMu) (ν : zNu) (a0 : Int32) (a1 : Int32) : zF zT0 (d + 1) 125 [.ref 6, .int a0, .int a1] (zm len μ ν) = (fun call => zE zc_X10_wordAt call 10 [.ref 6, .int a0, .int a1, .int (128 : Int32), .int (0 : Int32), .int (0 : Int32)] [] (zm len μ ν)) (zF zT0 d) :=
  (show _ = zE zc_X10_wordAt (zF zT0 d) 0 [.ref 6, .int a0, .int a1, zU, zU, zU] [] (zm len μ ν) from rfl).trans ((zE_runc zg_X10_wordAt [10, 17, 27, 49, 54, 63] 2000 0 _ _ _).trans rfl)
set_option maxRecDepth 50000 in
theorem B_X10_wordAt_10 (call : zC) (len : Nat) (μ : zMu) (ν : zNu) (x1 : Int32) (x2 : Int32) (x3 : Int32) (x4 : Int32) (x5 : Int32) : zE zc_X10_wordAt call 10 [.ref 6, .int x1, .int x2, .int x3, .int x4, .int x5] [] (zm len μ ν) = zbi (call 295 [.retAddr 2] (zm len μ ν)) (fun w' M' => zE zc_X10_wordAt call 17 [.ref 6, .int x1, .int x2, .int x3, .int x4, .int x5] [.int w', .int x5] M') :=
  (zE_runc zg_X10_wordAt [10, 17, 27, 49, 54, 63] 2000 10 _ _ _).trans rfl
set_option maxRecDepth 50000 in
theorem B_X10_wordAt_17 (call : zC) (len : Nat) (μ : zMu) (ν : zNu) (x1 : Int32) (x2 : Int32) (x3 : Int32) (x4 : Int32) (x5 : Int32) (xs0 : Int32) (xs1 : Int32) : zE zc_X10_wordAt call 17 [.ref 6, .int x1, .int x2, .int x3, .int x4, .int x5] [.int xs0, .int xs1] (zm len μ ν) = (if xs0 ≤ xs1 then some (.int (1 : Int32), (zm len μ ν)) else zbi (call 296 [.retAddr 2, .int x5] (zm len μ ν)) (fun w' M' => zE zc_X10_wordAt call 27 [.ref 6, .int x1, .int x2, .int x3, .int x4, .int x5] [.int w'] M')) :=
  (zE_runc zg_X10_wordAt [10, 17, 27, 49, 54, 63] 2000 17 _ _ _).trans rfl
set_option maxRecDepth 50000 in
theorem B_X10_wordAt_27 (call : zC) (len : Nat) (μ : zMu) (ν : zNu) (x1 : Int32) (x2 : Int32) (x3 : Int32) (x4 : Int32) (x5 : Int32) (xs0 : Int32) : zE zc_X10_wordAt call 27 [.ref 6, .int x1, .int x2, .int x3, .int x4, .int x5] [.int xs0] (zm len μ ν) = (if xs0 = (32 : Int32) then (if (x5 - x4) = x2 then zbi (call 126 [.ref 6, .int x1, .int x4, .int x2] (zm len μ ν)) (fun w' M' => zE zc_X10_wordAt call 49 [.ref 6, .int x1, .int x2, .int x3, .int x4, .int x5] [.int w'] M') else zE zc_X10_wordAt call 54 [.ref 6, .int x1, .int x2, .int x3, .int x4, .int x5] [] (zm len μ ν)) else zE zc_X10_wordAt call 63 [.ref 6, .int x1, .int x2, .int x3, .int x4, .int x5] [] (zm len μ ν)) :=
  (zE_runc zg_X10_wordAt [10, 17, 27, 49, 54, 63] 2000 27 _ _ _).trans rfl
set_option maxRecDepth 50000 in
theorem B_X10_wordAt_49 (call : zC) (len : Nat) (μ : zMu) (ν : zNu) (x1 : Int32) (x2 : Int32) (x3 : Int32) (x4 : Int32) (x5 : Int32) (xs0 : Int32) : zE zc_X10_wordAt call 49 [.ref 6, .int x1, .int x2, .int x3, .int x4, .int x5] [.int xs0] (zm len μ ν) = (if xs0 = 0 then zE zc_X10_wordAt call 54 [.ref 6, .int x1, .int x2, .int x3, .int x4, .int x5] [] (zm len μ ν) else some (.int x3, (zm len μ ν))) :=
  (zE_runc zg_X10_wordAt [10, 17, 27, 49, 54, 63] 2000 49 _ _ _).trans rfl
set_option maxRecDepth 50000 in
theorem B_X10_wordAt_54 (call : zC) (len : Nat) (μ : zMu) (ν : zNu) (x1 : Int32) (x2 : Int32) (x3 : Int32) (x4 : Int32) (x5 : Int32) : zE zc_X10_wordAt call 54 [.ref 6, .int x1, .int x2, .int x3, .int x4, .int x5] [] (zm len μ ν) = zE zc_X10_wordAt call 63 [.ref 6, .int x1, .int x2, .int (x3 + (1 : Int32)), .int (x5 + (1 : Int32)), .int x5] [] (zm len μ ν) :=
  (zE_runc zg_X10_wordAt [10, 17, 27, 49, 54, 63] 2000 54 _ _ _).trans rfl
set_option maxRecDepth 50000 in
theorem B_X10_wordAt_63 (call : zC) (len : Nat) (μ : zMu) (ν : zNu) (x1 : Int32) (x2 : Int32) (x3 : Int32) (x4 : Int32) (x5 : Int32) : zE zc_X10_wordAt call 63 [.ref 6, .int x1, .int x2, .int x3, .int x4, .int x5] [] (zm len μ ν) = zE zc_X10_wordAt call 10 [.ref 6, .int x1, .int x2, .int x3, .int x4, .int (x5 + (1 : Int32))] [] (zm len μ ν) :=
  (zE_runc zg_X10_wordAt [10, 17, 27, 49, 54, 63] 2000 63 _ _ _).trans rfl
set_option maxRecDepth 50000 in
theorem B_X10_standsAt (d len : Nat) (μ : zMu) (ν : zNu) (a0 : Int32) (a1 : Int32) (a2 : Int32) : zF zT0 (d + 1) 126 [.ref 6, .int a0, .int a1, .int a2] (zm len μ ν) = (fun call => zE zc_X10_standsAt call 3 [.ref 6, .int a0, .int a1, .int a2, .int (0 : Int32)] [] (zm len μ ν)) (zF zT0 d) :=
  (show _ = zE zc_X10_standsAt (zF zT0 d) 0 [.ref 6, .int a0, .int a1, .int a2, zU] [] (zm len μ ν) from rfl).trans ((zE_runc zg_X10_standsAt [3, 27] 2000 0 _ _ _).trans rfl)
set_option maxRecDepth 50000 in
theorem B_X10_standsAt_3 (call : zC) (len : Nat) (μ : zMu) (ν : zNu) (x1 : Int32) (x2 : Int32) (x3 : Int32) (x4 : Int32) : zE zc_X10_standsAt call 3 [.ref 6, .int x1, .int x2, .int x3, .int x4] [] (zm len μ ν) = (if x3 ≤ x4 then some (.int (1 : Int32), (zm len μ ν)) else (if 0 ≤ ((x1 + x4)).toInt ∧ ((x1 + x4)).toInt < ((800 : Nat) : Int) then zbi (call 296 [.retAddr 2, .int (x2 + x4)] (zm len μ ν)) (fun w' M' => zE zc_X10_standsAt call 27 [.ref 6, .int x1, .int x2, .int x3, .int x4] [.int w', .int (μ 7 ((x1 + x4)).toNatClampNeg)] M') else none)) :=
  (zE_runc zg_X10_standsAt [3, 27] 2000 3 _ _ _).trans rfl
set_option maxRecDepth 50000 in
theorem B_X10_standsAt_27 (call : zC) (len : Nat) (μ : zMu) (ν : zNu) (x1 : Int32) (x2 : Int32) (x3 : Int32) (x4 : Int32) (xs0 : Int32) (xs1 : Int32) : zE zc_X10_standsAt call 27 [.ref 6, .int x1, .int x2, .int x3, .int x4] [.int xs0, .int xs1] (zm len μ ν) = (if xs1 = xs0 then zE zc_X10_standsAt call 3 [.ref 6, .int x1, .int x2, .int x3, .int (x4 + (1 : Int32))] [] (zm len μ ν) else some (.int (0 : Int32), (zm len μ ν))) :=
  (zE_runc zg_X10_standsAt [3, 27] 2000 27 _ _ _).trans rfl
set_option maxRecDepth 50000 in
theorem B_X10_isLetter (d len : Nat) (μ : zMu) (ν : zNu) (a0 : Int32) : zF zT0 (d + 1) 127 [.int a0] (zm len μ ν) = (fun call => (if a0 < (97 : Int32) then zE zc_X10_isLetter call 12 [.int a0] [] (zm len μ ν) else (if a0 ≤ (122 : Int32) then some (.int (1 : Int32), (zm len μ ν)) else zE zc_X10_isLetter call 12 [.int a0] [] (zm len μ ν)))) (zF zT0 d) :=
  (show _ = zE zc_X10_isLetter (zF zT0 d) 0 [.int a0] [] (zm len μ ν) from rfl).trans ((zE_runc zg_X10_isLetter [12] 2000 0 _ _ _).trans rfl)
set_option maxRecDepth 50000 in
theorem B_X10_isLetter_12 (call : zC) (len : Nat) (μ : zMu) (ν : zNu) (x0 : Int32) : zE zc_X10_isLetter call 12 [.int x0] [] (zm len μ ν) = (if x0 < (65 : Int32) then some (.int (0 : Int32), (zm len μ ν)) else (if (90 : Int32) < x0 then some (.int (0 : Int32), (zm len μ ν)) else some (.int (1 : Int32), (zm len μ ν)))) :=
  (zE_runc zg_X10_isLetter [12] 2000 12 _ _ _).trans rfl
set_option maxRecDepth 50000 in
theorem B_X10_isDigit (d len : Nat) (μ : zMu) (ν : zNu) (a0 : Int32) : zF zT0 (d + 1) 128 [.int a0] (zm len μ ν) = (fun call => (if a0 < (48 : Int32) then some (.int (0 : Int32), (zm len μ ν)) else (if (57 : Int32) < a0 then some (.int (0 : Int32), (zm len μ ν)) else some (.int (1 : Int32), (zm len μ ν))))) (zF zT0 d) :=
  (show _ = zE zc_X10_isDigit (zF zT0 d) 0 [.int a0] [] (zm len μ ν) from rfl).trans ((zE_runc zg_X10_isDigit [] 2000 0 _ _ _).trans rfl)
set_option maxRecDepth 50000 in
theorem B_X10_kind (d len : Nat) (μ : zMu) (ν : zNu)  : zF zT0 (d + 1) 129 [.ref 6] (zm len μ ν) = (fun call => (if 0 ≤ ((μ 6 6)).toInt ∧ ((μ 6 6)).toInt < ((801 : Nat) : Int) then some (.int (μ 8 ((μ 6 6)).toNatClampNeg), (zm len μ ν)) else none)) (zF zT0 d) :=
  (show _ = zE zc_X10_kind (zF zT0 d) 0 [.ref 6] [] (zm len μ ν) from rfl).trans ((zE_runc zg_X10_kind [] 2000 0 _ _ _).trans rfl)
set_option maxRecDepth 50000 in
theorem B_X10_value (d len : Nat) (μ : zMu) (ν : zNu)  : zF zT0 (d + 1) 130 [.ref 6] (zm len μ ν) = (fun call => (if 0 ≤ ((μ 6 6)).toInt ∧ ((μ 6 6)).toInt < ((801 : Nat) : Int) then some (.int (μ 9 ((μ 6 6)).toNatClampNeg), (zm len μ ν)) else none)) (zF zT0 d) :=
  (show _ = zE zc_X10_value (zF zT0 d) 0 [.ref 6] [] (zm len μ ν) from rfl).trans ((zE_runc zg_X10_value [] 2000 0 _ _ _).trans rfl)
set_option maxRecDepth 50000 in
theorem B_X10_signBehind (d len : Nat) (μ : zMu) (ν : zNu)  : zF zT0 (d + 1) 131 [.ref 6] (zm len μ ν) = (fun call => (if (μ 6 5) ≤ ((μ 6 6) + (1 : Int32)) then some (.int (-1 : Int32), (zm len μ ν)) else (if 0 ≤ (((μ 6 6) + (1 : Int32))).toInt ∧ (((μ 6 6) + (1 : Int32))).toInt < ((801 : Nat) : Int) then (if (μ 8 (((μ 6 6) + (1 : Int32))).toNatClampNeg) = (3 : Int32) then (if 0 ≤ (((μ 6 6) + (1 : Int32))).toInt ∧ (((μ 6 6) + (1 : Int32))).toInt < ((801 : Nat) : Int) then some (.int (μ 9 (((μ 6 6) + (1 : Int32))).toNatClampNeg), (zm len μ ν)) else none) else some (.int (-1 : Int32), (zm len μ ν))) else none))) (zF zT0 d) :=
  (show _ = zE zc_X10_signBehind (zF zT0 d) 0 [.ref 6] [] (zm len μ ν) from rfl).trans ((zE_runc zg_X10_signBehind [] 2000 0 _ _ _).trans rfl)
set_option maxRecDepth 50000 in
theorem B_X10_move (d len : Nat) (μ : zMu) (ν : zNu)  : zF zT0 (d + 1) 132 [.ref 6] (zm len μ ν) = (fun call => (if (μ 6 5) ≤ ((μ 6 6) + (1 : Int32)) then some (.null, (zm len μ ν)) else some (.null, (zm len (zup μ 6 6 ((μ 6 6) + (1 : Int32))) ν)))) (zF zT0 d) :=
  (show _ = zE zc_X10_move (zF zT0 d) 0 [.ref 6] [] (zm len μ ν) from rfl).trans ((zE_runc zg_X10_move [] 2000 0 _ _ _).trans rfl)
set_option maxRecDepth 50000 in
theorem B_X10_take (d len : Nat) (μ : zMu) (ν : zNu) (a0 : Int32) : zF zT0 (d + 1) 133 [.ref 6, .int a0] (zm len μ ν) = (fun call => (if 0 ≤ ((μ 6 6)).toInt ∧ ((μ 6 6)).toInt < ((801 : Nat) : Int) then (if (μ 8 ((μ 6 6)).toNatClampNeg) = a0 then zbv (call 132 [.ref 6] (zm len μ ν)) (fun M' => zE zc_X10_take call 23 [.ref 6, .int a0] [] M') else zbi (call 134 [.ref 6, .int (1 : Int32)] (zm len μ ν)) (fun w' M' => zE zc_X10_take call 18 [.ref 6, .int a0] [.int w'] M')) else none)) (zF zT0 d) :=
  (show _ = zE zc_X10_take (zF zT0 d) 0 [.ref 6, .int a0] [] (zm len μ ν) from rfl).trans ((zE_runc zg_X10_take [18, 23] 2000 0 _ _ _).trans rfl)
set_option maxRecDepth 50000 in
theorem B_X10_take_18 (call : zC) (len : Nat) (μ : zMu) (ν : zNu) (x1 : Int32) (xs0 : Int32) : zE zc_X10_take call 18 [.ref 6, .int x1] [.int xs0] (zm len μ ν) = (if xs0 = 0 ∨ xs0 = 1 then some (.int xs0, (zm len μ ν)) else none) :=
  (zE_runc zg_X10_take [18, 23] 2000 18 _ _ _).trans rfl
set_option maxRecDepth 50000 in
theorem B_X10_take_23 (call : zC) (len : Nat) (μ : zMu) (ν : zNu) (x1 : Int32) : zE zc_X10_take call 23 [.ref 6, .int x1] [] (zm len μ ν) = some (.int (1 : Int32), (zm len μ ν)) :=
  (zE_runc zg_X10_take [18, 23] 2000 23 _ _ _).trans rfl
set_option maxRecDepth 50000 in
theorem B_X10_fail (d len : Nat) (μ : zMu) (ν : zNu) (a0 : Int32) : zF zT0 (d + 1) 134 [.ref 6, .int a0] (zm len μ ν) = (fun call => (if 0 ≤ ((μ 6 6)).toInt ∧ ((μ 6 6)).toInt < ((801 : Nat) : Int) then some (.int (0 : Int32), (zm len (zup (zup μ 6 7 a0) 6 8 (μ 10 ((μ 6 6)).toNatClampNeg)) ν)) else none)) (zF zT0 d) :=
  (show _ = zE zc_X10_fail (zF zT0 d) 0 [.ref 6, .int a0] [] (zm len μ ν) from rfl).trans ((zE_runc zg_X10_fail [] 2000 0 _ _ _).trans rfl)
set_option maxRecDepth 50000 in
theorem B_X10_faultOf (d len : Nat) (μ : zMu) (ν : zNu) (a0 : Int32) : zF zT0 (d + 1) 135 [.ref 6, .int a0] (zm len μ ν) = (fun call => (if a0 = 0 then some (.int (μ 6 7), (zm len μ ν)) else (if a0 = (1 : Int32) then some (.int (μ 6 8), (zm len μ ν)) else some (.int (-1 : Int32), (zm len μ ν))))) (zF zT0 d) :=
  (show _ = zE zc_X10_faultOf (zF zT0 d) 0 [.ref 6, .int a0] [] (zm len μ ν) from rfl).trans ((zE_runc zg_X10_faultOf [] 2000 0 _ _ _).trans rfl)
set_option maxRecDepth 50000 in
theorem B_X11_step (d len : Nat) (μ : zMu) (ν : zNu) (a0 : Int32) (a1 : Int32) (a2 : Int32) : zF zT0 (d + 1) 137 [.ref 1, .int a0, .int a1, .int a2] (zm len μ ν) = (fun call => zbi (call 63 [.ref 2, .int a0, .int a1, .int a2] (zm len μ ν)) (fun w' M' => zE zc_X11_step call 10 [.ref 1, .int a0, .int a1, .int a2] [.int w'] M')) (zF zT0 d) :=
  (show _ = zE zc_X11_step (zF zT0 d) 0 [.ref 1, .int a0, .int a1, .int a2] [] (zm len μ ν) from rfl).trans ((zE_runc zg_X11_step [10] 2000 0 _ _ _).trans rfl)
set_option maxRecDepth 50000 in
theorem B_X11_step_10 (call : zC) (len : Nat) (μ : zMu) (ν : zNu) (x1 : Int32) (x2 : Int32) (x3 : Int32) (xs0 : Int32) : zE zc_X11_step call 10 [.ref 1, .int x1, .int x2, .int x3] [.int xs0] (zm len μ ν) = (if xs0 = 0 ∨ xs0 = 1 then some (.int xs0, (zm len μ ν)) else none) :=
  (zE_runc zg_X11_step [10] 2000 10 _ _ _).trans rfl
set_option maxRecDepth 50000 in
theorem B_X11_good (d len : Nat) (μ : zMu) (ν : zNu) (a0 : Int32) (a1 : Int32) : zF zT0 (d + 1) 138 [.ref 1, .int a0, .int a1] (zm len μ ν) = (fun call => zbi (call 66 [.ref 2, .int a0, .int a1] (zm len μ ν)) (fun w' M' => zE zc_X11_good call 9 [.ref 1, .int a0, .int a1] [.int w'] M')) (zF zT0 d) :=
  (show _ = zE zc_X11_good (zF zT0 d) 0 [.ref 1, .int a0, .int a1] [] (zm len μ ν) from rfl).trans ((zE_runc zg_X11_good [9] 2000 0 _ _ _).trans rfl)
set_option maxRecDepth 50000 in
theorem B_X11_good_9 (call : zC) (len : Nat) (μ : zMu) (ν : zNu) (x1 : Int32) (x2 : Int32) (xs0 : Int32) : zE zc_X11_good call 9 [.ref 1, .int x1, .int x2] [.int xs0] (zm len μ ν) = (if xs0 = 0 ∨ xs0 = 1 then some (.int xs0, (zm len μ ν)) else none) :=
  (zE_runc zg_X11_good [9] 2000 9 _ _ _).trans rfl
set_option maxRecDepth 50000 in
theorem B_X11_written (d len : Nat) (μ : zMu) (ν : zNu) (a0 : Int32) (a1 : Int32) (a2 : Int32) : zF zT0 (d + 1) 139 [.ref 1, .int a0, .int a1, .int a2] (zm len μ ν) = (fun call => zbi (call 71 [.ref 2, .int a0, .int a1, .int a2] (zm len μ ν)) (fun w' M' => zE zc_X11_written call 10 [.ref 1, .int a0, .int a1, .int a2] [.int w'] M')) (zF zT0 d) :=
  (show _ = zE zc_X11_written (zF zT0 d) 0 [.ref 1, .int a0, .int a1, .int a2] [] (zm len μ ν) from rfl).trans ((zE_runc zg_X11_written [10] 2000 0 _ _ _).trans rfl)
set_option maxRecDepth 50000 in
theorem B_X11_written_10 (call : zC) (len : Nat) (μ : zMu) (ν : zNu) (x1 : Int32) (x2 : Int32) (x3 : Int32) (xs0 : Int32) : zE zc_X11_written call 10 [.ref 1, .int x1, .int x2, .int x3] [.int xs0] (zm len μ ν) = some (.int xs0, (zm len μ ν)) :=
  (zE_runc zg_X11_written [10] 2000 10 _ _ _).trans rfl
set_option maxRecDepth 50000 in
theorem B_X11_year (d len : Nat) (μ : zMu) (ν : zNu)  : zF zT0 (d + 1) 140 [.ref 1] (zm len μ ν) = (fun call => (if (μ 1 11) < (99 : Int32) then some (.int ((μ 1 11) + (1 : Int32)), (zm len (zup μ 1 11 ((μ 1 11) + (1 : Int32))) ν)) else some (.int (-1 : Int32), (zm len μ ν)))) (zF zT0 d) :=
  (show _ = zE zc_X11_year (zF zT0 d) 0 [.ref 1] [] (zm len μ ν) from rfl).trans ((zE_runc zg_X11_year [] 2000 0 _ _ _).trans rfl)
set_option maxRecDepth 50000 in
theorem B_X11_feed (d len : Nat) (μ : zMu) (ν : zNu) (a0 : Int32) (a1 : Int32) (a2 : Int32) (a3 : Int32) (a4 : Int32) : zF zT0 (d + 1) 141 [.ref 1, .int a0, .int a1, .int a2, .int a3, .int a4] (zm len μ ν) = (fun call => zbi (call 117 [.ref 6, .int a0, .int a1, .int a2, .int a3, .int a4] (zm len μ ν)) (fun w' M' => zE zc_X11_feed call 14 [.ref 1, .int a0, .int a1, .int a2, .int a3, .int a4] [.int w'] M')) (zF zT0 d) :=
  (show _ = zE zc_X11_feed (zF zT0 d) 0 [.ref 1, .int a0, .int a1, .int a2, .int a3, .int a4] [] (zm len μ ν) from rfl).trans ((zE_runc zg_X11_feed [14] 2000 0 _ _ _).trans rfl)
set_option maxRecDepth 50000 in
theorem B_X11_feed_14 (call : zC) (len : Nat) (μ : zMu) (ν : zNu) (x1 : Int32) (x2 : Int32) (x3 : Int32) (x4 : Int32) (x5 : Int32) (xs0 : Int32) : zE zc_X11_feed call 14 [.ref 1, .int x1, .int x2, .int x3, .int x4, .int x5] [.int xs0] (zm len μ ν) = some (.int xs0, (zm len μ ν)) :=
  (zE_runc zg_X11_feed [14] 2000 14 _ _ _).trans rfl
set_option maxRecDepth 50000 in
theorem B_X11_end (d len : Nat) (μ : zMu) (ν : zNu) (a0 : Int32) : zF zT0 (d + 1) 142 [.ref 1, .int a0] (zm len μ ν) = (fun call => zbi (call 119 [.ref 6, .int a0] (zm len μ ν)) (fun w' M' => zE zc_X11_end call 8 [.ref 1, .int a0] [.int w'] M')) (zF zT0 d) :=
  (show _ = zE zc_X11_end (zF zT0 d) 0 [.ref 1, .int a0] [] (zm len μ ν) from rfl).trans ((zE_runc zg_X11_end [8] 2000 0 _ _ _).trans rfl)
set_option maxRecDepth 50000 in
theorem B_X11_end_8 (call : zC) (len : Nat) (μ : zMu) (ν : zNu) (x1 : Int32) (xs0 : Int32) : zE zc_X11_end call 8 [.ref 1, .int x1] [.int xs0] (zm len μ ν) = (if xs0 = 0 ∨ xs0 = 1 then some (.int xs0, (zm len μ ν)) else none) :=
  (zE_runc zg_X11_end [8] 2000 8 _ _ _).trans rfl
set_option maxRecDepth 50000 in
theorem B_X11_tablet (d len : Nat) (μ : zMu) (ν : zNu) (a0 : Int32) : zF zT0 (d + 1) 143 [.ref 1, .int a0] (zm len μ ν) = (fun call => zbv (call 120 [.ref 6] (zm len μ ν)) (fun M' => zE zc_X11_tablet call 7 [.ref 1, .int a0] [] M')) (zF zT0 d) :=
  (show _ = zE zc_X11_tablet (zF zT0 d) 0 [.ref 1, .int a0] [] (zm len μ ν) from rfl).trans ((zE_runc zg_X11_tablet [7, 15, 25, 46] 2000 0 _ _ _).trans rfl)
set_option maxRecDepth 50000 in
theorem B_X11_tablet_7 (call : zC) (len : Nat) (μ : zMu) (ν : zNu) (x1 : Int32) : zE zc_X11_tablet call 7 [.ref 1, .int x1] [] (zm len μ ν) = zbi (call 111 [.ref 27, .int x1] (zm len μ ν)) (fun w' M' => zE zc_X11_tablet call 15 [.ref 1, .int x1] [.int w'] M') :=
  (zE_runc zg_X11_tablet [7, 15, 25, 46] 2000 7 _ _ _).trans rfl
set_option maxRecDepth 50000 in
theorem B_X11_tablet_15 (call : zC) (len : Nat) (μ : zMu) (ν : zNu) (x1 : Int32) (xs0 : Int32) : zE zc_X11_tablet call 15 [.ref 1, .int x1] [.int xs0] (zm len μ ν) = (if xs0 = 0 then some (.int (-1 : Int32), (zm len μ ν)) else zbi (call 12 [.ref 11] (zm len μ ν)) (fun w' M' => zE zc_X11_tablet call 25 [.ref 1, .int x1] [.int w'] M')) :=
  (zE_runc zg_X11_tablet [7, 15, 25, 46] 2000 15 _ _ _).trans rfl
set_option maxRecDepth 50000 in
theorem B_X11_tablet_25 (call : zC) (len : Nat) (μ : zMu) (ν : zNu) (x1 : Int32) (xs0 : Int32) : zE zc_X11_tablet call 25 [.ref 1, .int x1] [.int xs0] (zm len μ ν) = (if xs0 = 0 then some (.int (-1 : Int32), (zm len μ ν)) else zbv (call 112 [.ref 27, .int x1, .ref 11, .int (μ 1 11)] (zm len μ ν)) (fun M' => zE zc_X11_tablet call 46 [.ref 1, .int x1] [] M')) :=
  (zE_runc zg_X11_tablet [7, 15, 25, 46] 2000 25 _ _ _).trans rfl
set_option maxRecDepth 50000 in
theorem B_X11_tablet_46 (call : zC) (len : Nat) (μ : zMu) (ν : zNu) (x1 : Int32) : zE zc_X11_tablet call 46 [.ref 1, .int x1] [] (zm len μ ν) = some (.int (μ 11 2), (zm len μ ν)) :=
  (zE_runc zg_X11_tablet [7, 15, 25, 46] 2000 46 _ _ _).trans rfl
set_option maxRecDepth 50000 in
theorem B_X11_rules (d len : Nat) (μ : zMu) (ν : zNu)  : zF zT0 (d + 1) 144 [.ref 1] (zm len μ ν) = (fun call => zbv (call 120 [.ref 6] (zm len μ ν)) (fun M' => zE zc_X11_rules call 7 [.ref 1] [] M')) (zF zT0 d) :=
  (show _ = zE zc_X11_rules (zF zT0 d) 0 [.ref 1] [] (zm len μ ν) from rfl).trans ((zE_runc zg_X11_rules [7, 14, 24] 2000 0 _ _ _).trans rfl)
set_option maxRecDepth 50000 in
theorem B_X11_rules_7 (call : zC) (len : Nat) (μ : zMu) (ν : zNu)  : zE zc_X11_rules call 7 [.ref 1] [] (zm len μ ν) = zbi (call 86 [.ref 57] (zm len μ ν)) (fun w' M' => zE zc_X11_rules call 14 [.ref 1] [.int w'] M') :=
  (zE_runc zg_X11_rules [7, 14, 24] 2000 7 _ _ _).trans rfl
set_option maxRecDepth 50000 in
theorem B_X11_rules_14 (call : zC) (len : Nat) (μ : zMu) (ν : zNu) (xs0 : Int32) : zE zc_X11_rules call 14 [.ref 1] [.int xs0] (zm len μ ν) = (if xs0 = 0 then some (.int (-1 : Int32), (zm len μ ν)) else zbi (call 84 [.ref 57] (zm len μ ν)) (fun w' M' => zE zc_X11_rules call 24 [.ref 1] [.int w'] M')) :=
  (zE_runc zg_X11_rules [7, 14, 24] 2000 14 _ _ _).trans rfl
set_option maxRecDepth 50000 in
theorem B_X11_rules_24 (call : zC) (len : Nat) (μ : zMu) (ν : zNu) (xs0 : Int32) : zE zc_X11_rules call 24 [.ref 1] [.int xs0] (zm len μ ν) = some (.int xs0, (zm len μ ν)) :=
  (zE_runc zg_X11_rules [7, 14, 24] 2000 24 _ _ _).trans rfl
set_option maxRecDepth 50000 in
theorem B_X11_fault (d len : Nat) (μ : zMu) (ν : zNu) (a0 : Int32) : zF zT0 (d + 1) 145 [.ref 1, .int a0] (zm len μ ν) = (fun call => zbi (call 135 [.ref 6, .int a0] (zm len μ ν)) (fun w' M' => zE zc_X11_fault call 8 [.ref 1, .int a0] [.int w'] M')) (zF zT0 d) :=
  (show _ = zE zc_X11_fault (zF zT0 d) 0 [.ref 1, .int a0] [] (zm len μ ν) from rfl).trans ((zE_runc zg_X11_fault [8] 2000 0 _ _ _).trans rfl)
set_option maxRecDepth 50000 in
theorem B_X11_fault_8 (call : zC) (len : Nat) (μ : zMu) (ν : zNu) (x1 : Int32) (xs0 : Int32) : zE zc_X11_fault call 8 [.ref 1, .int x1] [.int xs0] (zm len μ ν) = some (.int xs0, (zm len μ ν)) :=
  (zE_runc zg_X11_fault [8] 2000 8 _ _ _).trans rfl
set_option maxRecDepth 50000 in
theorem B_X11_line (d len : Nat) (μ : zMu) (ν : zNu) (a0 : Int32) (a1 : Int32) (a2 : Int32) : zF zT0 (d + 1) 146 [.ref 1, .int a0, .int a1, .int a2] (zm len μ ν) = (fun call => zbi (call 113 [.ref 27, .int a0, .int a1, .int a2] (zm len μ ν)) (fun w' M' => zE zc_X11_line call 10 [.ref 1, .int a0, .int a1, .int a2] [.int w'] M')) (zF zT0 d) :=
  (show _ = zE zc_X11_line (zF zT0 d) 0 [.ref 1, .int a0, .int a1, .int a2] [] (zm len μ ν) from rfl).trans ((zE_runc zg_X11_line [10] 2000 0 _ _ _).trans rfl)
set_option maxRecDepth 50000 in
theorem B_X11_line_10 (call : zC) (len : Nat) (μ : zMu) (ν : zNu) (x1 : Int32) (x2 : Int32) (x3 : Int32) (xs0 : Int32) : zE zc_X11_line call 10 [.ref 1, .int x1, .int x2, .int x3] [.int xs0] (zm len μ ν) = some (.int xs0, (zm len μ ν)) :=
  (zE_runc zg_X11_line [10] 2000 10 _ _ _).trans rfl
set_option maxRecDepth 50000 in
theorem B_X11_stock (d len : Nat) (μ : zMu) (ν : zNu) (a0 : Int32) (a1 : Int32) (a2 : Int32) : zF zT0 (d + 1) 147 [.ref 1, .int a0, .int a1, .int a2] (zm len μ ν) = (fun call => zbi (call 176 [.int a0] (zm len μ ν)) (fun w' M' => zE zc_X11_stock call 4 [.ref 1, .int a0, .int a1, .int a2] [.int w'] M')) (zF zT0 d) :=
  (show _ = zE zc_X11_stock (zF zT0 d) 0 [.ref 1, .int a0, .int a1, .int a2] [] (zm len μ ν) from rfl).trans ((zE_runc zg_X11_stock [4, 11, 20, 45] 2000 0 _ _ _).trans rfl)
set_option maxRecDepth 50000 in
theorem B_X11_stock_4 (call : zC) (len : Nat) (μ : zMu) (ν : zNu) (x1 : Int32) (x2 : Int32) (x3 : Int32) (xs0 : Int32) : zE zc_X11_stock call 4 [.ref 1, .int x1, .int x2, .int x3] [.int xs0] (zm len μ ν) = (if xs0 = 0 then some (.long (-99999999999 : Int64), (zm len μ ν)) else zbi (call 177 [.int x2] (zm len μ ν)) (fun w' M' => zE zc_X11_stock call 11 [.ref 1, .int x1, .int x2, .int x3] [.int w'] M')) :=
  (zE_runc zg_X11_stock [4, 11, 20, 45] 2000 4 _ _ _).trans rfl
set_option maxRecDepth 50000 in
theorem B_X11_stock_11 (call : zC) (len : Nat) (μ : zMu) (ν : zNu) (x1 : Int32) (x2 : Int32) (x3 : Int32) (xs0 : Int32) : zE zc_X11_stock call 11 [.ref 1, .int x1, .int x2, .int x3] [.int xs0] (zm len μ ν) = (if xs0 = 0 then some (.long (-99999999999 : Int64), (zm len μ ν)) else zbi (call 175 [.int x3, .int (0 : Int32), .int (1 : Int32)] (zm len μ ν)) (fun w' M' => zE zc_X11_stock call 20 [.ref 1, .int x1, .int x2, .int x3] [.int w'] M')) :=
  (zE_runc zg_X11_stock [4, 11, 20, 45] 2000 11 _ _ _).trans rfl
set_option maxRecDepth 50000 in
theorem B_X11_stock_20 (call : zC) (len : Nat) (μ : zMu) (ν : zNu) (x1 : Int32) (x2 : Int32) (x3 : Int32) (xs0 : Int32) : zE zc_X11_stock call 20 [.ref 1, .int x1, .int x2, .int x3] [.int xs0] (zm len μ ν) = (if xs0 = 0 then some (.long (-99999999999 : Int64), (zm len μ ν)) else (if x3 = 0 then zbl (call 114 [.ref 27, .int x1, .int x2, .int (1 : Int32)] (zm len μ ν)) (fun w' M' => zE zc_X11_stock call 45 [.ref 1, .int x1, .int x2, .int x3] [.long w'] M') else zbl (call 114 [.ref 27, .int x1, .int x2, .int (0 : Int32)] (zm len μ ν)) (fun w' M' => zE zc_X11_stock call 45 [.ref 1, .int x1, .int x2, .int x3] [.long w'] M'))) :=
  (zE_runc zg_X11_stock [4, 11, 20, 45] 2000 20 _ _ _).trans rfl
set_option maxRecDepth 50000 in
theorem B_X11_stock_45 (call : zC) (len : Nat) (μ : zMu) (ν : zNu) (x1 : Int32) (x2 : Int32) (x3 : Int32) (xs0 : Int64) : zE zc_X11_stock call 45 [.ref 1, .int x1, .int x2, .int x3] [.long xs0] (zm len μ ν) = some (.long xs0, (zm len μ ν)) :=
  (zE_runc zg_X11_stock [4, 11, 20, 45] 2000 45 _ _ _).trans rfl
set_option maxRecDepth 50000 in
theorem B_X11_weight (d len : Nat) (μ : zMu) (ν : zNu) (a0 : Int32) (a1 : Int32) : zF zT0 (d + 1) 148 [.ref 1, .int a0, .int a1] (zm len μ ν) = (fun call => zbi (call 3 [.ref 35, .int a0, .int a1] (zm len μ ν)) (fun w' M' => zE zc_X11_weight call 9 [.ref 1, .int a0, .int a1] [.int w'] M')) (zF zT0 d) :=
  (show _ = zE zc_X11_weight (zF zT0 d) 0 [.ref 1, .int a0, .int a1] [] (zm len μ ν) from rfl).trans ((zE_runc zg_X11_weight [9] 2000 0 _ _ _).trans rfl)
set_option maxRecDepth 50000 in
theorem B_X11_weight_9 (call : zC) (len : Nat) (μ : zMu) (ν : zNu) (x1 : Int32) (x2 : Int32) (xs0 : Int32) : zE zc_X11_weight call 9 [.ref 1, .int x1, .int x2] [.int xs0] (zm len μ ν) = (if xs0 = 0 ∨ xs0 = 1 then some (.int xs0, (zm len μ ν)) else none) :=
  (zE_runc zg_X11_weight [9] 2000 9 _ _ _).trans rfl
set_option maxRecDepth 50000 in
theorem B_X11_mark (d len : Nat) (μ : zMu) (ν : zNu) (a0 : Int32) (a1 : Int32) (a2 : Int32) : zF zT0 (d + 1) 149 [.ref 1, .int a0, .int a1, .int a2] (zm len μ ν) = (fun call => zbi (call 4 [.ref 35, .int a0, .int a1, .int a2] (zm len μ ν)) (fun w' M' => zE zc_X11_mark call 10 [.ref 1, .int a0, .int a1, .int a2] [.int w'] M')) (zF zT0 d) :=
  (show _ = zE zc_X11_mark (zF zT0 d) 0 [.ref 1, .int a0, .int a1, .int a2] [] (zm len μ ν) from rfl).trans ((zE_runc zg_X11_mark [10] 2000 0 _ _ _).trans rfl)
set_option maxRecDepth 50000 in
theorem B_X11_mark_10 (call : zC) (len : Nat) (μ : zMu) (ν : zNu) (x1 : Int32) (x2 : Int32) (x3 : Int32) (xs0 : Int32) : zE zc_X11_mark call 10 [.ref 1, .int x1, .int x2, .int x3] [.int xs0] (zm len μ ν) = (if xs0 = 0 ∨ xs0 = 1 then some (.int xs0, (zm len μ ν)) else none) :=
  (zE_runc zg_X11_mark [10] 2000 10 _ _ _).trans rfl
set_option maxRecDepth 50000 in
theorem B_X11_tell (d len : Nat) (μ : zMu) (ν : zNu) (a0 : Int32) (a1 : Int32) (a2 : Int32) : zF zT0 (d + 1) 150 [.ref 1, .int a0, .int a1, .int a2] (zm len μ ν) = (fun call => zbi (call 5 [.ref 35, .int a0, .int a1, .int a2] (zm len μ ν)) (fun w' M' => zE zc_X11_tell call 10 [.ref 1, .int a0, .int a1, .int a2] [.int w'] M')) (zF zT0 d) :=
  (show _ = zE zc_X11_tell (zF zT0 d) 0 [.ref 1, .int a0, .int a1, .int a2] [] (zm len μ ν) from rfl).trans ((zE_runc zg_X11_tell [10] 2000 0 _ _ _).trans rfl)
set_option maxRecDepth 50000 in
theorem B_X11_tell_10 (call : zC) (len : Nat) (μ : zMu) (ν : zNu) (x1 : Int32) (x2 : Int32) (x3 : Int32) (xs0 : Int32) : zE zc_X11_tell call 10 [.ref 1, .int x1, .int x2, .int x3] [.int xs0] (zm len μ ν) = (if xs0 = 0 ∨ xs0 = 1 then some (.int xs0, (zm len μ ν)) else none) :=
  (zE_runc zg_X11_tell [10] 2000 10 _ _ _).trans rfl
set_option maxRecDepth 50000 in
theorem B_X11_ball (d len : Nat) (μ : zMu) (ν : zNu) (a0 : Int32) (a1 : Int32) : zF zT0 (d + 1) 151 [.ref 1, .int a0, .int a1] (zm len μ ν) = (fun call => zbi (call 6 [.ref 35, .int a0, .int a1] (zm len μ ν)) (fun w' M' => zE zc_X11_ball call 9 [.ref 1, .int a0, .int a1] [.int w'] M')) (zF zT0 d) :=
  (show _ = zE zc_X11_ball (zF zT0 d) 0 [.ref 1, .int a0, .int a1] [] (zm len μ ν) from rfl).trans ((zE_runc zg_X11_ball [9] 2000 0 _ _ _).trans rfl)
set_option maxRecDepth 50000 in
theorem B_X11_ball_9 (call : zC) (len : Nat) (μ : zMu) (ν : zNu) (x1 : Int32) (x2 : Int32) (xs0 : Int32) : zE zc_X11_ball call 9 [.ref 1, .int x1, .int x2] [.int xs0] (zm len μ ν) = some (.int xs0, (zm len μ ν)) :=
  (zE_runc zg_X11_ball [9] 2000 9 _ _ _).trans rfl
set_option maxRecDepth 50000 in
theorem B_X11_seal (d len : Nat) (μ : zMu) (ν : zNu)  : zF zT0 (d + 1) 152 [.ref 1] (zm len μ ν) = (fun call => zbi (call 100 [.ref 45] (zm len μ ν)) (fun w' M' => zE zc_X11_seal call 7 [.ref 1] [.int w'] M')) (zF zT0 d) :=
  (show _ = zE zc_X11_seal (zF zT0 d) 0 [.ref 1] [] (zm len μ ν) from rfl).trans ((zE_runc zg_X11_seal [7] 2000 0 _ _ _).trans rfl)
set_option maxRecDepth 50000 in
theorem B_X11_seal_7 (call : zC) (len : Nat) (μ : zMu) (ν : zNu) (xs0 : Int32) : zE zc_X11_seal call 7 [.ref 1] [.int xs0] (zm len μ ν) = some (.int xs0, (zm len μ ν)) :=
  (zE_runc zg_X11_seal [7] 2000 7 _ _ _).trans rfl
set_option maxRecDepth 50000 in
theorem B_X11_over (d len : Nat) (μ : zMu) (ν : zNu) (a0 : Int32) (a1 : Int32) : zF zT0 (d + 1) 153 [.ref 1, .int a0, .int a1] (zm len μ ν) = (fun call => zbi (call 101 [.ref 45, .int a0, .int a1] (zm len μ ν)) (fun w' M' => zE zc_X11_over call 9 [.ref 1, .int a0, .int a1] [.int w'] M')) (zF zT0 d) :=
  (show _ = zE zc_X11_over (zF zT0 d) 0 [.ref 1, .int a0, .int a1] [] (zm len μ ν) from rfl).trans ((zE_runc zg_X11_over [9] 2000 0 _ _ _).trans rfl)
set_option maxRecDepth 50000 in
theorem B_X11_over_9 (call : zC) (len : Nat) (μ : zMu) (ν : zNu) (x1 : Int32) (x2 : Int32) (xs0 : Int32) : zE zc_X11_over call 9 [.ref 1, .int x1, .int x2] [.int xs0] (zm len μ ν) = (if xs0 = 0 ∨ xs0 = 1 then some (.int xs0, (zm len μ ν)) else none) :=
  (zE_runc zg_X11_over [9] 2000 9 _ _ _).trans rfl
set_option maxRecDepth 50000 in
theorem B_X11_order (d len : Nat) (μ : zMu) (ν : zNu) (a0 : Int32) : zF zT0 (d + 1) 154 [.ref 1, .int a0] (zm len μ ν) = (fun call => zbi (call 102 [.ref 45, .int a0] (zm len μ ν)) (fun w' M' => zE zc_X11_order call 8 [.ref 1, .int a0] [.int w'] M')) (zF zT0 d) :=
  (show _ = zE zc_X11_order (zF zT0 d) 0 [.ref 1, .int a0] [] (zm len μ ν) from rfl).trans ((zE_runc zg_X11_order [8] 2000 0 _ _ _).trans rfl)
set_option maxRecDepth 50000 in
theorem B_X11_order_8 (call : zC) (len : Nat) (μ : zMu) (ν : zNu) (x1 : Int32) (xs0 : Int32) : zE zc_X11_order call 8 [.ref 1, .int x1] [.int xs0] (zm len μ ν) = some (.int xs0, (zm len μ ν)) :=
  (zE_runc zg_X11_order [8] 2000 8 _ _ _).trans rfl
set_option maxRecDepth 50000 in
theorem B_X11_ahead (d len : Nat) (μ : zMu) (ν : zNu) (a0 : Int32) (a1 : Int32) : zF zT0 (d + 1) 155 [.ref 1, .int a0, .int a1] (zm len μ ν) = (fun call => zbi (call 108 [.ref 45, .int a0, .int a1] (zm len μ ν)) (fun w' M' => zE zc_X11_ahead call 9 [.ref 1, .int a0, .int a1] [.int w'] M')) (zF zT0 d) :=
  (show _ = zE zc_X11_ahead (zF zT0 d) 0 [.ref 1, .int a0, .int a1] [] (zm len μ ν) from rfl).trans ((zE_runc zg_X11_ahead [9] 2000 0 _ _ _).trans rfl)
set_option maxRecDepth 50000 in
theorem B_X11_ahead_9 (call : zC) (len : Nat) (μ : zMu) (ν : zNu) (x1 : Int32) (x2 : Int32) (xs0 : Int32) : zE zc_X11_ahead call 9 [.ref 1, .int x1, .int x2] [.int xs0] (zm len μ ν) = some (.int xs0, (zm len μ ν)) :=
  (zE_runc zg_X11_ahead [9] 2000 9 _ _ _).trans rfl
set_option maxRecDepth 50000 in
theorem B_X11_fragment (d len : Nat) (μ : zMu) (ν : zNu) (a0 : Int32) : zF zT0 (d + 1) 156 [.ref 1, .int a0] (zm len μ ν) = (fun call => zbi (call 42 [.ref 51, .int a0] (zm len μ ν)) (fun w' M' => zE zc_X11_fragment call 8 [.ref 1, .int a0] [.int w'] M')) (zF zT0 d) :=
  (show _ = zE zc_X11_fragment (zF zT0 d) 0 [.ref 1, .int a0] [] (zm len μ ν) from rfl).trans ((zE_runc zg_X11_fragment [8] 2000 0 _ _ _).trans rfl)
set_option maxRecDepth 50000 in
theorem B_X11_fragment_8 (call : zC) (len : Nat) (μ : zMu) (ν : zNu) (x1 : Int32) (xs0 : Int32) : zE zc_X11_fragment call 8 [.ref 1, .int x1] [.int xs0] (zm len μ ν) = some (.int xs0, (zm len μ ν)) :=
  (zE_runc zg_X11_fragment [8] 2000 8 _ _ _).trans rfl
set_option maxRecDepth 50000 in
theorem B_X11_edge (d len : Nat) (μ : zMu) (ν : zNu) (a0 : Int32) (a1 : Int32) (a2 : Int32) (a3 : Int32) : zF zT0 (d + 1) 157 [.ref 1, .int a0, .int a1, .int a2, .int a3] (zm len μ ν) = (fun call => zbi (call 43 [.ref 51, .int a0, .int a1, .int a2, .int a3] (zm len μ ν)) (fun w' M' => zE zc_X11_edge call 12 [.ref 1, .int a0, .int a1, .int a2, .int a3] [.int w'] M')) (zF zT0 d) :=
  (show _ = zE zc_X11_edge (zF zT0 d) 0 [.ref 1, .int a0, .int a1, .int a2, .int a3] [] (zm len μ ν) from rfl).trans ((zE_runc zg_X11_edge [12] 2000 0 _ _ _).trans rfl)
set_option maxRecDepth 50000 in
theorem B_X11_edge_12 (call : zC) (len : Nat) (μ : zMu) (ν : zNu) (x1 : Int32) (x2 : Int32) (x3 : Int32) (x4 : Int32) (xs0 : Int32) : zE zc_X11_edge call 12 [.ref 1, .int x1, .int x2, .int x3, .int x4] [.int xs0] (zm len μ ν) = (if xs0 = 0 ∨ xs0 = 1 then some (.int xs0, (zm len μ ν)) else none) :=
  (zE_runc zg_X11_edge [12] 2000 12 _ _ _).trans rfl
set_option maxRecDepth 50000 in
theorem B_X11_row (d len : Nat) (μ : zMu) (ν : zNu) (a0 : Int32) (a1 : Int32) : zF zT0 (d + 1) 158 [.ref 1, .int a0, .int a1] (zm len μ ν) = (fun call => zbi (call 44 [.ref 51, .int a0, .int a1] (zm len μ ν)) (fun w' M' => zE zc_X11_row call 9 [.ref 1, .int a0, .int a1] [.int w'] M')) (zF zT0 d) :=
  (show _ = zE zc_X11_row (zF zT0 d) 0 [.ref 1, .int a0, .int a1] [] (zm len μ ν) from rfl).trans ((zE_runc zg_X11_row [9] 2000 0 _ _ _).trans rfl)
set_option maxRecDepth 50000 in
theorem B_X11_row_9 (call : zC) (len : Nat) (μ : zMu) (ν : zNu) (x1 : Int32) (x2 : Int32) (xs0 : Int32) : zE zc_X11_row call 9 [.ref 1, .int x1, .int x2] [.int xs0] (zm len μ ν) = some (.int xs0, (zm len μ ν)) :=
  (zE_runc zg_X11_row [9] 2000 9 _ _ _).trans rfl
set_option maxRecDepth 50000 in
theorem B_X11_person (d len : Nat) (μ : zMu) (ν : zNu) (a0 : Int32) (a1 : Int32) (a2 : Int32) : zF zT0 (d + 1) 159 [.ref 1, .int a0, .int a1, .int a2] (zm len μ ν) = (fun call => zbi (call 77 [.ref 67, .int a0, .int a1, .int a2] (zm len μ ν)) (fun w' M' => zE zc_X11_person call 10 [.ref 1, .int a0, .int a1, .int a2] [.int w'] M')) (zF zT0 d) :=
  (show _ = zE zc_X11_person (zF zT0 d) 0 [.ref 1, .int a0, .int a1, .int a2] [] (zm len μ ν) from rfl).trans ((zE_runc zg_X11_person [10] 2000 0 _ _ _).trans rfl)
set_option maxRecDepth 50000 in
theorem B_X11_person_10 (call : zC) (len : Nat) (μ : zMu) (ν : zNu) (x1 : Int32) (x2 : Int32) (x3 : Int32) (xs0 : Int32) : zE zc_X11_person call 10 [.ref 1, .int x1, .int x2, .int x3] [.int xs0] (zm len μ ν) = some (.int xs0, (zm len μ ν)) :=
  (zE_runc zg_X11_person [10] 2000 10 _ _ _).trans rfl
set_option maxRecDepth 50000 in
theorem B_X11_works (d len : Nat) (μ : zMu) (ν : zNu) (a0 : Int32) (a1 : Int32) : zF zT0 (d + 1) 160 [.ref 1, .int a0, .int a1] (zm len μ ν) = (fun call => zbi (call 78 [.ref 67, .int a0, .int a1] (zm len μ ν)) (fun w' M' => zE zc_X11_works call 9 [.ref 1, .int a0, .int a1] [.int w'] M')) (zF zT0 d) :=
  (show _ = zE zc_X11_works (zF zT0 d) 0 [.ref 1, .int a0, .int a1] [] (zm len μ ν) from rfl).trans ((zE_runc zg_X11_works [9] 2000 0 _ _ _).trans rfl)
set_option maxRecDepth 50000 in
theorem B_X11_works_9 (call : zC) (len : Nat) (μ : zMu) (ν : zNu) (x1 : Int32) (x2 : Int32) (xs0 : Int32) : zE zc_X11_works call 9 [.ref 1, .int x1, .int x2] [.int xs0] (zm len μ ν) = (if xs0 = 0 ∨ xs0 = 1 then some (.int xs0, (zm len μ ν)) else none) :=
  (zE_runc zg_X11_works [9] 2000 9 _ _ _).trans rfl
set_option maxRecDepth 50000 in
theorem B_X11_store (d len : Nat) (μ : zMu) (ν : zNu) (a0 : Int32) (a1 : Int32) : zF zT0 (d + 1) 161 [.ref 1, .int a0, .int a1] (zm len μ ν) = (fun call => zbi (call 79 [.ref 67, .int a0, .int a1] (zm len μ ν)) (fun w' M' => zE zc_X11_store call 9 [.ref 1, .int a0, .int a1] [.int w'] M')) (zF zT0 d) :=
  (show _ = zE zc_X11_store (zF zT0 d) 0 [.ref 1, .int a0, .int a1] [] (zm len μ ν) from rfl).trans ((zE_runc zg_X11_store [9] 2000 0 _ _ _).trans rfl)
set_option maxRecDepth 50000 in
theorem B_X11_store_9 (call : zC) (len : Nat) (μ : zMu) (ν : zNu) (x1 : Int32) (x2 : Int32) (xs0 : Int32) : zE zc_X11_store call 9 [.ref 1, .int x1, .int x2] [.int xs0] (zm len μ ν) = some (.int xs0, (zm len μ ν)) :=
  (zE_runc zg_X11_store [9] 2000 9 _ _ _).trans rfl
set_option maxRecDepth 50000 in
theorem B_X11_month (d len : Nat) (μ : zMu) (ν : zNu) (a0 : Int32) : zF zT0 (d + 1) 162 [.ref 1, .int a0] (zm len μ ν) = (fun call => zbi (call 80 [.ref 67, .int a0] (zm len μ ν)) (fun w' M' => zE zc_X11_month call 8 [.ref 1, .int a0] [.int w'] M')) (zF zT0 d) :=
  (show _ = zE zc_X11_month (zF zT0 d) 0 [.ref 1, .int a0] [] (zm len μ ν) from rfl).trans ((zE_runc zg_X11_month [8] 2000 0 _ _ _).trans rfl)
set_option maxRecDepth 50000 in
theorem B_X11_month_8 (call : zC) (len : Nat) (μ : zMu) (ν : zNu) (x1 : Int32) (xs0 : Int32) : zE zc_X11_month call 8 [.ref 1, .int x1] [.int xs0] (zm len μ ν) = some (.int xs0, (zm len μ ν)) :=
  (zE_runc zg_X11_month [8] 2000 8 _ _ _).trans rfl
set_option maxRecDepth 50000 in
theorem B_X11_ration (d len : Nat) (μ : zMu) (ν : zNu) (a0 : Int32) (a1 : Int32) (a2 : Int32) : zF zT0 (d + 1) 163 [.ref 1, .int a0, .int a1, .int a2] (zm len μ ν) = (fun call => zbi (call 81 [.ref 67, .int a0, .int a1, .int a2] (zm len μ ν)) (fun w' M' => zE zc_X11_ration call 10 [.ref 1, .int a0, .int a1, .int a2] [.int w'] M')) (zF zT0 d) :=
  (show _ = zE zc_X11_ration (zF zT0 d) 0 [.ref 1, .int a0, .int a1, .int a2] [] (zm len μ ν) from rfl).trans ((zE_runc zg_X11_ration [10] 2000 0 _ _ _).trans rfl)
set_option maxRecDepth 50000 in
theorem B_X11_ration_10 (call : zC) (len : Nat) (μ : zMu) (ν : zNu) (x1 : Int32) (x2 : Int32) (x3 : Int32) (xs0 : Int32) : zE zc_X11_ration call 10 [.ref 1, .int x1, .int x2, .int x3] [.int xs0] (zm len μ ν) = some (.int xs0, (zm len μ ν)) :=
  (zE_runc zg_X11_ration [10] 2000 10 _ _ _).trans rfl
set_option maxRecDepth 50000 in
theorem B_X11_book (d len : Nat) (μ : zMu) (ν : zNu) (a0 : Int32) (a1 : Int32) : zF zT0 (d + 1) 164 [.ref 1, .int a0, .int a1] (zm len μ ν) = (fun call => zbi (call 31 [.ref 74, .int a0, .int a1] (zm len μ ν)) (fun w' M' => zE zc_X11_book call 9 [.ref 1, .int a0, .int a1] [.int w'] M')) (zF zT0 d) :=
  (show _ = zE zc_X11_book (zF zT0 d) 0 [.ref 1, .int a0, .int a1] [] (zm len μ ν) from rfl).trans ((zE_runc zg_X11_book [9] 2000 0 _ _ _).trans rfl)
set_option maxRecDepth 50000 in
theorem B_X11_book_9 (call : zC) (len : Nat) (μ : zMu) (ν : zNu) (x1 : Int32) (x2 : Int32) (xs0 : Int32) : zE zc_X11_book call 9 [.ref 1, .int x1, .int x2] [.int xs0] (zm len μ ν) = (if xs0 = 0 ∨ xs0 = 1 then some (.int xs0, (zm len μ ν)) else none) :=
  (zE_runc zg_X11_book [9] 2000 9 _ _ _).trans rfl
set_option maxRecDepth 50000 in
theorem B_X11_flock (d len : Nat) (μ : zMu) (ν : zNu) (a0 : Int32) (a1 : Int32) (a2 : Int32) : zF zT0 (d + 1) 165 [.ref 1, .int a0, .int a1, .int a2] (zm len μ ν) = (fun call => zbi (call 32 [.ref 74, .int (μ 1 11), .int a0, .int a1, .int a2] (zm len μ ν)) (fun w' M' => zE zc_X11_flock call 14 [.ref 1, .int a0, .int a1, .int a2] [.int w'] M')) (zF zT0 d) :=
  (show _ = zE zc_X11_flock (zF zT0 d) 0 [.ref 1, .int a0, .int a1, .int a2] [] (zm len μ ν) from rfl).trans ((zE_runc zg_X11_flock [14] 2000 0 _ _ _).trans rfl)
set_option maxRecDepth 50000 in
theorem B_X11_flock_14 (call : zC) (len : Nat) (μ : zMu) (ν : zNu) (x1 : Int32) (x2 : Int32) (x3 : Int32) (xs0 : Int32) : zE zc_X11_flock call 14 [.ref 1, .int x1, .int x2, .int x3] [.int xs0] (zm len μ ν) = some (.int xs0, (zm len μ ν)) :=
  (zE_runc zg_X11_flock [14] 2000 14 _ _ _).trans rfl
set_option maxRecDepth 50000 in
theorem B_X11_found (d len : Nat) (μ : zMu) (ν : zNu) (a0 : Int32) (a1 : Int32) (a2 : Int32) (a3 : Int32) (a4 : Int32) : zF zT0 (d + 1) 166 [.ref 1, .int a0, .int a1, .int a2, .int a3, .int a4] (zm len μ ν) = (fun call => zbi (call 33 [.ref 74, .int (μ 1 11), .int a0, .int a1, .int a2, .int a3, .int a4] (zm len μ ν)) (fun w' M' => zE zc_X11_found call 18 [.ref 1, .int a0, .int a1, .int a2, .int a3, .int a4] [.int w'] M')) (zF zT0 d) :=
  (show _ = zE zc_X11_found (zF zT0 d) 0 [.ref 1, .int a0, .int a1, .int a2, .int a3, .int a4] [] (zm len μ ν) from rfl).trans ((zE_runc zg_X11_found [18] 2000 0 _ _ _).trans rfl)
set_option maxRecDepth 50000 in
theorem B_X11_found_18 (call : zC) (len : Nat) (μ : zMu) (ν : zNu) (x1 : Int32) (x2 : Int32) (x3 : Int32) (x4 : Int32) (x5 : Int32) (xs0 : Int32) : zE zc_X11_found call 18 [.ref 1, .int x1, .int x2, .int x3, .int x4, .int x5] [.int xs0] (zm len μ ν) = (if xs0 = 0 ∨ xs0 = 1 then some (.int xs0, (zm len μ ν)) else none) :=
  (zE_runc zg_X11_found [18] 2000 18 _ _ _).trans rfl
set_option maxRecDepth 50000 in
theorem B_X11_flockAt (d len : Nat) (μ : zMu) (ν : zNu) (a0 : Int32) (a1 : Int32) (a2 : Int32) (a3 : Int32) : zF zT0 (d + 1) 167 [.ref 1, .int a0, .int a1, .int a2, .int a3] (zm len μ ν) = (fun call => zbi (call 34 [.ref 74, .int a0, .int a1, .int a2, .int a3] (zm len μ ν)) (fun w' M' => zE zc_X11_flockAt call 12 [.ref 1, .int a0, .int a1, .int a2, .int a3] [.int w'] M')) (zF zT0 d) :=
  (show _ = zE zc_X11_flockAt (zF zT0 d) 0 [.ref 1, .int a0, .int a1, .int a2, .int a3] [] (zm len μ ν) from rfl).trans ((zE_runc zg_X11_flockAt [12] 2000 0 _ _ _).trans rfl)
set_option maxRecDepth 50000 in
theorem B_X11_flockAt_12 (call : zC) (len : Nat) (μ : zMu) (ν : zNu) (x1 : Int32) (x2 : Int32) (x3 : Int32) (x4 : Int32) (xs0 : Int32) : zE zc_X11_flockAt call 12 [.ref 1, .int x1, .int x2, .int x3, .int x4] [.int xs0] (zm len μ ν) = some (.int xs0, (zm len μ ν)) :=
  (zE_runc zg_X11_flockAt [12] 2000 12 _ _ _).trans rfl
set_option maxRecDepth 50000 in
theorem B_X11_interest (d len : Nat) (μ : zMu) (ν : zNu) (a0 : Int32) (a1 : Int32) : zF zT0 (d + 1) 168 [.ref 1, .int a0, .int a1] (zm len μ ν) = (fun call => zbi (call 54 [.ref 82, .int a0, .int a1] (zm len μ ν)) (fun w' M' => zE zc_X11_interest call 9 [.ref 1, .int a0, .int a1] [.int w'] M')) (zF zT0 d) :=
  (show _ = zE zc_X11_interest (zF zT0 d) 0 [.ref 1, .int a0, .int a1] [] (zm len μ ν) from rfl).trans ((zE_runc zg_X11_interest [9] 2000 0 _ _ _).trans rfl)
set_option maxRecDepth 50000 in
theorem B_X11_interest_9 (call : zC) (len : Nat) (μ : zMu) (ν : zNu) (x1 : Int32) (x2 : Int32) (xs0 : Int32) : zE zc_X11_interest call 9 [.ref 1, .int x1, .int x2] [.int xs0] (zm len μ ν) = (if xs0 = 0 ∨ xs0 = 1 then some (.int xs0, (zm len μ ν)) else none) :=
  (zE_runc zg_X11_interest [9] 2000 9 _ _ _).trans rfl
set_option maxRecDepth 50000 in
theorem B_X11_loan (d len : Nat) (μ : zMu) (ν : zNu) (a0 : Int32) (a1 : Int32) (a2 : Int32) : zF zT0 (d + 1) 169 [.ref 1, .int a0, .int a1, .int a2] (zm len μ ν) = (fun call => zbi (call 73 [.ref 67, .int a0] (zm len μ ν)) (fun w' M' => zE zc_X11_loan call 8 [.ref 1, .int a0, .int a1, .int a2] [.int w'] M')) (zF zT0 d) :=
  (show _ = zE zc_X11_loan (zF zT0 d) 0 [.ref 1, .int a0, .int a1, .int a2] [] (zm len μ ν) from rfl).trans ((zE_runc zg_X11_loan [8, 24] 2000 0 _ _ _).trans rfl)
set_option maxRecDepth 50000 in
theorem B_X11_loan_8 (call : zC) (len : Nat) (μ : zMu) (ν : zNu) (x1 : Int32) (x2 : Int32) (x3 : Int32) (xs0 : Int32) : zE zc_X11_loan call 8 [.ref 1, .int x1, .int x2, .int x3] [.int xs0] (zm len μ ν) = (if xs0 = 0 then some (.int (-1 : Int32), (zm len μ ν)) else zbi (call 55 [.ref 82, .int (μ 1 11), .int x2, .int x3] (zm len μ ν)) (fun w' M' => zE zc_X11_loan call 24 [.ref 1, .int x1, .int x2, .int x3] [.int w'] M')) :=
  (zE_runc zg_X11_loan [8, 24] 2000 8 _ _ _).trans rfl
set_option maxRecDepth 50000 in
theorem B_X11_loan_24 (call : zC) (len : Nat) (μ : zMu) (ν : zNu) (x1 : Int32) (x2 : Int32) (x3 : Int32) (xs0 : Int32) : zE zc_X11_loan call 24 [.ref 1, .int x1, .int x2, .int x3] [.int xs0] (zm len μ ν) = some (.int xs0, (zm len μ ν)) :=
  (zE_runc zg_X11_loan [8, 24] 2000 24 _ _ _).trans rfl
set_option maxRecDepth 50000 in
theorem B_X11_pay (d len : Nat) (μ : zMu) (ν : zNu) (a0 : Int32) (a1 : Int32) (a2 : Int32) : zF zT0 (d + 1) 170 [.ref 1, .int a0, .int a1, .int a2] (zm len μ ν) = (fun call => zbi (call 56 [.ref 82, .int (μ 1 11), .int a0, .int a1, .int a2] (zm len μ ν)) (fun w' M' => zE zc_X11_pay call 14 [.ref 1, .int a0, .int a1, .int a2] [.int w'] M')) (zF zT0 d) :=
  (show _ = zE zc_X11_pay (zF zT0 d) 0 [.ref 1, .int a0, .int a1, .int a2] [] (zm len μ ν) from rfl).trans ((zE_runc zg_X11_pay [14] 2000 0 _ _ _).trans rfl)
set_option maxRecDepth 50000 in
theorem B_X11_pay_14 (call : zC) (len : Nat) (μ : zMu) (ν : zNu) (x1 : Int32) (x2 : Int32) (x3 : Int32) (xs0 : Int32) : zE zc_X11_pay call 14 [.ref 1, .int x1, .int x2, .int x3] [.int xs0] (zm len μ ν) = (if xs0 = 0 ∨ xs0 = 1 then some (.int xs0, (zm len μ ν)) else none) :=
  (zE_runc zg_X11_pay [14] 2000 14 _ _ _).trans rfl
set_option maxRecDepth 50000 in
theorem B_X11_edict (d len : Nat) (μ : zMu) (ν : zNu) (a0 : Int32) : zF zT0 (d + 1) 171 [.ref 1, .int a0] (zm len μ ν) = (fun call => zbi (call 57 [.ref 82, .int (μ 1 11), .int a0] (zm len μ ν)) (fun w' M' => zE zc_X11_edict call 12 [.ref 1, .int a0] [.int w'] M')) (zF zT0 d) :=
  (show _ = zE zc_X11_edict (zF zT0 d) 0 [.ref 1, .int a0] [] (zm len μ ν) from rfl).trans ((zE_runc zg_X11_edict [12] 2000 0 _ _ _).trans rfl)
set_option maxRecDepth 50000 in
theorem B_X11_edict_12 (call : zC) (len : Nat) (μ : zMu) (ν : zNu) (x1 : Int32) (xs0 : Int32) : zE zc_X11_edict call 12 [.ref 1, .int x1] [.int xs0] (zm len μ ν) = (if xs0 = 0 ∨ xs0 = 1 then some (.int xs0, (zm len μ ν)) else none) :=
  (zE_runc zg_X11_edict [12] 2000 12 _ _ _).trans rfl
set_option maxRecDepth 50000 in
theorem B_X11_owed (d len : Nat) (μ : zMu) (ν : zNu) (a0 : Int32) (a1 : Int32) (a2 : Int32) : zF zT0 (d + 1) 172 [.ref 1, .int a0, .int a1, .int a2] (zm len μ ν) = (fun call => zbl (call 58 [.ref 82, .int a0, .int a1, .int a2] (zm len μ ν)) (fun w' M' => zE zc_X11_owed call 10 [.ref 1, .int a0, .int a1, .int a2] [.long w'] M')) (zF zT0 d) :=
  (show _ = zE zc_X11_owed (zF zT0 d) 0 [.ref 1, .int a0, .int a1, .int a2] [] (zm len μ ν) from rfl).trans ((zE_runc zg_X11_owed [10] 2000 0 _ _ _).trans rfl)
set_option maxRecDepth 50000 in
theorem B_X11_owed_10 (call : zC) (len : Nat) (μ : zMu) (ν : zNu) (x1 : Int32) (x2 : Int32) (x3 : Int32) (xs0 : Int64) : zE zc_X11_owed call 10 [.ref 1, .int x1, .int x2, .int x3] [.long xs0] (zm len μ ν) = some (.long xs0, (zm len μ ν)) :=
  (zE_runc zg_X11_owed [10] 2000 10 _ _ _).trans rfl
set_option maxRecDepth 50000 in
theorem B_X11_field (d len : Nat) (μ : zMu) (ν : zNu) (a0 : Int32) (a1 : Int32) (a2 : Int32) (a3 : Int32) (a4 : Int32) (a5 : Int32) : zF zT0 (d + 1) 173 [.ref 1, .int a0, .int a1, .int a2, .int a3, .int a4, .int a5] (zm len μ ν) = (fun call => zbi (call 178 [.int a0] (zm len μ ν)) (fun w' M' => zE zc_X11_field call 4 [.ref 1, .int a0, .int a1, .int a2, .int a3, .int a4, .int a5] [.int w'] M')) (zF zT0 d) :=
  (show _ = zE zc_X11_field (zF zT0 d) 0 [.ref 1, .int a0, .int a1, .int a2, .int a3, .int a4, .int a5] [] (zm len μ ν) from rfl).trans ((zE_runc zg_X11_field [4, 11, 18, 26, 81, 92, 95, 135, 139] 2000 0 _ _ _).trans rfl)
set_option maxRecDepth 50000 in
theorem B_X11_field_4 (call : zC) (len : Nat) (μ : zMu) (ν : zNu) (x1 : Int32) (x2 : Int32) (x3 : Int32) (x4 : Int32) (x5 : Int32) (x6 : Int32) (xs0 : Int32) : zE zc_X11_field call 4 [.ref 1, .int x1, .int x2, .int x3, .int x4, .int x5, .int x6] [.int xs0] (zm len μ ν) = (if xs0 = 0 then some (.int (-1 : Int32), (zm len μ ν)) else zbi (call 178 [.int x2] (zm len μ ν)) (fun w' M' => zE zc_X11_field call 11 [.ref 1, .int x1, .int x2, .int x3, .int x4, .int x5, .int x6] [.int w'] M')) :=
  (zE_runc zg_X11_field [4, 11, 18, 26, 81, 92, 95, 135, 139] 2000 4 _ _ _).trans rfl
set_option maxRecDepth 50000 in
theorem B_X11_field_11 (call : zC) (len : Nat) (μ : zMu) (ν : zNu) (x1 : Int32) (x2 : Int32) (x3 : Int32) (x4 : Int32) (x5 : Int32) (x6 : Int32) (xs0 : Int32) : zE zc_X11_field call 11 [.ref 1, .int x1, .int x2, .int x3, .int x4, .int x5, .int x6] [.int xs0] (zm len μ ν) = (if xs0 = 0 then some (.int (-1 : Int32), (zm len μ ν)) else zbi (call 178 [.int x3] (zm len μ ν)) (fun w' M' => zE zc_X11_field call 18 [.ref 1, .int x1, .int x2, .int x3, .int x4, .int x5, .int x6] [.int w'] M')) :=
  (zE_runc zg_X11_field [4, 11, 18, 26, 81, 92, 95, 135, 139] 2000 11 _ _ _).trans rfl
set_option maxRecDepth 50000 in
theorem B_X11_field_18 (call : zC) (len : Nat) (μ : zMu) (ν : zNu) (x1 : Int32) (x2 : Int32) (x3 : Int32) (x4 : Int32) (x5 : Int32) (x6 : Int32) (xs0 : Int32) : zE zc_X11_field call 18 [.ref 1, .int x1, .int x2, .int x3, .int x4, .int x5, .int x6] [.int xs0] (zm len μ ν) = (if xs0 = 0 then some (.int (-1 : Int32), (zm len μ ν)) else zbi (call 178 [.int x4] (zm len μ ν)) (fun w' M' => zE zc_X11_field call 26 [.ref 1, .int x1, .int x2, .int x3, .int x4, .int x5, .int x6] [.int w'] M')) :=
  (zE_runc zg_X11_field [4, 11, 18, 26, 81, 92, 95, 135, 139] 2000 18 _ _ _).trans rfl
set_option maxRecDepth 50000 in
theorem B_X11_field_26 (call : zC) (len : Nat) (μ : zMu) (ν : zNu) (x1 : Int32) (x2 : Int32) (x3 : Int32) (x4 : Int32) (x5 : Int32) (x6 : Int32) (xs0 : Int32) : zE zc_X11_field call 26 [.ref 1, .int x1, .int x2, .int x3, .int x4, .int x5, .int x6] [.int xs0] (zm len μ ν) = (if xs0 = 0 then some (.int (-1 : Int32), (zm len μ ν)) else (if x6 = (0 : Int32) then some (.int (((x1 + x3) * (x2 + x4)) / (4 : Int32)), (zm len μ ν)) else (if x6 = (1 : Int32) then zbl (call 180 [.long (x1).toInt64, .long (x2).toInt64, .long (x5).toInt64] (zm len μ ν)) (fun w' M' => zE zc_X11_field call 81 [.ref 1, .int x1, .int x2, .int x3, .int x4, .int x5, .int x6] [.long w'] M') else (if x6 = (2 : Int32) then zbl (call 181 [.long ((((x2 + x3) + x4) - x1)).toInt64, .long ((((x1 + x3) + x4) - x2)).toInt64, .long ((((x1 + x2) + x4) - x3)).toInt64, .long ((((x1 + x2) + x3) - x4)).toInt64] (zm len μ ν)) (fun w' M' => zE zc_X11_field call 135 [.ref 1, .int x1, .int x2, .int x3, .int x4, .int x5, .int x6] [.long w'] M') else some (.int (-1 : Int32), (zm len μ ν)))))) :=
  (zE_runc zg_X11_field [4, 11, 18, 26, 81, 92, 95, 135, 139] 2000 26 _ _ _).trans rfl
set_option maxRecDepth 50000 in
theorem B_X11_field_81 (call : zC) (len : Nat) (μ : zMu) (ν : zNu) (x1 : Int32) (x2 : Int32) (x3 : Int32) (x4 : Int32) (x5 : Int32) (x6 : Int32) (xs0 : Int64) : zE zc_X11_field call 81 [.ref 1, .int x1, .int x2, .int x3, .int x4, .int x5, .int x6] [.long xs0] (zm len μ ν) = zbl (call 180 [.long (x3).toInt64, .long (x4).toInt64, .long (x5).toInt64] (zm len μ ν)) (fun w' M' => zE zc_X11_field call 92 [.ref 1, .int x1, .int x2, .int x3, .int x4, .int x5, .int x6] [.long w', .long xs0] M') :=
  (zE_runc zg_X11_field [4, 11, 18, 26, 81, 92, 95, 135, 139] 2000 81 _ _ _).trans rfl
set_option maxRecDepth 50000 in
theorem B_X11_field_92 (call : zC) (len : Nat) (μ : zMu) (ν : zNu) (x1 : Int32) (x2 : Int32) (x3 : Int32) (x4 : Int32) (x5 : Int32) (x6 : Int32) (xs0 : Int64) (xs1 : Int64) : zE zc_X11_field call 92 [.ref 1, .int x1, .int x2, .int x3, .int x4, .int x5, .int x6] [.long xs0, .long xs1] (zm len μ ν) = zbi (call 179 [.long xs1, .long xs0] (zm len μ ν)) (fun w' M' => zE zc_X11_field call 95 [.ref 1, .int x1, .int x2, .int x3, .int x4, .int x5, .int x6] [.int w'] M') :=
  (zE_runc zg_X11_field [4, 11, 18, 26, 81, 92, 95, 135, 139] 2000 92 _ _ _).trans rfl
set_option maxRecDepth 50000 in
theorem B_X11_field_95 (call : zC) (len : Nat) (μ : zMu) (ν : zNu) (x1 : Int32) (x2 : Int32) (x3 : Int32) (x4 : Int32) (x5 : Int32) (x6 : Int32) (xs0 : Int32) : zE zc_X11_field call 95 [.ref 1, .int x1, .int x2, .int x3, .int x4, .int x5, .int x6] [.int xs0] (zm len μ ν) = some (.int xs0, (zm len μ ν)) :=
  (zE_runc zg_X11_field [4, 11, 18, 26, 81, 92, 95, 135, 139] 2000 95 _ _ _).trans rfl
set_option maxRecDepth 50000 in
theorem B_X11_field_135 (call : zC) (len : Nat) (μ : zMu) (ν : zNu) (x1 : Int32) (x2 : Int32) (x3 : Int32) (x4 : Int32) (x5 : Int32) (x6 : Int32) (xs0 : Int64) : zE zc_X11_field call 135 [.ref 1, .int x1, .int x2, .int x3, .int x4, .int x5, .int x6] [.long xs0] (zm len μ ν) = zbi (call 179 [.long xs0, .long (0 : Int64)] (zm len μ ν)) (fun w' M' => zE zc_X11_field call 139 [.ref 1, .int x1, .int x2, .int x3, .int x4, .int x5, .int x6] [.int w'] M') :=
  (zE_runc zg_X11_field [4, 11, 18, 26, 81, 92, 95, 135, 139] 2000 135 _ _ _).trans rfl
set_option maxRecDepth 50000 in
theorem B_X11_field_139 (call : zC) (len : Nat) (μ : zMu) (ν : zNu) (x1 : Int32) (x2 : Int32) (x3 : Int32) (x4 : Int32) (x5 : Int32) (x6 : Int32) (xs0 : Int32) : zE zc_X11_field call 139 [.ref 1, .int x1, .int x2, .int x3, .int x4, .int x5, .int x6] [.int xs0] (zm len μ ν) = some (.int xs0, (zm len μ ν)) :=
  (zE_runc zg_X11_field [4, 11, 18, 26, 81, 92, 95, 135, 139] 2000 139 _ _ _).trans rfl
set_option maxRecDepth 50000 in
theorem B_X11_look (d len : Nat) (μ : zMu) (ν : zNu) (a0 : Int32) : zF zT0 (d + 1) 174 [.ref 1, .int a0] (zm len μ ν) = (fun call => zbi (call 175 [.int a0, .int (10 : Int32), .int (17 : Int32)] (zm len μ ν)) (fun w' M' => zE zc_X11_look call 8 [.ref 1, .int a0] [.int w'] M')) (zF zT0 d) :=
  (show _ = zE zc_X11_look (zF zT0 d) 0 [.ref 1, .int a0] [] (zm len μ ν) from rfl).trans ((zE_runc zg_X11_look [8, 22, 93, 102, 111, 120, 129, 138, 147, 155, 164] 2000 0 _ _ _).trans rfl)
set_option maxRecDepth 50000 in
theorem B_X11_look_8 (call : zC) (len : Nat) (μ : zMu) (ν : zNu) (x1 : Int32) (xs0 : Int32) : zE zc_X11_look call 8 [.ref 1, .int x1] [.int xs0] (zm len μ ν) = (if xs0 = 0 then (if x1 = (0 : Int32) then some (.long ((μ 1 11)).toInt64, (zm len μ ν)) else (if x1 = (1 : Int32) then zbi (call 74 [.ref 67] (zm len μ ν)) (fun w' M' => zE zc_X11_look call 93 [.ref 1, .int x1] [.int w'] M') else (if x1 = (2 : Int32) then zbi (call 99 [.ref 45] (zm len μ ν)) (fun w' M' => zE zc_X11_look call 102 [.ref 1, .int x1] [.int w'] M') else (if x1 = (3 : Int32) then zbi (call 41 [.ref 51] (zm len μ ν)) (fun w' M' => zE zc_X11_look call 111 [.ref 1, .int x1] [.int w'] M') else (if x1 = (4 : Int32) then zbi (call 30 [.ref 74] (zm len μ ν)) (fun w' M' => zE zc_X11_look call 120 [.ref 1, .int x1] [.int w'] M') else (if x1 = (5 : Int32) then zbi (call 53 [.ref 82] (zm len μ ν)) (fun w' M' => zE zc_X11_look call 129 [.ref 1, .int x1] [.int w'] M') else (if x1 = (6 : Int32) then zbi (call 115 [.ref 27] (zm len μ ν)) (fun w' M' => zE zc_X11_look call 138 [.ref 1, .int x1] [.int w'] M') else (if x1 = (7 : Int32) then zbl (call 75 [.ref 67] (zm len μ ν)) (fun w' M' => zE zc_X11_look call 147 [.ref 1, .int x1] [.long w'] M') else (if x1 = (8 : Int32) then zbi (call 84 [.ref 57] (zm len μ ν)) (fun w' M' => zE zc_X11_look call 155 [.ref 1, .int x1] [.int w'] M') else (if x1 = (9 : Int32) then zbi (call 10 [.ref 35] (zm len μ ν)) (fun w' M' => zE zc_X11_look call 164 [.ref 1, .int x1] [.int w'] M') else some (.long (-1 : Int64), (zm len μ ν)))))))))))) else zbi (call 76 [.ref 67, .int (x1 - (10 : Int32))] (zm len μ ν)) (fun w' M' => zE zc_X11_look call 22 [.ref 1, .int x1] [.int w'] M')) :=
  (zE_runc zg_X11_look [8, 22, 93, 102, 111, 120, 129, 138, 147, 155, 164] 2000 8 _ _ _).trans rfl
set_option maxRecDepth 50000 in
theorem B_X11_look_22 (call : zC) (len : Nat) (μ : zMu) (ν : zNu) (x1 : Int32) (xs0 : Int32) : zE zc_X11_look call 22 [.ref 1, .int x1] [.int xs0] (zm len μ ν) = some (.long (xs0).toInt64, (zm len μ ν)) :=
  (zE_runc zg_X11_look [8, 22, 93, 102, 111, 120, 129, 138, 147, 155, 164] 2000 22 _ _ _).trans rfl
set_option maxRecDepth 50000 in
theorem B_X11_look_93 (call : zC) (len : Nat) (μ : zMu) (ν : zNu) (x1 : Int32) (xs0 : Int32) : zE zc_X11_look call 93 [.ref 1, .int x1] [.int xs0] (zm len μ ν) = some (.long (xs0).toInt64, (zm len μ ν)) :=
  (zE_runc zg_X11_look [8, 22, 93, 102, 111, 120, 129, 138, 147, 155, 164] 2000 93 _ _ _).trans rfl
set_option maxRecDepth 50000 in
theorem B_X11_look_102 (call : zC) (len : Nat) (μ : zMu) (ν : zNu) (x1 : Int32) (xs0 : Int32) : zE zc_X11_look call 102 [.ref 1, .int x1] [.int xs0] (zm len μ ν) = some (.long (xs0).toInt64, (zm len μ ν)) :=
  (zE_runc zg_X11_look [8, 22, 93, 102, 111, 120, 129, 138, 147, 155, 164] 2000 102 _ _ _).trans rfl
set_option maxRecDepth 50000 in
theorem B_X11_look_111 (call : zC) (len : Nat) (μ : zMu) (ν : zNu) (x1 : Int32) (xs0 : Int32) : zE zc_X11_look call 111 [.ref 1, .int x1] [.int xs0] (zm len μ ν) = some (.long (xs0).toInt64, (zm len μ ν)) :=
  (zE_runc zg_X11_look [8, 22, 93, 102, 111, 120, 129, 138, 147, 155, 164] 2000 111 _ _ _).trans rfl
set_option maxRecDepth 50000 in
theorem B_X11_look_120 (call : zC) (len : Nat) (μ : zMu) (ν : zNu) (x1 : Int32) (xs0 : Int32) : zE zc_X11_look call 120 [.ref 1, .int x1] [.int xs0] (zm len μ ν) = some (.long (xs0).toInt64, (zm len μ ν)) :=
  (zE_runc zg_X11_look [8, 22, 93, 102, 111, 120, 129, 138, 147, 155, 164] 2000 120 _ _ _).trans rfl
set_option maxRecDepth 50000 in
theorem B_X11_look_129 (call : zC) (len : Nat) (μ : zMu) (ν : zNu) (x1 : Int32) (xs0 : Int32) : zE zc_X11_look call 129 [.ref 1, .int x1] [.int xs0] (zm len μ ν) = some (.long (xs0).toInt64, (zm len μ ν)) :=
  (zE_runc zg_X11_look [8, 22, 93, 102, 111, 120, 129, 138, 147, 155, 164] 2000 129 _ _ _).trans rfl
set_option maxRecDepth 50000 in
theorem B_X11_look_138 (call : zC) (len : Nat) (μ : zMu) (ν : zNu) (x1 : Int32) (xs0 : Int32) : zE zc_X11_look call 138 [.ref 1, .int x1] [.int xs0] (zm len μ ν) = some (.long (xs0).toInt64, (zm len μ ν)) :=
  (zE_runc zg_X11_look [8, 22, 93, 102, 111, 120, 129, 138, 147, 155, 164] 2000 138 _ _ _).trans rfl
set_option maxRecDepth 50000 in
theorem B_X11_look_147 (call : zC) (len : Nat) (μ : zMu) (ν : zNu) (x1 : Int32) (xs0 : Int64) : zE zc_X11_look call 147 [.ref 1, .int x1] [.long xs0] (zm len μ ν) = some (.long xs0, (zm len μ ν)) :=
  (zE_runc zg_X11_look [8, 22, 93, 102, 111, 120, 129, 138, 147, 155, 164] 2000 147 _ _ _).trans rfl
set_option maxRecDepth 50000 in
theorem B_X11_look_155 (call : zC) (len : Nat) (μ : zMu) (ν : zNu) (x1 : Int32) (xs0 : Int32) : zE zc_X11_look call 155 [.ref 1, .int x1] [.int xs0] (zm len μ ν) = some (.long (xs0).toInt64, (zm len μ ν)) :=
  (zE_runc zg_X11_look [8, 22, 93, 102, 111, 120, 129, 138, 147, 155, 164] 2000 155 _ _ _).trans rfl
set_option maxRecDepth 50000 in
theorem B_X11_look_164 (call : zC) (len : Nat) (μ : zMu) (ν : zNu) (x1 : Int32) (xs0 : Int32) : zE zc_X11_look call 164 [.ref 1, .int x1] [.int xs0] (zm len μ ν) = some (.long (xs0).toInt64, (zm len μ ν)) :=
  (zE_runc zg_X11_look [8, 22, 93, 102, 111, 120, 129, 138, 147, 155, 164] 2000 164 _ _ _).trans rfl
set_option maxRecDepth 50000 in
theorem B_X11_within (d len : Nat) (μ : zMu) (ν : zNu) (a0 : Int32) (a1 : Int32) (a2 : Int32) : zF zT0 (d + 1) 175 [.int a0, .int a1, .int a2] (zm len μ ν) = (fun call => (if a0 < a1 then some (.int (0 : Int32), (zm len μ ν)) else (if a2 < a0 then some (.int (0 : Int32), (zm len μ ν)) else some (.int (1 : Int32), (zm len μ ν))))) (zF zT0 d) :=
  (show _ = zE zc_X11_within (zF zT0 d) 0 [.int a0, .int a1, .int a2] [] (zm len μ ν) from rfl).trans ((zE_runc zg_X11_within [] 2000 0 _ _ _).trans rfl)
set_option maxRecDepth 50000 in
theorem B_X11_isGood (d len : Nat) (μ : zMu) (ν : zNu) (a0 : Int32) : zF zT0 (d + 1) 176 [.int a0] (zm len μ ν) = (fun call => zbi (call 175 [.int a0, .int (0 : Int32), .int (7 : Int32)] (zm len μ ν)) (fun w' M' => zE zc_X11_isGood call 7 [.int a0] [.int w'] M')) (zF zT0 d) :=
  (show _ = zE zc_X11_isGood (zF zT0 d) 0 [.int a0] [] (zm len μ ν) from rfl).trans ((zE_runc zg_X11_isGood [7] 2000 0 _ _ _).trans rfl)
set_option maxRecDepth 50000 in
theorem B_X11_isGood_7 (call : zC) (len : Nat) (μ : zMu) (ν : zNu) (x0 : Int32) (xs0 : Int32) : zE zc_X11_isGood call 7 [.int x0] [.int xs0] (zm len μ ν) = (if xs0 = 0 ∨ xs0 = 1 then some (.int xs0, (zm len μ ν)) else none) :=
  (zE_runc zg_X11_isGood [7] 2000 7 _ _ _).trans rfl
set_option maxRecDepth 50000 in
theorem B_X11_isYear (d len : Nat) (μ : zMu) (ν : zNu) (a0 : Int32) : zF zT0 (d + 1) 177 [.int a0] (zm len μ ν) = (fun call => zbi (call 175 [.int a0, .int (0 : Int32), .int (99 : Int32)] (zm len μ ν)) (fun w' M' => zE zc_X11_isYear call 7 [.int a0] [.int w'] M')) (zF zT0 d) :=
  (show _ = zE zc_X11_isYear (zF zT0 d) 0 [.int a0] [] (zm len μ ν) from rfl).trans ((zE_runc zg_X11_isYear [7] 2000 0 _ _ _).trans rfl)
set_option maxRecDepth 50000 in
theorem B_X11_isYear_7 (call : zC) (len : Nat) (μ : zMu) (ν : zNu) (x0 : Int32) (xs0 : Int32) : zE zc_X11_isYear call 7 [.int x0] [.int xs0] (zm len μ ν) = (if xs0 = 0 ∨ xs0 = 1 then some (.int xs0, (zm len μ ν)) else none) :=
  (zE_runc zg_X11_isYear [7] 2000 7 _ _ _).trans rfl
set_option maxRecDepth 50000 in
theorem B_X11_isSide (d len : Nat) (μ : zMu) (ν : zNu) (a0 : Int32) : zF zT0 (d + 1) 178 [.int a0] (zm len μ ν) = (fun call => zbi (call 175 [.int a0, .int (1 : Int32), .int (999 : Int32)] (zm len μ ν)) (fun w' M' => zE zc_X11_isSide call 8 [.int a0] [.int w'] M')) (zF zT0 d) :=
  (show _ = zE zc_X11_isSide (zF zT0 d) 0 [.int a0] [] (zm len μ ν) from rfl).trans ((zE_runc zg_X11_isSide [8] 2000 0 _ _ _).trans rfl)
set_option maxRecDepth 50000 in
theorem B_X11_isSide_8 (call : zC) (len : Nat) (μ : zMu) (ν : zNu) (x0 : Int32) (xs0 : Int32) : zE zc_X11_isSide call 8 [.int x0] [.int xs0] (zm len μ ν) = (if xs0 = 0 ∨ xs0 = 1 then some (.int xs0, (zm len μ ν)) else none) :=
  (zE_runc zg_X11_isSide [8] 2000 8 _ _ _).trans rfl
set_option maxRecDepth 50000 in
theorem B_X11_quarter (d len : Nat) (μ : zMu) (ν : zNu) (a0 : Int64) (a1 : Int64) : zF zT0 (d + 1) 179 [.long a0, .long a1] (zm len μ ν) = (fun call => (if (lg_cmp a0 (0 : Int64)) < 0 then some (.int (-1 : Int32), (zm len μ ν)) else (if 0 ≤ (lg_cmp a1 (0 : Int64)) then some (.int (((a0 + a1) / (4 : Int64))).toInt32, (zm len μ ν)) else some (.int (-1 : Int32), (zm len μ ν))))) (zF zT0 d) :=
  (show _ = zE zc_X11_quarter (zF zT0 d) 0 [.long a0, zU, .long a1, zU] [] (zm len μ ν) from rfl).trans ((zE_runc zg_X11_quarter [] 2000 0 _ _ _).trans rfl)
set_option maxRecDepth 50000 in
theorem B_X11_threeSided (d len : Nat) (μ : zMu) (ν : zNu) (a0 : Int64) (a1 : Int64) (a2 : Int64) : zF zT0 (d + 1) 180 [.long a0, .long a1, .long a2] (zm len μ ν) = (fun call => zbl (call 181 [.long ((a0 + a1) + a2), .long ((a1 + a2) - a0), .long ((a0 + a2) - a1), .long ((a0 + a1) - a2)] (zm len μ ν)) (fun w' M' => zE zc_X11_threeSided call 27 [.long a0, zU, .long a1, zU, .long a2, zU] [.long w'] M')) (zF zT0 d) :=
  (show _ = zE zc_X11_threeSided (zF zT0 d) 0 [.long a0, zU, .long a1, zU, .long a2, zU] [] (zm len μ ν) from rfl).trans ((zE_runc zg_X11_threeSided [27] 2000 0 _ _ _).trans rfl)
set_option maxRecDepth 50000 in
theorem B_X11_threeSided_27 (call : zC) (len : Nat) (μ : zMu) (ν : zNu) (x0 : Int64) (v1 : Value) (x2 : Int64) (v3 : Value) (x4 : Int64) (v5 : Value) (xs0 : Int64) : zE zc_X11_threeSided call 27 [.long x0, v1, .long x2, v3, .long x4, v5] [.long xs0] (zm len μ ν) = some (.long xs0, (zm len μ ν)) :=
  (zE_runc zg_X11_threeSided [27] 2000 27 _ _ _).trans rfl
set_option maxRecDepth 50000 in
theorem B_X11_rootOfProduct (d len : Nat) (μ : zMu) (ν : zNu) (a0 : Int64) (a1 : Int64) (a2 : Int64) (a3 : Int64) : zF zT0 (d + 1) 181 [.long a0, .long a1, .long a2, .long a3] (zm len μ ν) = (fun call => (if (lg_cmp a0 (1 : Int64)) < 0 then zE zc_X11_rootOfProduct call 44 [.long a0, zU, .long a1, zU, .long a2, zU, .long a3, zU] [.long (-1 : Int64)] (zm len μ ν) else (if (lg_cmp a1 (1 : Int64)) < 0 then zE zc_X11_rootOfProduct call 44 [.long a0, zU, .long a1, zU, .long a2, zU, .long a3, zU] [.long (-1 : Int64)] (zm len μ ν) else (if (lg_cmp a2 (1 : Int64)) < 0 then zE zc_X11_rootOfProduct call 44 [.long a0, zU, .long a1, zU, .long a2, zU, .long a3, zU] [.long (-1 : Int64)] (zm len μ ν) else (if 0 ≤ (lg_cmp a3 (1 : Int64)) then zbl (call 182 [.long (((a0 * a1) * a2) * a3)] (zm len μ ν)) (fun w' M' => zE zc_X11_rootOfProduct call 44 [.long a0, zU, .long a1, zU, .long a2, zU, .long a3, zU] [.long w'] M') else zE zc_X11_rootOfProduct call 44 [.long a0, zU, .long a1, zU, .long a2, zU, .long a3, zU] [.long (-1 : Int64)] (zm len μ ν)))))) (zF zT0 d) :=
  (show _ = zE zc_X11_rootOfProduct (zF zT0 d) 0 [.long a0, zU, .long a1, zU, .long a2, zU, .long a3, zU] [] (zm len μ ν) from rfl).trans ((zE_runc zg_X11_rootOfProduct [44] 2000 0 _ _ _).trans rfl)
set_option maxRecDepth 50000 in
theorem B_X11_rootOfProduct_44 (call : zC) (len : Nat) (μ : zMu) (ν : zNu) (x0 : Int64) (v1 : Value) (x2 : Int64) (v3 : Value) (x4 : Int64) (v5 : Value) (x6 : Int64) (v7 : Value) (xs0 : Int64) : zE zc_X11_rootOfProduct call 44 [.long x0, v1, .long x2, v3, .long x4, v5, .long x6, v7] [.long xs0] (zm len μ ν) = some (.long xs0, (zm len μ ν)) :=
  (zE_runc zg_X11_rootOfProduct [44] 2000 44 _ _ _).trans rfl
set_option maxRecDepth 50000 in
theorem B_X11_root (d len : Nat) (μ : zMu) (ν : zNu) (a0 : Int64) : zF zT0 (d + 1) 182 [.long a0] (zm len μ ν) = (fun call => zE zc_X11_root call 7 [.long a0, zU, .long (0 : Int64), zU, .long (1073741824 : Int64), zU, zU, zU] [] (zm len μ ν)) (zF zT0 d) :=
  (show _ = zE zc_X11_root (zF zT0 d) 0 [.long a0, zU, zU, zU, zU, zU, zU, zU] [] (zm len μ ν) from rfl).trans ((zE_runc zg_X11_root [7, 33] 2000 0 _ _ _).trans rfl)
set_option maxRecDepth 50000 in
theorem B_X11_root_7 (call : zC) (len : Nat) (μ : zMu) (ν : zNu) (x0 : Int64) (v1 : Value) (x2 : Int64) (v3 : Value) (x4 : Int64) (v5 : Value) (v6 : Value) (v7 : Value) : zE zc_X11_root call 7 [.long x0, v1, .long x2, v3, .long x4, v5, v6, v7] [] (zm len μ ν) = (if (lg_cmp x4 (0 : Int64)) ≤ 0 then some (.long x2, (zm len μ ν)) else (if 0 < (lg_cmp ((x2 + x4) * (x2 + x4)) x0) then zE zc_X11_root call 33 [.long x0, v1, .long x2, v3, .long x4, (zclr v5), .long (x2 + x4), zU] [] (zm len μ ν) else zE zc_X11_root call 33 [.long x0, (zclr v1), .long (x2 + x4), zU, .long x4, (zclr v5), .long (x2 + x4), zU] [] (zm len μ ν))) :=
  (zE_runc zg_X11_root [7, 33] 2000 7 _ _ _).trans rfl
set_option maxRecDepth 50000 in
theorem B_X11_root_33 (call : zC) (len : Nat) (μ : zMu) (ν : zNu) (x0 : Int64) (v1 : Value) (x2 : Int64) (v3 : Value) (x4 : Int64) (v5 : Value) (x6 : Int64) (v7 : Value) : zE zc_X11_root call 33 [.long x0, v1, .long x2, v3, .long x4, v5, .long x6, v7] [] (zm len μ ν) = zE zc_X11_root call 7 [.long x0, v1, .long x2, (zclr v3), .long (x4 >>> (((1 : Int32)).toInt64 &&& 63)), zU, .long x6, v7] [] (zm len μ ν) :=
  (zE_runc zg_X11_root [7, 33] 2000 33 _ _ _).trans rfl
