/-! ASSEMBLY: the first state -/
def ups (l : List (Nat × Int32)) : Nat → Int32 := l.foldl (fun f p => upd f p.1 p.2) (fun _ => 0)
theorem ups_c {P : Int32 → Prop} : ∀ (l : List (Nat × Int32)) (f : Nat → Int32), (∀ i, P (f i)) → (∀ p, p ∈ l → P p.2) → ∀ i, P (l.foldl (fun f p => upd f p.1 p.2) f i)
  | [], _, h, _, i => h i
  | p :: l, f, h, hl, i => ups_c l (upd f p.1 p.2) (upd_all h (hl p (List.mem_cons_self ..))) (fun q hq => hl q (List.mem_cons_of_mem _ hq)) i
def upb (l : List (Nat × Int32)) (lo hi : Int) : Bool := decide (lo ≤ 0 ∧ 0 ≤ hi) && l.all (fun p => decide (lo ≤ p.2.toInt ∧ p.2.toInt ≤ hi))
theorem ups_in {l : List (Nat × Int32)} {lo hi : Int} (h : upb l lo hi = true) : zin2 (ups l) lo hi := by
  have h := Bool.and_eq_true_iff.mp h
  have h0 := of_decide_eq_true h.1
  have hl := List.all_eq_true.mp h.2
  exact ups_c (P := fun z => lo ≤ z.toInt ∧ z.toInt ≤ hi) l (fun _ => 0) (fun _ => h0) (fun p hp => of_decide_eq_true (hl p hp))
def iL1 : List (Nat × Int32) := [(11, 0)]
set_option maxRecDepth 100000 in
theorem e_i1 (μ : zMu) : zmuI μ 1 = ups iL1 := rfl
def iL3 : List (Nat × Int32) := [(0, 5), (1, 5), (2, 5), (3, 5)]
set_option maxRecDepth 100000 in
theorem e_i3 (μ : zMu) : zmuI μ 3 = ups iL3 := rfl
def iL4 : List (Nat × Int32) := [(0, 10), (1, 6), (2, 10), (3, 6), (6, 10), (7, 6), (8, 10), (9, 6), (12, 10), (13, 6), (14, 10), (15, 6), (18, 10), (19, 6), (20, 10), (21, 6)]
set_option maxRecDepth 100000 in
theorem e_i4 (μ : zMu) : zmuI μ 4 = ups iL4 := rfl
def iL5 : List (Nat × Int32) := []
set_option maxRecDepth 100000 in
theorem e_i5 (μ : zMu) : zmuI μ 5 = ups iL5 := rfl
def iL6 : List (Nat × Int32) := [(1, 0), (5, 0), (6, 0), (7, 0), (8, -1)]
set_option maxRecDepth 100000 in
theorem e_i6 (μ : zMu) : zmuI μ 6 = ups iL6 := rfl
def iL7 : List (Nat × Int32) := []
set_option maxRecDepth 100000 in
theorem e_i7 (μ : zMu) : zmuI μ 7 = ups iL7 := rfl
def iL28 : List (Nat × Int32) := [(0, -1), (1, -1), (2, -1), (3, -1), (4, -1), (5, -1), (6, -1), (7, -1), (8, -1), (9, -1), (10, -1), (11, -1)]
set_option maxRecDepth 100000 in
theorem e_i28 (μ : zMu) : zmuI μ 28 = ups iL28 := rfl
def iL29 : List (Nat × Int32) := []
set_option maxRecDepth 100000 in
theorem e_i29 (μ : zMu) : zmuI μ 29 = ups iL29 := rfl
def iL30 : List (Nat × Int32) := []
set_option maxRecDepth 100000 in
theorem e_i30 (μ : zMu) : zmuI μ 30 = ups iL30 := rfl
def iL31 : List (Nat × Int32) := []
set_option maxRecDepth 100000 in
theorem e_i31 (μ : zMu) : zmuI μ 31 = ups iL31 := rfl
def iL32 : List (Nat × Int32) := []
set_option maxRecDepth 100000 in
theorem e_i32 (μ : zMu) : zmuI μ 32 = ups iL32 := rfl
def iL33 : List (Nat × Int32) := []
set_option maxRecDepth 100000 in
theorem e_i33 (μ : zMu) : zmuI μ 33 = ups iL33 := rfl
def iL34 : List (Nat × Int32) := []
set_option maxRecDepth 100000 in
theorem e_i34 (μ : zMu) : zmuI μ 34 = ups iL34 := rfl
def iL36 : List (Nat × Int32) := [(0, 1), (1, 1), (2, 1), (3, 1), (4, 1)]
set_option maxRecDepth 100000 in
theorem e_i36 (μ : zMu) : zmuI μ 36 = ups iL36 := rfl
def iL37 : List (Nat × Int32) := []
set_option maxRecDepth 100000 in
theorem e_i37 (μ : zMu) : zmuI μ 37 = ups iL37 := rfl
def iL38 : List (Nat × Int32) := []
set_option maxRecDepth 100000 in
theorem e_i38 (μ : zMu) : zmuI μ 38 = ups iL38 := rfl
def iL39 : List (Nat × Int32) := [(0, -1), (1, -1), (2, -1), (3, -1), (4, -1), (5, -1), (6, -1), (7, -1)]
set_option maxRecDepth 100000 in
theorem e_i39 (μ : zMu) : zmuI μ 39 = ups iL39 := rfl
def iL40 : List (Nat × Int32) := [(0, -1), (1, -1), (2, -1), (3, -1), (4, -1), (5, -1), (6, -1), (7, -1)]
set_option maxRecDepth 100000 in
theorem e_i40 (μ : zMu) : zmuI μ 40 = ups iL40 := rfl
def iL41 : List (Nat × Int32) := []
set_option maxRecDepth 100000 in
theorem e_i41 (μ : zMu) : zmuI μ 41 = ups iL41 := rfl
def iL45 : List (Nat × Int32) := [(0, 0)]
set_option maxRecDepth 100000 in
theorem e_i45 (μ : zMu) : zmuI μ 45 = ups iL45 := rfl
def iL46 : List (Nat × Int32) := []
set_option maxRecDepth 100000 in
theorem e_i46 (μ : zMu) : zmuI μ 46 = ups iL46 := rfl
def iL51 : List (Nat × Int32) := [(0, 0)]
set_option maxRecDepth 100000 in
theorem e_i51 (μ : zMu) : zmuI μ 51 = ups iL51 := rfl
def iL52 : List (Nat × Int32) := []
set_option maxRecDepth 100000 in
theorem e_i52 (μ : zMu) : zmuI μ 52 = ups iL52 := rfl
def iL53 : List (Nat × Int32) := []
set_option maxRecDepth 100000 in
theorem e_i53 (μ : zMu) : zmuI μ 53 = ups iL53 := rfl
def iL54 : List (Nat × Int32) := []
set_option maxRecDepth 100000 in
theorem e_i54 (μ : zMu) : zmuI μ 54 = ups iL54 := rfl
def iL57 : List (Nat × Int32) := [(1, 0), (6, 0), (7, 0)]
set_option maxRecDepth 100000 in
theorem e_i57 (μ : zMu) : zmuI μ 57 = ups iL57 := rfl
def iL58 : List (Nat × Int32) := []
set_option maxRecDepth 100000 in
theorem e_i58 (μ : zMu) : zmuI μ 58 = ups iL58 := rfl
def iL59 : List (Nat × Int32) := []
set_option maxRecDepth 100000 in
theorem e_i59 (μ : zMu) : zmuI μ 59 = ups iL59 := rfl
def iL60 : List (Nat × Int32) := []
set_option maxRecDepth 100000 in
theorem e_i60 (μ : zMu) : zmuI μ 60 = ups iL60 := rfl
def iL61 : List (Nat × Int32) := []
set_option maxRecDepth 100000 in
theorem e_i61 (μ : zMu) : zmuI μ 61 = ups iL61 := rfl
def iL67 : List (Nat × Int32) := [(1, 0)]
set_option maxRecDepth 100000 in
theorem e_i67 (μ : zMu) : zmuI μ 67 = ups iL67 := rfl
def iL68 : List (Nat × Int32) := []
set_option maxRecDepth 100000 in
theorem e_i68 (μ : zMu) : zmuI μ 68 = ups iL68 := rfl
def iL69 : List (Nat × Int32) := []
set_option maxRecDepth 100000 in
theorem e_i69 (μ : zMu) : zmuI μ 69 = ups iL69 := rfl
def iL70 : List (Nat × Int32) := []
set_option maxRecDepth 100000 in
theorem e_i70 (μ : zMu) : zmuI μ 70 = ups iL70 := rfl
def iL71 : List (Nat × Int32) := []
set_option maxRecDepth 100000 in
theorem e_i71 (μ : zMu) : zmuI μ 71 = ups iL71 := rfl
def iL72 : List (Nat × Int32) := []
set_option maxRecDepth 100000 in
theorem e_i72 (μ : zMu) : zmuI μ 72 = ups iL72 := rfl
def iL74 : List (Nat × Int32) := [(0, 66), (1, 15), (2, 0), (5, 0)]
set_option maxRecDepth 100000 in
theorem e_i74 (μ : zMu) : zmuI μ 74 = ups iL74 := rfl
def iL75 : List (Nat × Int32) := []
set_option maxRecDepth 100000 in
theorem e_i75 (μ : zMu) : zmuI μ 75 = ups iL75 := rfl
def iL76 : List (Nat × Int32) := []
set_option maxRecDepth 100000 in
theorem e_i76 (μ : zMu) : zmuI μ 76 = ups iL76 := rfl
def iL77 : List (Nat × Int32) := []
set_option maxRecDepth 100000 in
theorem e_i77 (μ : zMu) : zmuI μ 77 = ups iL77 := rfl
def iL78 : List (Nat × Int32) := []
set_option maxRecDepth 100000 in
theorem e_i78 (μ : zMu) : zmuI μ 78 = ups iL78 := rfl
def iL79 : List (Nat × Int32) := []
set_option maxRecDepth 100000 in
theorem e_i79 (μ : zMu) : zmuI μ 79 = ups iL79 := rfl
def iL80 : List (Nat × Int32) := []
set_option maxRecDepth 100000 in
theorem e_i80 (μ : zMu) : zmuI μ 80 = ups iL80 := rfl
def iL82 : List (Nat × Int32) := [(2, 0), (6, 0)]
set_option maxRecDepth 100000 in
theorem e_i82 (μ : zMu) : zmuI μ 82 = ups iL82 := rfl
def iL83 : List (Nat × Int32) := [(0, 33), (1, 33), (2, 33), (3, 33), (4, 33), (5, 33), (6, 33), (7, 33)]
set_option maxRecDepth 100000 in
theorem e_i83 (μ : zMu) : zmuI μ 83 = ups iL83 := rfl
def iL84 : List (Nat × Int32) := []
set_option maxRecDepth 100000 in
theorem e_i84 (μ : zMu) : zmuI μ 84 = ups iL84 := rfl
def iL85 : List (Nat × Int32) := []
set_option maxRecDepth 100000 in
theorem e_i85 (μ : zMu) : zmuI μ 85 = ups iL85 := rfl
def iL86 : List (Nat × Int32) := []
set_option maxRecDepth 100000 in
theorem e_i86 (μ : zMu) : zmuI μ 86 = ups iL86 := rfl
def iL87 : List (Nat × Int32) := []
set_option maxRecDepth 100000 in
theorem e_i87 (μ : zMu) : zmuI μ 87 = ups iL87 := rfl
def iL88 : List (Nat × Int32) := []
set_option maxRecDepth 100000 in
theorem e_i88 (μ : zMu) : zmuI μ 88 = ups iL88 := rfl
def iL89 : List (Nat × Int32) := []
set_option maxRecDepth 100000 in
theorem e_i89 (μ : zMu) : zmuI μ 89 = ups iL89 := rfl
def iL90 : List (Nat × Int32) := []
set_option maxRecDepth 100000 in
theorem e_i90 (μ : zMu) : zmuI μ 90 = ups iL90 := rfl
def iL91 : List (Nat × Int32) := []
set_option maxRecDepth 100000 in
theorem e_i91 (μ : zMu) : zmuI μ 91 = ups iL91 := rfl
def iL92 : List (Nat × Int32) := [(15, -1), (45, -1), (46, -1), (83, 66), (84, 15)]
set_option maxRecDepth 100000 in
theorem e_i92 (μ : zMu) : zmuI μ 92 = ups iL92 := rfl
def iL93 : List (Nat × Int32) := [(0, 5), (1, 5), (2, 5), (3, 5)]
set_option maxRecDepth 100000 in
theorem e_i93 (μ : zMu) : zmuI μ 93 = ups iL93 := rfl
def iL94 : List (Nat × Int32) := [(0, 10), (1, 6), (2, 10), (3, 6), (4, 0), (5, 10), (6, 6), (7, 10), (8, 6), (9, 0), (10, 10), (11, 6), (12, 10), (13, 6), (14, 0), (15, 10), (16, 6), (17, 10), (18, 6), (19, 0)]
set_option maxRecDepth 100000 in
theorem e_i94 (μ : zMu) : zmuI μ 94 = ups iL94 := rfl
def iL95 : List (Nat × Int32) := []
set_option maxRecDepth 100000 in
theorem e_i95 (μ : zMu) : zmuI μ 95 = ups iL95 := rfl
def iL96 : List (Nat × Int32) := []
set_option maxRecDepth 100000 in
theorem e_i96 (μ : zMu) : zmuI μ 96 = ups iL96 := rfl
def iL97 : List (Nat × Int32) := [(0, 32), (1, 105), (2, 110), (3, 32), (4, 111), (5, 117), (6, 116), (7, 32), (8, 115), (9, 117), (10, 109), (11, 32), (12, 103), (13, 111), (14, 111), (15, 100), (16, 32), (17, 108), (18, 111), (19, 115), (20, 116), (21, 32), (22, 97), (23, 32), (24, 98), (25, 32), (26, 99), (27, 32), (28, 100), (29, 32), (30, 101), (31, 32), (32, 102), (33, 32), (34, 103), (35, 105), (36, 118), (37, 101), (38, 32), (39, 119), (40, 104), (41, 101), (42, 110), (43, 32), (44, 111), (45, 114), (46, 32), (47, 97), (48, 110), (49, 100), (50, 32), (51, 110), (52, 111), (53, 116), (54, 32), (55, 115), (56, 111), (57, 114), (58, 116), (59, 32), (60, 97), (61, 103), (62, 101), (63, 32), (64, 100), (65, 97), (66, 121), (67, 115), (68, 32), (69, 107), (70, 105), (71, 100), (72, 115), (73, 32), (74, 109), (75, 111), (76, 110), (77, 116), (78, 104), (79, 32)]
set_option maxRecDepth 100000 in
theorem e_i97 (μ : zMu) : zmuI μ 97 = ups iL97 := rfl
def iL98 : List (Nat × Int32) := []
set_option maxRecDepth 100000 in
theorem e_i98 (μ : zMu) : zmuI μ 98 = ups iL98 := rfl
def iL99 : List (Nat × Int32) := [(0, -1), (1, -1), (2, -1), (3, -1), (4, -1), (5, -1), (6, -1), (7, -1), (8, -1), (9, -1), (10, -1), (11, -1), (12, -1)]
set_option maxRecDepth 100000 in
theorem e_i99 (μ : zMu) : zmuI μ 99 = ups iL99 := rfl
def iL100 : List (Nat × Int32) := []
set_option maxRecDepth 100000 in
theorem e_i100 (μ : zMu) : zmuI μ 100 = ups iL100 := rfl
def iL101 : List (Nat × Int32) := []
set_option maxRecDepth 100000 in
theorem e_i101 (μ : zMu) : zmuI μ 101 = ups iL101 := rfl
def iL109 : List (Nat × Int32) := []
set_option maxRecDepth 100000 in
theorem e_i109 (μ : zMu) : zmuI μ 109 = ups iL109 := rfl
def iL117 : List (Nat × Int32) := [(0, 1), (1, 1), (2, 1), (3, 1), (4, 1)]
set_option maxRecDepth 100000 in
theorem e_i117 (μ : zMu) : zmuI μ 117 = ups iL117 := rfl
def iL118 : List (Nat × Int32) := [(0, -1), (1, -1), (2, -1), (3, -1), (4, -1), (5, -1), (6, -1), (7, -1)]
set_option maxRecDepth 100000 in
theorem e_i118 (μ : zMu) : zmuI μ 118 = ups iL118 := rfl
def iL119 : List (Nat × Int32) := [(0, -1), (1, -1), (2, -1), (3, -1), (4, -1), (5, -1), (6, -1), (7, -1)]
set_option maxRecDepth 100000 in
theorem e_i119 (μ : zMu) : zmuI μ 119 = ups iL119 := rfl
def iL120 : List (Nat × Int32) := []
set_option maxRecDepth 100000 in
theorem e_i120 (μ : zMu) : zmuI μ 120 = ups iL120 := rfl
def iL121 : List (Nat × Int32) := []
set_option maxRecDepth 100000 in
theorem e_i121 (μ : zMu) : zmuI μ 121 = ups iL121 := rfl
def iL122 : List (Nat × Int32) := []
set_option maxRecDepth 100000 in
theorem e_i122 (μ : zMu) : zmuI μ 122 = ups iL122 := rfl
def iL123 : List (Nat × Int32) := []
set_option maxRecDepth 100000 in
theorem e_i123 (μ : zMu) : zmuI μ 123 = ups iL123 := rfl
def iL124 : List (Nat × Int32) := []
set_option maxRecDepth 100000 in
theorem e_i124 (μ : zMu) : zmuI μ 124 = ups iL124 := rfl
def iL126 : List (Nat × Int32) := []
set_option maxRecDepth 100000 in
theorem e_i126 (μ : zMu) : zmuI μ 126 = ups iL126 := rfl
def iL129 : List (Nat × Int32) := []
set_option maxRecDepth 100000 in
theorem e_i129 (μ : zMu) : zmuI μ 129 = ups iL129 := rfl
def iL130 : List (Nat × Int32) := []
set_option maxRecDepth 100000 in
theorem e_i130 (μ : zMu) : zmuI μ 130 = ups iL130 := rfl
def iL131 : List (Nat × Int32) := []
set_option maxRecDepth 100000 in
theorem e_i131 (μ : zMu) : zmuI μ 131 = ups iL131 := rfl
def iL134 : List (Nat × Int32) := []
set_option maxRecDepth 100000 in
theorem e_i134 (μ : zMu) : zmuI μ 134 = ups iL134 := rfl
def iL135 : List (Nat × Int32) := []
set_option maxRecDepth 100000 in
theorem e_i135 (μ : zMu) : zmuI μ 135 = ups iL135 := rfl
def iL136 : List (Nat × Int32) := []
set_option maxRecDepth 100000 in
theorem e_i136 (μ : zMu) : zmuI μ 136 = ups iL136 := rfl
def iL137 : List (Nat × Int32) := []
set_option maxRecDepth 100000 in
theorem e_i137 (μ : zMu) : zmuI μ 137 = ups iL137 := rfl
def iL138 : List (Nat × Int32) := []
set_option maxRecDepth 100000 in
theorem e_i138 (μ : zMu) : zmuI μ 138 = ups iL138 := rfl
def iL139 : List (Nat × Int32) := []
set_option maxRecDepth 100000 in
theorem e_i139 (μ : zMu) : zmuI μ 139 = ups iL139 := rfl
def iL140 : List (Nat × Int32) := []
set_option maxRecDepth 100000 in
theorem e_i140 (μ : zMu) : zmuI μ 140 = ups iL140 := rfl
def iL141 : List (Nat × Int32) := []
set_option maxRecDepth 100000 in
theorem e_i141 (μ : zMu) : zmuI μ 141 = ups iL141 := rfl
def iL142 : List (Nat × Int32) := []
set_option maxRecDepth 100000 in
theorem e_i142 (μ : zMu) : zmuI μ 142 = ups iL142 := rfl
def iL143 : List (Nat × Int32) := []
set_option maxRecDepth 100000 in
theorem e_i143 (μ : zMu) : zmuI μ 143 = ups iL143 := rfl
def iL144 : List (Nat × Int32) := []
set_option maxRecDepth 100000 in
theorem e_i144 (μ : zMu) : zmuI μ 144 = ups iL144 := rfl
def iL148 : List (Nat × Int32) := []
set_option maxRecDepth 100000 in
theorem e_i148 (μ : zMu) : zmuI μ 148 = ups iL148 := rfl
def iL149 : List (Nat × Int32) := []
set_option maxRecDepth 100000 in
theorem e_i149 (μ : zMu) : zmuI μ 149 = ups iL149 := rfl
def iL150 : List (Nat × Int32) := []
set_option maxRecDepth 100000 in
theorem e_i150 (μ : zMu) : zmuI μ 150 = ups iL150 := rfl
def iL151 : List (Nat × Int32) := []
set_option maxRecDepth 100000 in
theorem e_i151 (μ : zMu) : zmuI μ 151 = ups iL151 := rfl
def iL152 : List (Nat × Int32) := []
set_option maxRecDepth 100000 in
theorem e_i152 (μ : zMu) : zmuI μ 152 = ups iL152 := rfl
def iL153 : List (Nat × Int32) := []
set_option maxRecDepth 100000 in
theorem e_i153 (μ : zMu) : zmuI μ 153 = ups iL153 := rfl
def iL154 : List (Nat × Int32) := []
set_option maxRecDepth 100000 in
theorem e_i154 (μ : zMu) : zmuI μ 154 = ups iL154 := rfl
def iL157 : List (Nat × Int32) := [(0, 33), (1, 33), (2, 33), (3, 33), (4, 33), (5, 33), (6, 33), (7, 33)]
set_option maxRecDepth 100000 in
theorem e_i157 (μ : zMu) : zmuI μ 157 = ups iL157 := rfl
def iL158 : List (Nat × Int32) := []
set_option maxRecDepth 100000 in
theorem e_i158 (μ : zMu) : zmuI μ 158 = ups iL158 := rfl
def iL159 : List (Nat × Int32) := []
set_option maxRecDepth 100000 in
theorem e_i159 (μ : zMu) : zmuI μ 159 = ups iL159 := rfl
def iL160 : List (Nat × Int32) := []
set_option maxRecDepth 100000 in
theorem e_i160 (μ : zMu) : zmuI μ 160 = ups iL160 := rfl
def iL161 : List (Nat × Int32) := []
set_option maxRecDepth 100000 in
theorem e_i161 (μ : zMu) : zmuI μ 161 = ups iL161 := rfl
def iL162 : List (Nat × Int32) := []
set_option maxRecDepth 100000 in
theorem e_i162 (μ : zMu) : zmuI μ 162 = ups iL162 := rfl
def iL163 : List (Nat × Int32) := []
set_option maxRecDepth 100000 in
theorem e_i163 (μ : zMu) : zmuI μ 163 = ups iL163 := rfl
def iL164 : List (Nat × Int32) := []
set_option maxRecDepth 100000 in
theorem e_i164 (μ : zMu) : zmuI μ 164 = ups iL164 := rfl
def iL165 : List (Nat × Int32) := []
set_option maxRecDepth 100000 in
theorem e_i165 (μ : zMu) : zmuI μ 165 = ups iL165 := rfl
theorem i_num (μ : zMu) (ν : zNu) : RnumM (zmuI μ) := by
  show Rnum (zmuI μ 3) (zmuI μ 93) (zmuI μ 4) (zmuI μ 94) (zmuI μ 5) (zmuI μ 95)
  rw [e_i3, e_i93, e_i4, e_i94, e_i5, e_i95]
  refine ⟨rfl, rfl, ups_in (by decide +kernel), by decide +kernel, fun s i hs hi => ?_, by decide +kernel⟩
  have h4 : ∀ s, s < 4 → (ups iL3 s).toInt = 5 := by decide +kernel
  have q : ∀ s, s < 4 → ∀ i, i < 4 → ups iL4 (6 * s + i) = ups iL94 (5 * s + i) ∧ 2 ≤ (ups iL4 (6 * s + i)).toInt ∧ (ups iL4 (6 * s + i)).toInt ≤ 60 := by decide +kernel
  have := h4 s hs
  exact q s hs i (by omega)
theorem i_now (μ : zMu) (ν : zNu) : RnowM (zmuI μ) := by
  show Rnow (zmuI μ 1 11) (zmuI μ 92 1)
  rw [e_i1, e_i92]
  refine ⟨by decide +kernel, by decide +kernel, by decide +kernel⟩
theorem i_txt (μ : zMu) (ν : zNu) : RtxtM (zmuI μ) := by
  show Rtxt (zmuI μ 6 1) (zmuI μ 92 6) (zmuI μ 7) (zmuI μ 96)
  rw [e_i6, e_i7, e_i96, e_i92]
  refine ⟨rfl, by decide +kernel, by decide +kernel, rfl, ups_in (by decide +kernel)⟩
theorem i_wrd (μ : zMu) (ν : zNu) : RwrdM (zmuI μ) := by
  show ∀ i : Nat, i < 80 → zmuI μ 97 i = zi (mch i)
  rw [e_i97]
  refine by decide +kernel
theorem i_flt (μ : zMu) (ν : zNu) : RfltM (zmuI μ) := by
  show zmuI μ 6 7 = zmuI μ 92 14 ∧ zmuI μ 6 8 = zmuI μ 92 15
  rw [e_i6, e_i92]
  refine by decide +kernel
theorem i_tab (μ : zMu) (ν : zNu) : RtabM (zmuI μ) (znuI ν) := by
  show Rtab (zmuI μ 28) (zmuI μ 99) (zmuI μ 29) (zmuI μ 98) (zmuI μ 30) (zmuI μ 100) (zmuI μ 31) (zmuI μ 101) (zmuI μ 34) (zmuI μ 109) (zmuI μ 32) (zmuI μ 33) (znuI ν 107) (znuI ν 108)
  rw [e_i28, e_i99, e_i29, e_i98, e_i30, e_i100, e_i31, e_i101, e_i34, e_i109, e_i32, e_i33]
  refine fun k hk => ?_
  have q : ∀ k, k < 12 → (ups iL28 k = ups iL99 k ∧ -1 ≤ (ups iL28 k).toInt ∧ (ups iL28 k).toInt ≤ 99) ∧ (ups iL29 k = ups iL98 k ∧ 0 ≤ (ups iL29 k).toInt ∧ (ups iL29 k).toInt ≤ 24) ∧ ((ups iL28 k).toInt = -1 → (ups iL29 k).toInt = 0) ∧ (ups iL29 k).toInt = 0 := by decide +kernel
  obtain ⟨a, b, c, e⟩ := q k hk
  exact ⟨a, b, c, fun i hi => by omega⟩
theorem i_bal (μ : zMu) (ν : zNu) : RballM 0 (zmuI μ) := by
  show Rball 0 (zmuI μ 36) (zmuI μ 37) (zmuI μ 38) (zmuI μ 39) (zmuI μ 40) (zmuI μ 41) (zmuI μ 117) (zmuI μ 122) (zmuI μ 121) (zmuI μ 118) (zmuI μ 119) (zmuI μ 120) (zmuI μ 92 44) (zmuI μ 92 45) (zmuI μ 92 46) (zmuI μ 92 47) (zmuI μ 92 48) (zmuI μ 123) (zmuI μ 124)
  rw [e_i36, e_i37, e_i38, e_i39, e_i40, e_i41, e_i117, e_i122, e_i121, e_i118, e_i119, e_i120, e_i123, e_i124, e_i92]
  refine ⟨⟨rfl, rfl, rfl, rfl, rfl, rfl⟩, by decide +kernel, ups_in (by decide +kernel), ups_in (by decide +kernel), ups_in (by decide +kernel), ups_in (by decide +kernel), ups_in (by decide +kernel), 0, -1, -1, by decide +kernel, by decide +kernel, by decide +kernel, by decide +kernel, by decide +kernel, by decide +kernel, fun h => absurd rfl h⟩
theorem i_sea (μ : zMu) (ν : zNu) : RsealM (zmuI μ) := by
  show Rseal (zmuI μ 45 0) (zmuI μ 92 52) (zmuI μ 46) (zmuI μ 126)
  rw [e_i45, e_i46, e_i126, e_i92]
  refine ⟨by decide +kernel, by decide +kernel, by decide +kernel, rfl, fun i => ⟨0, by decide +kernel, rfl, fun j h => absurd h (by rw [Nat.zero_testBit]; decide), fun h => absurd rfl h⟩⟩
theorem i_fra (μ : zMu) (ν : zNu) : RfragM (zmuI μ) := by
  show Rfrag (zmuI μ 51 0) (zmuI μ 92 56) (zmuI μ 52) (zmuI μ 129) (zmuI μ 53) (zmuI μ 130) (zmuI μ 54) (zmuI μ 131)
  rw [e_i51, e_i52, e_i129, e_i53, e_i130, e_i54, e_i131, e_i92]
  refine ⟨by decide +kernel, by decide +kernel, by decide +kernel, rfl, rfl, rfl, ups_in (by decide +kernel), ups_in (by decide +kernel), ups_in (by decide +kernel)⟩
theorem i_rul (μ : zMu) (ν : zNu) : RrulM (zmuI μ) := by
  show Rrul (zmuI μ 57 1) (zmuI μ 92 67) (zmuI μ 58) (zmuI μ 59) (zmuI μ 60) (zmuI μ 61) (zmuI μ 138) (zmuI μ 139) (zmuI μ 140) (zmuI μ 141) (zmuI μ 142) (zmuI μ 143) (zmuI μ 144)
  rw [e_i57, e_i58, e_i59, e_i60, e_i61, e_i138, e_i139, e_i140, e_i141, e_i142, e_i143, e_i144, e_i92]
  refine ⟨0, 0, fun _ => 0, fun _ => 0, by decide +kernel, by decide +kernel, by decide +kernel, by decide +kernel, by decide +kernel, fun l hl => absurd hl (Nat.not_lt_zero l)⟩
theorem i_ppl (μ : zMu) (ν : zNu) : RpplM (zmuI μ) := by
  show Rppl (zmuI μ 67 1) (zmuI μ 92 62) (zmuI μ 68) (zmuI μ 134) (zmuI μ 69) (zmuI μ 135) (zmuI μ 70) (zmuI μ 137) (zmuI μ 72) (zmuI μ 148) (zmuI μ 71) (zmuI μ 136)
  rw [e_i67, e_i68, e_i134, e_i69, e_i135, e_i70, e_i137, e_i72, e_i148, e_i71, e_i136, e_i92]
  refine ⟨by decide +kernel, by decide +kernel, ⟨rfl, rfl, rfl, rfl⟩, ups_in (by decide +kernel), ups_in (by decide +kernel), ups_in (by decide +kernel), ups_in (by decide +kernel), fun i _ => rfl⟩
theorem i_flk (μ : zMu) (ν : zNu) : RflockM (zmuI μ) := by
  show Rflock (zmuI μ 74 0) (zmuI μ 74 1) (zmuI μ 74 2) (zmuI μ 74 5) (zmuI μ 92 83) (zmuI μ 92 84) (zmuI μ 92 85) (zmuI μ 92 88) (zmuI μ 75) (zmuI μ 149) (zmuI μ 76) (zmuI μ 150) (zmuI μ 77) (zmuI μ 151) (zmuI μ 78) (zmuI μ 152) (zmuI μ 79) (zmuI μ 153) (zmuI μ 80) (zmuI μ 154)
  rw [e_i74, e_i75, e_i149, e_i76, e_i150, e_i77, e_i151, e_i78, e_i152, e_i79, e_i153, e_i80, e_i154, e_i92]
  refine ⟨by decide +kernel, by decide +kernel, by decide +kernel, by decide +kernel, by decide +kernel, by decide +kernel, by decide +kernel, by decide +kernel, ⟨rfl, rfl, rfl, rfl, rfl, rfl⟩, ups_in (by decide +kernel), ups_in (by decide +kernel), ups_in (by decide +kernel), ups_in (by decide +kernel), ups_in (by decide +kernel), ups_in (by decide +kernel)⟩
theorem i_loa (μ : zMu) (ν : zNu) : RloanM (zmuI μ) := by
  show Rloan (zmuI μ 82 2) (zmuI μ 82 6) (zmuI μ 92 96) (zmuI μ 92 100) (zmuI μ 83) (zmuI μ 157) (zmuI μ 84) (zmuI μ 165) (zmuI μ 85) (zmuI μ 159) (zmuI μ 86) (zmuI μ 160) (zmuI μ 87) (zmuI μ 158) (zmuI μ 88) (zmuI μ 161) (zmuI μ 89) (zmuI μ 162) (zmuI μ 90) (zmuI μ 163) (zmuI μ 91) (zmuI μ 164)
  rw [e_i82, e_i83, e_i157, e_i84, e_i165, e_i85, e_i159, e_i86, e_i160, e_i87, e_i158, e_i88, e_i161, e_i89, e_i162, e_i90, e_i163, e_i91, e_i164, e_i92]
  refine ⟨by decide +kernel, by decide +kernel, by decide +kernel, by decide +kernel, ⟨rfl, rfl, rfl, rfl, rfl, rfl, rfl, rfl, rfl⟩, ups_in (by decide +kernel), ups_in (by decide +kernel), ups_in (by decide +kernel), ups_in (by decide +kernel), ups_in (by decide +kernel), ups_in (by decide +kernel), ups_in (by decide +kernel), ups_in (by decide +kernel), ups_in (by decide +kernel)⟩
theorem rel0 (μ : zMu) (ν : zNu) : Rel 0 (zmuI μ) (znuI ν) := ⟨i_num μ ν, i_now μ ν, i_txt μ ν, i_wrd μ ν, i_flt μ ν, i_tab μ ν, i_bal μ ν, i_sea μ ν, i_fra μ ν, i_rul μ ν, i_ppl μ ν, rfl, i_flk μ ν, i_loa μ ν⟩
