/-! The shape of the heap: 68 places, what stands at each, how long; the tables of links and constants, by their places in lw_tbl. Printed by wip/whole/gen_shape.py. -/
def AW : List Jvm.Cond := lw_tbl.filter goodWord
def isNest (w : Jvm.Cond) : Bool := match w with
  | .fieldLinkNest _ _ _ _ _ _ => true
  | .methodLinkNest _ _ _ _ => true
  | _ => false
def NW : List Jvm.Cond := lw_tbl.filter isNest
def RN (k : Nat) : String := match k with
  | 0 => RX0
  | 1 => RX1
  | 2 => RX2
  | 3 => RX3
  | 4 => RX4
  | 5 => RX5
  | 6 => RX6
  | _ => RL
def TN (k : Nat) : u_T := match k with
  | 0 => TX0
  | 1 => TX1
  | 2 => TX2
  | 3 => TX3
  | 4 => TX4
  | 5 => TX5
  | _ => TX6
def tyN (k : Nat) : Nat → FieldType := match k with
  | 0 => tyX0
  | 1 => tyX1
  | 2 => tyX2
  | 3 => tyX3
  | 4 => tyX4
  | 5 => tyX5
  | _ => tyX6
def NN (k : Nat) : Nat := match k with
  | 0 => 6
  | 1 => 16
  | 2 => 2
  | 3 => 8
  | 4 => 4
  | 5 => 6
  | _ => 47
def cl7 : List vw_C := [(RX0, TX0, 6), (RX1, TX1, 16), (RX2, TX2, 2), (RX3, TX3, 8), (RX4, TX4, 4), (RX5, TX5, 6), (RX6, TX6, 47)]
/-- what stands at a place: 0..6 an object of that class; 10 ints, 11 booleans, 12 longs, 13 the row of shelves -/
def kd (k : Nat) : Nat := match k with
  | 0 => 5
  | 1 => 0
  | 2 => 0
  | 3 => 1
  | 4 => 2
  | 5 => 13
  | 6 => 4
  | 7 => 10
  | 8 => 4
  | 9 => 10
  | 10 => 4
  | 11 => 10
  | 12 => 4
  | 13 => 10
  | 14 => 4
  | 15 => 10
  | 16 => 4
  | 17 => 10
  | 18 => 4
  | 19 => 10
  | 20 => 3
  | 21 => 10
  | 22 => 3
  | 23 => 10
  | 24 => 3
  | 25 => 10
  | 26 => 3
  | 27 => 10
  | 28 => 3
  | 29 => 10
  | 30 => 3
  | 31 => 10
  | 32 => 3
  | 33 => 10
  | 34 => 3
  | 35 => 10
  | 36 => 6
  | 37 => 10
  | 38 => 10
  | 39 => 10
  | 40 => 10
  | 41 => 10
  | 42 => 10
  | 43 => 10
  | 44 => 10
  | 45 => 10
  | 46 => 10
  | 47 => 10
  | 48 => 10
  | 49 => 10
  | 50 => 10
  | 51 => 10
  | 52 => 10
  | 53 => 11
  | 54 => 10
  | 55 => 10
  | 56 => 10
  | 57 => 10
  | 58 => 10
  | 59 => 10
  | 60 => 10
  | 61 => 10
  | 62 => 10
  | 63 => 10
  | 64 => 10
  | 65 => 12
  | 66 => 12
  | 67 => 12
  | _ => 99
def alen (k : Nat) : Nat := match k with
  | 5 => 8
  | 7 => 24
  | 9 => 40
  | 11 => 600
  | 13 => 24
  | 15 => 40
  | 17 => 600
  | 19 => 204
  | 21 => 100
  | 23 => 100
  | 25 => 100
  | 27 => 100
  | 29 => 100
  | 31 => 100
  | 33 => 100
  | 35 => 100
  | 37 => 8
  | 38 => 8
  | 39 => 8
  | 40 => 8
  | 41 => 8
  | 42 => 8
  | 43 => 8
  | 44 => 8
  | 45 => 8
  | 46 => 8
  | 47 => 64
  | 48 => 100
  | 49 => 100
  | 50 => 100
  | 51 => 100
  | 52 => 100
  | 53 => 100
  | 54 => 50
  | 55 => 50
  | 56 => 200
  | 57 => 780
  | 58 => 8
  | 59 => 8
  | 60 => 8
  | 61 => 8
  | 62 => 8
  | 63 => 8
  | 64 => 8
  | 65 => 800
  | 66 => 100
  | 67 => 1
  | _ => 0
def rfN (ci j : Nat) : Bool := match ci, j with
  | 0, 3 => true
  | 0, 4 => true
  | 0, 5 => true
  | 2, 0 => true
  | 3, 7 => true
  | 4, 2 => true
  | 5, 0 => true
  | 5, 1 => true
  | 5, 3 => true
  | 5, 4 => true
  | 5, 5 => true
  | 6, 4 => true
  | 6, 5 => true
  | 6, 6 => true
  | 6, 8 => true
  | 6, 9 => true
  | 6, 10 => true
  | 6, 11 => true
  | 6, 12 => true
  | 6, 13 => true
  | 6, 14 => true
  | 6, 15 => true
  | 6, 17 => true
  | 6, 18 => true
  | 6, 19 => true
  | 6, 20 => true
  | 6, 21 => true
  | 6, 22 => true
  | 6, 29 => true
  | 6, 30 => true
  | 6, 31 => true
  | 6, 35 => true
  | 6, 38 => true
  | 6, 39 => true
  | 6, 40 => true
  | 6, 41 => true
  | 6, 42 => true
  | 6, 43 => true
  | 6, 44 => true
  | 6, 45 => true
  | 6, 46 => true
  | _, _ => false
def rfv (ci k j : Nat) : Nat := match ci, j with
  | 0, 3 => 6 * k
  | 0, 4 => 6 * k + 2
  | 0, 5 => 6 * k + 4
  | 2, 0 => 18
  | 3, 7 => k + 1
  | 4, 2 => k + 1
  | 5, 0 => 1
  | 5, 1 => 2
  | 5, 3 => 3
  | 5, 4 => 4
  | 5, 5 => 5
  | 6, 4 => 37
  | 6, 5 => 38
  | 6, 6 => 39
  | 6, 8 => 40
  | 6, 9 => 41
  | 6, 10 => 42
  | 6, 11 => 43
  | 6, 12 => 44
  | 6, 13 => 45
  | 6, 14 => 46
  | 6, 15 => 47
  | 6, 17 => 48
  | 6, 18 => 49
  | 6, 19 => 50
  | 6, 20 => 51
  | 6, 21 => 52
  | 6, 22 => 53
  | 6, 29 => 54
  | 6, 30 => 55
  | 6, 31 => 56
  | 6, 35 => 57
  | 6, 38 => 58
  | 6, 39 => 59
  | 6, 40 => 60
  | 6, 41 => 61
  | 6, 42 => 62
  | 6, 43 => 63
  | 6, 44 => 64
  | 6, 45 => 65
  | 6, 46 => 66
  | _, _ => 0
def fTab : List (Nat × Nat × Nat × Nat × Nat × Bool) := [(4, 13, 4, 0, 120, false), (4, 16, 4, 1, 121, false), (4, 25, 4, 2, 122, false), (4, 7, 4, 3, 123, false), (2, 20, 4, 3, 124, true), (5, 71, 4, 3, 125, true), (0, 9, 0, 0, 136, false), (5, 107, 0, 0, 137, true), (0, 15, 0, 1, 138, false), (5, 110, 0, 1, 139, true), (0, 18, 0, 2, 140, false), (5, 101, 0, 2, 141, true), (0, 26, 0, 3, 142, false), (5, 80, 0, 3, 143, true), (0, 30, 0, 4, 144, false), (5, 91, 0, 4, 145, true), (0, 33, 0, 5, 146, false), (5, 104, 0, 5, 147, true), (1, 37, 1, 0, 167, false), (5, 273, 1, 0, 168, true), (1, 62, 1, 1, 169, false), (5, 274, 1, 1, 170, true), (1, 18, 1, 2, 171, false), (5, 275, 1, 2, 172, true), (1, 24, 1, 3, 173, false), (5, 265, 1, 3, 174, true), (1, 34, 1, 4, 175, false), (5, 266, 1, 4, 176, true), (1, 27, 1, 5, 177, false), (5, 155, 1, 5, 178, true), (1, 59, 1, 6, 179, false), (5, 158, 1, 6, 180, true), (1, 74, 1, 7, 181, false), (5, 173, 1, 7, 182, true), (1, 71, 1, 8, 183, false), (5, 267, 1, 8, 184, true), (1, 77, 1, 9, 185, false), (5, 270, 1, 9, 186, true), (1, 56, 1, 10, 187, false), (5, 176, 1, 10, 188, true), (1, 9, 1, 11, 189, false), (5, 276, 1, 11, 190, true), (1, 15, 1, 12, 191, false), (5, 279, 1, 12, 192, true), (1, 46, 1, 13, 193, false), (5, 282, 1, 13, 194, true), (1, 80, 1, 14, 195, false), (5, 292, 1, 14, 196, true), (1, 83, 1, 15, 197, false), (5, 295, 1, 15, 198, true), (2, 14, 2, 0, 240, false), (5, 63, 2, 0, 241, true), (2, 24, 2, 1, 242, false), (5, 60, 2, 1, 243, true), (3, 9, 3, 0, 256, false), (5, 204, 3, 0, 257, true), (5, 207, 3, 1, 258, true), (3, 37, 3, 2, 259, false), (5, 210, 3, 2, 260, true), (3, 40, 3, 3, 261, false), (5, 213, 3, 3, 262, true), (3, 34, 3, 4, 263, false), (5, 216, 3, 4, 264, true), (5, 52, 3, 5, 265, true), (3, 19, 3, 5, 266, false), (2, 27, 3, 6, 267, true), (3, 22, 3, 6, 268, false), (5, 135, 3, 6, 269, true), (3, 15, 3, 7, 270, false), (5, 238, 3, 7, 271, true), (5, 10, 5, 0, 289, false), (5, 16, 5, 1, 290, false), (5, 19, 5, 2, 291, false), (5, 26, 5, 3, 292, false), (5, 33, 5, 4, 293, false), (5, 39, 5, 5, 294, false), (6, 7, 6, 0, 807, false), (6, 13, 6, 1, 808, false), (6, 16, 6, 2, 809, false), (6, 116, 6, 3, 810, false), (6, 19, 6, 4, 811, false), (6, 23, 6, 5, 812, false), (6, 26, 6, 6, 813, false), (6, 123, 6, 7, 814, false), (6, 29, 6, 8, 815, false), (6, 32, 6, 9, 816, false), (6, 35, 6, 10, 817, false), (6, 38, 6, 11, 818, false), (6, 41, 6, 12, 819, false), (6, 44, 6, 13, 820, false), (6, 47, 6, 14, 821, false), (6, 50, 6, 15, 822, false), (6, 166, 6, 16, 823, false), (6, 53, 6, 17, 824, false), (6, 56, 6, 18, 825, false), (6, 59, 6, 19, 826, false), (6, 62, 6, 20, 827, false), (6, 65, 6, 21, 828, false), (6, 68, 6, 22, 829, false), (6, 112, 6, 23, 830, false), (6, 132, 6, 24, 831, false), (6, 129, 6, 25, 832, false), (6, 126, 6, 26, 833, false), (6, 135, 6, 27, 834, false), (6, 153, 6, 28, 835, false), (6, 72, 6, 29, 836, false), (6, 75, 6, 30, 837, false), (6, 78, 6, 31, 838, false), (6, 214, 6, 32, 839, false), (6, 221, 6, 33, 840, false), (6, 271, 6, 34, 841, false), (6, 81, 6, 35, 842, false), (6, 265, 6, 36, 843, false), (6, 262, 6, 37, 844, false), (6, 84, 6, 38, 845, false), (6, 87, 6, 39, 846, false), (6, 90, 6, 40, 847, false), (6, 93, 6, 41, 848, false), (6, 96, 6, 42, 849, false), (6, 99, 6, 43, 850, false), (6, 102, 6, 44, 851, false), (6, 105, 6, 45, 852, false), (6, 109, 6, 46, 853, false)]
def cTabI : List (Nat × Nat × Int32 × Nat) := [(1, 21, 1103515245, 477), (1, 22, 2147483647, 478), (1, 23, 65536, 479), (3, 29, -2147483648, 512), (5, 153, -1000000001, 531), (5, 154, -1000000003, 532), (5, 183, -1000000000, 577), (5, 187, -1000000013, 583), (6, 194, 1103515245, 1061), (6, 195, 2147483647, 1062), (6, 196, 65536, 1063), (6, 115, 1000000000, 1106)]
def cTabL : List (Nat × Nat × Int64 × Nat) := [(6, 247, 7, 963), (6, 143, 48, 979), (6, 145, 57, 980), (6, 164, 20, 997), (6, 169, 5, 998), (6, 186, 2, 1007), (6, 181, 100, 1020), (6, 232, -128, 1088), (6, 234, -32768, 1089), (6, 236, -2147483648, 1090), (6, 245, 12, 1135)]
theorem aw_of {w : Jvm.Cond} {i : Nat} (h : lw_tbl[i]? = some w) (hg : goodWord w = true) : w ∈ AW := List.mem_filter.mpr ⟨List.mem_of_getElem? h, hg⟩
theorem aw_all (ws : List Jvm.Cond) (ps : List Nat) (hp : ws = ps.filterMap (fun i => lw_tbl[i]?)) (h : ws.all goodWord = true) : ∀ w ∈ ws, w ∈ AW := fun w hw => List.mem_filter.mpr ⟨(goodIn_r ws ps hp h w hw).1, List.all_eq_true.mp h w hw⟩
theorem nw_of {w : Jvm.Cond} {i : Nat} (h : lw_tbl[i]? = some w) (hg : isNest w = true) : w ∈ NW := List.mem_filter.mpr ⟨List.mem_of_getElem? h, hg⟩
theorem aw_good {w : Jvm.Cond} (h : w ∈ AW) : goodWord w = true := (List.mem_filter.mp h).2
theorem aw_in {w : Jvm.Cond} (h : w ∈ AW) : w ∈ lw_tbl := (List.mem_filter.mp h).1
def layP0 : List Nat := [148, 150, 152, 154, 156, 158]
theorem inA0 : ∀ w ∈ u_ws RX0 TX0 6, w ∈ AW := aw_all _ layP0 (by decide +kernel) (by decide +kernel)
def layP1 : List Nat := [199, 201, 203, 205, 207, 209, 211, 213, 215, 217, 219, 221, 223, 225, 227, 229]
theorem inA1 : ∀ w ∈ u_ws RX1 TX1 16, w ∈ AW := aw_all _ layP1 (by decide +kernel) (by decide +kernel)
def layP2 : List Nat := [244, 246]
theorem inA2 : ∀ w ∈ u_ws RX2 TX2 2, w ∈ AW := aw_all _ layP2 (by decide +kernel) (by decide +kernel)
def layP3 : List Nat := [272, 274, 276, 278, 280, 282, 284, 286]
theorem inA3 : ∀ w ∈ u_ws RX3 TX3 8, w ∈ AW := aw_all _ layP3 (by decide +kernel) (by decide +kernel)
def layP4 : List Nat := [126, 128, 130, 132]
theorem inA4 : ∀ w ∈ u_ws RX4 TX4 4, w ∈ AW := aw_all _ layP4 (by decide +kernel) (by decide +kernel)
def layP5 : List Nat := [295, 297, 299, 301, 303, 305]
theorem inA5 : ∀ w ∈ u_ws RX5 TX5 6, w ∈ AW := aw_all _ layP5 (by decide +kernel) (by decide +kernel)
def layP6 : List Nat := [854, 856, 858, 860, 862, 864, 866, 868, 870, 872, 874, 876, 878, 880, 882, 884, 886, 888, 890, 892, 894, 896, 898, 900, 902, 904, 906, 908, 910, 912, 914, 916, 918, 920, 922, 924, 926, 928, 930, 932, 934, 936, 938, 940, 942, 944, 946]
theorem inA6 : ∀ w ∈ u_ws RX6 TX6 47, w ∈ AW := aw_all _ layP6 (by decide +kernel) (by decide +kernel)
def fWord (ow idx ci j : Nat) : Jvm.Cond := .fieldLink (RN ow) idx (TN ci j).1 (TN ci j).2.1 (TN ci j).2.2.1
def fWordN (ow idx ci j : Nat) : Jvm.Cond := .fieldLinkNest (RN ow) idx (TN ci j).1 (TN ci j).2.1 (TN ci j).2.2.1 "ThreeTimes"
def fChk (e : Nat × Nat × Nat × Nat × Nat × Bool) : Bool := decide (e.2.2.1 < 7) && decide (e.2.2.2.1 < NN e.2.2.1) && (match e.2.2.2.2.2 with
  | true => decide (lw_tbl[e.2.2.2.2.1]? = some (fWordN e.1 e.2.1 e.2.2.1 e.2.2.2.1)) && isNest (fWordN e.1 e.2.1 e.2.2.1 e.2.2.2.1)
  | false => decide (lw_tbl[e.2.2.2.2.1]? = some (fWord e.1 e.2.1 e.2.2.1 e.2.2.2.1)) && goodWord (fWord e.1 e.2.1 e.2.2.1 e.2.2.2.1))
theorem fTab_ok : fTab.all fChk = true := by decide +kernel
def okF (ow idx ci j : Nat) : Bool := fTab.any fun e => e.1 == ow && (e.2.1 == idx && (e.2.2.1 == ci && e.2.2.2.1 == j))
theorem okF_spec {ow idx ci j : Nat} (h : okF ow idx ci j = true) : ci < 7 ∧ j < NN ci ∧ (fWord ow idx ci j ∈ AW ∨ fWordN ow idx ci j ∈ NW) := by
  obtain ⟨e, he, h2⟩ := List.any_eq_true.mp h
  simp only [Bool.and_eq_true, beq_iff_eq] at h2
  obtain ⟨rfl, rfl, rfl, rfl⟩ := h2
  have h3 := List.all_eq_true.mp fTab_ok e he
  unfold fChk at h3
  simp only [Bool.and_eq_true, decide_eq_true_eq] at h3
  refine ⟨h3.1.1, h3.1.2, ?_⟩
  have h4 := h3.2
  split at h4 <;> simp only [Bool.and_eq_true, decide_eq_true_eq] at h4
  · exact Or.inr (nw_of h4.1 h4.2)
  · exact Or.inl (aw_of h4.1 h4.2)
theorem cTabI_ok : (cTabI.all fun e => decide (lw_tbl[e.2.2.2]? = some (Jvm.Cond.constant (RN e.1) e.2.1 e.2.2.1)) && goodWord (Jvm.Cond.constant (RN e.1) e.2.1 e.2.2.1)) = true := by decide +kernel
theorem cTabL_ok : (cTabL.all fun e => decide (lw_tbl[e.2.2.2]? = some (Jvm.Cond.constantLong (RN e.1) e.2.1 e.2.2.1)) && goodWord (Jvm.Cond.constantLong (RN e.1) e.2.1 e.2.2.1)) = true := by decide +kernel
def okCI (ow idx : Nat) (v : Int32) : Bool := cTabI.any fun e => e.1 == ow && (e.2.1 == idx && decide (e.2.2.1 = v))
def okCL (ow idx : Nat) (v : Int64) : Bool := cTabL.any fun e => e.1 == ow && (e.2.1 == idx && decide (e.2.2.1 = v))
theorem okCI_spec {ow idx : Nat} {v : Int32} (h : okCI ow idx v = true) : Jvm.Cond.constant (RN ow) idx v ∈ AW := by
  obtain ⟨e, he, h2⟩ := List.any_eq_true.mp h
  simp only [Bool.and_eq_true, beq_iff_eq, decide_eq_true_eq] at h2
  obtain ⟨rfl, rfl, rfl⟩ := h2
  have h3 := List.all_eq_true.mp cTabI_ok e he
  simp only [Bool.and_eq_true, decide_eq_true_eq] at h3
  exact aw_of h3.1 h3.2
theorem okCL_spec {ow idx : Nat} {v : Int64} (h : okCL ow idx v = true) : Jvm.Cond.constantLong (RN ow) idx v ∈ AW := by
  obtain ⟨e, he, h2⟩ := List.any_eq_true.mp h
  simp only [Bool.and_eq_true, beq_iff_eq, decide_eq_true_eq] at h2
  obtain ⟨rfl, rfl, rfl⟩ := h2
  have h3 := List.all_eq_true.mp cTabL_ok e he
  simp only [Bool.and_eq_true, decide_eq_true_eq] at h3
  exact aw_of h3.1 h3.2
theorem cl7_at : ∀ ci, ci < 7 → cl7[ci]? = some (RN ci, TN ci, NN ci) := fun ci h => by
  rcases (show ci = 0 ∨ ci = 1 ∨ ci = 2 ∨ ci = 3 ∨ ci = 4 ∨ ci = 5 ∨ ci = 6 by omega) with rfl | rfl | rfl | rfl | rfl | rfl | rfl <;> rfl
theorem inAN : ∀ ci, ci < 7 → ∀ w ∈ u_ws (RN ci) (TN ci) (NN ci), w ∈ AW := fun ci h => by
  rcases (show ci = 0 ∨ ci = 1 ∨ ci = 2 ∨ ci = 3 ∨ ci = 4 ∨ ci = 5 ∨ ci = 6 by omega) with rfl | rfl | rfl | rfl | rfl | rfl | rfl
  · exact inA0
  · exact inA1
  · exact inA2
  · exact inA3
  · exact inA4
  · exact inA5
  · exact inA6
theorem tyN_ok : ∀ ci, ci < 7 → ∀ k, k < NN ci → parseFieldDescriptor ((TN ci) k).2.2.1 = some (tyN ci k) := fun ci h => by
  rcases (show ci = 0 ∨ ci = 1 ∨ ci = 2 ∨ ci = 3 ∨ ci = 4 ∨ ci = 5 ∨ ci = 6 by omega) with rfl | rfl | rfl | rfl | rfl | rfl | rfl
  · exact tyX0_ok
  · exact tyX1_ok
  · exact tyX2_ok
  · exact tyX3_ok
  · exact tyX4_ok
  · exact tyX5_ok
  · exact tyX6_ok
theorem nmN : ∀ ci, ci < 7 → ∀ a, a < NN ci → ∀ b, b < NN ci → a ≠ b → (TN ci a).2.1 ≠ (TN ci b).2.1 := fun ci h => by
  rcases (show ci = 0 ∨ ci = 1 ∨ ci = 2 ∨ ci = 3 ∨ ci = 4 ∨ ci = 5 ∨ ci = 6 by omega) with rfl | rfl | rfl | rfl | rfl | rfl | rfl
  · exact nmX0
  · exact nmX1
  · exact nmX2
  · exact nmX3
  · exact nmX4
  · exact nmX5
  · exact nmX6
theorem kd_lt {k : Nat} (h : kd k ≠ 99) : k < 68 := Nat.lt_of_not_le fun h2 => h (by unfold kd; split <;> first | rfl | omega)
theorem kd_all {P : Nat → Prop} (h : ∀ k, k < 68 → P k) {k c : Nat} (hk : kd k = c) (hc : c < 99) : P k := h k (kd_lt (by omega))
theorem kd_T {k : Nat} (hk : kd k = 4) : kd (k + 1) = 10 := kd_all (P := fun k => kd k = 4 → kd (k + 1) = 10) (by decide +kernel) hk (by omega) hk
theorem kd_S {k : Nat} (hk : kd k = 3) : kd (k + 1) = 10 ∧ alen (k + 1) = 100 := kd_all (P := fun k => kd k = 3 → kd (k + 1) = 10 ∧ alen (k + 1) = 100) (by decide +kernel) hk (by omega) hk
theorem kd_G {k : Nat} (hk : kd k = 0) : kd (6 * k) = 4 ∧ kd (6 * k + 2) = 4 ∧ kd (6 * k + 4) = 4 := kd_all (P := fun k => kd k = 0 → kd (6 * k) = 4 ∧ kd (6 * k + 2) = 4 ∧ kd (6 * k + 4) = 4) (by decide +kernel) hk (by omega) hk
theorem rf_ok : ∀ ci, ci < 7 → ∀ j, j < NN ci → rfN ci j = !((TN ci j).2.2.1 == "I" || (TN ci j).2.2.1 == "Z") := by
  intro ci h
  rcases (show ci = 0 ∨ ci = 1 ∨ ci = 2 ∨ ci = 3 ∨ ci = 4 ∨ ci = 5 ∨ ci = 6 by omega) with rfl | rfl | rfl | rfl | rfl | rfl | rfl <;> decide +kernel
