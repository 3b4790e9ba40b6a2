/-! tables: links of fields, constants, methods, by their places among the words -/
def rr_Fl : List (Nat × Nat × Nat × Nat × Nat) := [(86, 8, 9, 8, 0), (87, 8, 15, 8, 1), (88, 10, 190, 8, 1), (89, 8, 18, 8, 2), (90, 9, 37, 8, 2), (91, 4, 81, 8, 2), (92, 10, 165, 8, 2), (93, 6, 77, 8, 2), (94, 8, 21, 8, 3), (95, 10, 169, 8, 3), (96, 6, 80, 8, 3), (97, 8, 24, 8, 4), (98, 10, 172, 8, 4), (99, 8, 27, 8, 5), (100, 10, 175, 8, 5), (101, 8, 30, 8, 6), (102, 10, 123, 8, 6), (103, 8, 34, 8, 7), (104, 10, 126, 8, 7), (105, 4, 84, 8, 7), (106, 5, 63, 8, 7), (107, 6, 97, 8, 7), (108, 8, 37, 8, 8), (109, 4, 71, 8, 8), (110, 10, 129, 8, 8), (111, 5, 86, 8, 8), (112, 6, 74, 8, 8), (113, 8, 40, 8, 9), (114, 9, 33, 8, 9), (115, 10, 117, 8, 9), (116, 4, 64, 8, 9), (117, 6, 51, 8, 9), (118, 7, 79, 8, 9), (119, 5, 92, 8, 9), (150, 5, 9, 5, 0), (151, 5, 18, 5, 1), (152, 10, 102, 5, 1), (153, 5, 26, 5, 2), (154, 10, 91, 5, 2), (155, 5, 29, 5, 3), (156, 5, 60, 5, 4), (157, 5, 32, 5, 5), (158, 10, 99, 5, 6), (159, 5, 36, 5, 6), (160, 5, 22, 5, 7), (161, 10, 120, 5, 7), (193, 6, 21, 6, 0), (194, 6, 9, 6, 1), (195, 0, 22, 6, 1), (196, 10, 178, 6, 1), (197, 6, 15, 6, 2), (198, 10, 181, 6, 2), (199, 6, 18, 6, 3), (200, 10, 184, 6, 3), (201, 6, 28, 6, 4), (202, 10, 132, 6, 4), (203, 6, 32, 6, 5), (204, 10, 142, 6, 5), (205, 6, 35, 6, 6), (206, 10, 149, 6, 6), (207, 6, 38, 6, 7), (208, 10, 153, 6, 7), (232, 3, 11, 3, 0), (233, 3, 17, 3, 1), (234, 3, 25, 3, 2), (235, 10, 160, 3, 2), (249, 2, 11, 2, 0), (250, 2, 17, 2, 1), (251, 2, 20, 2, 2), (266, 4, 18, 4, 0), (267, 4, 9, 4, 1), (268, 4, 15, 4, 2), (269, 4, 22, 4, 3), (270, 4, 38, 4, 4), (271, 4, 41, 4, 5), (272, 4, 44, 4, 6), (273, 4, 47, 4, 7), (297, 9, 15, 9, 0), (298, 9, 9, 9, 1), (310, 7, 25, 7, 0), (311, 7, 29, 7, 1), (312, 7, 9, 7, 2), (313, 7, 15, 7, 3), (314, 7, 18, 7, 4), (315, 7, 22, 7, 5), (316, 7, 33, 7, 6), (317, 10, 156, 7, 6), (339, 0, 9, 0, 0), (340, 0, 15, 0, 1), (341, 0, 18, 0, 2), (342, 10, 159, 0, 2), (356, 1, 7, 1, 0), (357, 2, 28, 1, 0), (358, 10, 304, 1, 0), (362, 10, 10, 10, 0), (363, 10, 19, 10, 1), (364, 10, 28, 10, 2), (365, 10, 32, 10, 3), (366, 10, 38, 10, 4), (367, 10, 45, 10, 5), (368, 10, 52, 10, 6), (369, 10, 59, 10, 7), (370, 10, 68, 10, 8), (371, 10, 75, 10, 9), (372, 10, 82, 10, 10), (878, 11, 7, 11, 0), (879, 11, 83, 11, 1), (880, 11, 13, 11, 2), (881, 11, 17, 11, 3), (882, 11, 20, 11, 4), (883, 11, 23, 11, 5), (884, 11, 26, 11, 6), (885, 11, 29, 11, 7), (886, 11, 32, 11, 8), (887, 11, 35, 11, 9), (888, 11, 38, 11, 10), (889, 11, 115, 11, 11), (890, 11, 41, 11, 12), (891, 11, 44, 11, 13), (892, 11, 47, 11, 14), (893, 11, 138, 11, 15), (894, 11, 50, 11, 16), (895, 11, 53, 11, 17), (896, 11, 56, 11, 18), (897, 11, 215, 11, 19), (898, 11, 60, 11, 20), (899, 11, 141, 11, 21), (900, 11, 63, 11, 22), (901, 11, 144, 11, 23), (902, 11, 87, 11, 24), (903, 11, 90, 11, 25), (904, 11, 66, 11, 26), (905, 11, 69, 11, 27), (906, 11, 72, 11, 28), (907, 11, 75, 11, 29)]
def rr_Kl : List (Nat × Nat × Nat × Int32) := [(400, 10, 86, -1000000002), (405, 10, 95, -1000000004), (538, 10, 152, 1000000), (544, 10, 164, -1000000001), (565, 10, 203, -1000000003), (635, 1, 19, 65536), (679, 13, 265, 1431655765), (680, 13, 266, 858993459), (681, 13, 267, 252645135), (804, 13, 264, 65536), (976, 11, 82, -1000000002), (977, 11, 86, -1000000004), (1064, 11, 173, 1000000), (1073, 11, 178, -1000000001), (1093, 11, 190, -1000000003), (1142, 11, 224, 65536)]
def rr_Ll : List (Nat × Nat × Nat × Int32) := [(632, 1, 13, 1103515245), (633, 1, 15, 12345), (634, 1, 17, 2147483647), (761, 10, 279, 1000000000), (762, 10, 281, 100), (1139, 11, 218, 1103515245), (1140, 11, 220, 12345), (1141, 11, 222, 2147483647), (1198, 11, 247, 1000000000), (1199, 11, 249, 100)]
def rr_F : List (Nat × Nat × Nat × Nat) := rr_Fl.map (fun q => q.2)
def rr_K : List (Nat × Nat × Int32) := rr_Kl.map (fun q => q.2)
def rr_L : List (Nat × Nat × Int32) := rr_Ll.map (fun q => q.2)
def rr_fw (q : Nat × Nat × Nat × Nat) : Jvm.Cond := match vwCl[q.2.2.1]? with
  | some r => .fieldLink (rr_on q.1) q.2.1 (r.2.1 q.2.2.2).1 (r.2.1 q.2.2.2).2.1 (r.2.1 q.2.2.2).2.2.1
  | none => .tt
def rr_fn (q : Nat × Nat × Nat × Nat) : Bool := match vwCl[q.2.2.1]? with
  | some r => decide (q.2.2.2 < r.2.2)
  | none => false
theorem rr_Fl_ok : rr_Fl.all (fun q => decide (lw_tbl[q.1]? = some (rr_fw q.2)) && rr_fn q.2) = true := by decide +kernel
theorem rr_Kl_ok : rr_Kl.all (fun q => decide (lw_tbl[q.1]? = some (Jvm.Cond.constant (rr_on q.2.1) q.2.2.1 q.2.2.2))) = true := by decide +kernel
theorem rr_Ll_ok : rr_Ll.all (fun q => decide (lw_tbl[q.1]? = some (Jvm.Cond.constantLong (rr_on q.2.1) q.2.2.1 q.2.2.2.toInt64))) = true := by decide +kernel
theorem rr_F_ok {o i a b : Nat} (h : rr_F.elem (o, i, a, b) = true) : ∃ r : vw_C, vwCl[a]? = some r ∧ b < r.2.2 ∧ Jvm.Cond.fieldLink (rr_on o) i (r.2.1 b).1 (r.2.1 b).2.1 (r.2.1 b).2.2.1 ∈ rr_W := by
  have h1 : (o, i, a, b) ∈ rr_F := List.elem_iff.mp h
  obtain ⟨q, hq, e⟩ := List.mem_map.mp h1
  have h2 := List.all_eq_true.mp rr_Fl_ok q hq
  rw [Bool.and_eq_true, decide_eq_true_eq] at h2
  obtain ⟨h2, h3⟩ := h2
  rw [e] at h2 h3
  unfold rr_fn at h3
  unfold rr_fw at h2
  cases hv : vwCl[a]? with
  | none => rw [hv] at h3; cases h3
  | some r =>
    rw [hv] at h2 h3
    exact ⟨r, rfl, of_decide_eq_true h3, rr_W_in (List.mem_of_getElem? h2) rfl⟩
theorem rr_K_ok {o i : Nat} {v : Int32} (h : rr_K.elem (o, i, v) = true) : Jvm.Cond.constant (rr_on o) i v ∈ rr_W := by
  have h1 : (o, i, v) ∈ rr_K := List.elem_iff.mp h
  obtain ⟨q, hq, e⟩ := List.mem_map.mp h1
  have h2 := of_decide_eq_true (List.all_eq_true.mp rr_Kl_ok q hq)
  rw [e] at h2
  exact rr_W_in (List.mem_of_getElem? h2) rfl
theorem rr_L_ok {o i : Nat} {v : Int32} (h : rr_L.elem (o, i, v) = true) : Jvm.Cond.constantLong (rr_on o) i v.toInt64 ∈ rr_W := by
  have h1 : (o, i, v) ∈ rr_L := List.elem_iff.mp h
  obtain ⟨q, hq, e⟩ := List.mem_map.mp h1
  have h2 := of_decide_eq_true (List.all_eq_true.mp rr_Ll_ok q hq)
  rw [e] at h2
  exact rr_W_in (List.mem_of_getElem? h2) rfl
theorem rr_lay0 : ∀ w ∈ u_ws RX0 TX0 3, w ∈ rr_W := fun w h => rr_W_in (List.all_eq_true.mp (show (u_ws RX0 TX0 3).all (fun w => decide (w ∈ lw_tbl) && goodWord w) = true by decide +kernel) w h |> fun z => of_decide_eq_true (Bool.and_eq_true_iff.mp z).1) (List.all_eq_true.mp (show (u_ws RX0 TX0 3).all goodWord = true by decide +kernel) w h)
theorem rr_lay1 : ∀ w ∈ u_ws RX1 TX1 1, w ∈ rr_W := fun w h => rr_W_in (List.all_eq_true.mp (show (u_ws RX1 TX1 1).all (fun w => decide (w ∈ lw_tbl) && goodWord w) = true by decide +kernel) w h |> fun z => of_decide_eq_true (Bool.and_eq_true_iff.mp z).1) (List.all_eq_true.mp (show (u_ws RX1 TX1 1).all goodWord = true by decide +kernel) w h)
theorem rr_lay2 : ∀ w ∈ u_ws RX2 TX2 3, w ∈ rr_W := fun w h => rr_W_in (List.all_eq_true.mp (show (u_ws RX2 TX2 3).all (fun w => decide (w ∈ lw_tbl) && goodWord w) = true by decide +kernel) w h |> fun z => of_decide_eq_true (Bool.and_eq_true_iff.mp z).1) (List.all_eq_true.mp (show (u_ws RX2 TX2 3).all goodWord = true by decide +kernel) w h)
theorem rr_lay3 : ∀ w ∈ u_ws RX3 TX3 3, w ∈ rr_W := fun w h => rr_W_in (List.all_eq_true.mp (show (u_ws RX3 TX3 3).all (fun w => decide (w ∈ lw_tbl) && goodWord w) = true by decide +kernel) w h |> fun z => of_decide_eq_true (Bool.and_eq_true_iff.mp z).1) (List.all_eq_true.mp (show (u_ws RX3 TX3 3).all goodWord = true by decide +kernel) w h)
theorem rr_lay4 : ∀ w ∈ u_ws RX4 TX4 8, w ∈ rr_W := fun w h => rr_W_in (List.all_eq_true.mp (show (u_ws RX4 TX4 8).all (fun w => decide (w ∈ lw_tbl) && goodWord w) = true by decide +kernel) w h |> fun z => of_decide_eq_true (Bool.and_eq_true_iff.mp z).1) (List.all_eq_true.mp (show (u_ws RX4 TX4 8).all goodWord = true by decide +kernel) w h)
theorem rr_lay5 : ∀ w ∈ u_ws RX5 TX5 8, w ∈ rr_W := fun w h => rr_W_in (List.all_eq_true.mp (show (u_ws RX5 TX5 8).all (fun w => decide (w ∈ lw_tbl) && goodWord w) = true by decide +kernel) w h |> fun z => of_decide_eq_true (Bool.and_eq_true_iff.mp z).1) (List.all_eq_true.mp (show (u_ws RX5 TX5 8).all goodWord = true by decide +kernel) w h)
theorem rr_lay6 : ∀ w ∈ u_ws RX6 TX6 8, w ∈ rr_W := fun w h => rr_W_in (List.all_eq_true.mp (show (u_ws RX6 TX6 8).all (fun w => decide (w ∈ lw_tbl) && goodWord w) = true by decide +kernel) w h |> fun z => of_decide_eq_true (Bool.and_eq_true_iff.mp z).1) (List.all_eq_true.mp (show (u_ws RX6 TX6 8).all goodWord = true by decide +kernel) w h)
theorem rr_lay7 : ∀ w ∈ u_ws RX7 TX7 7, w ∈ rr_W := fun w h => rr_W_in (List.all_eq_true.mp (show (u_ws RX7 TX7 7).all (fun w => decide (w ∈ lw_tbl) && goodWord w) = true by decide +kernel) w h |> fun z => of_decide_eq_true (Bool.and_eq_true_iff.mp z).1) (List.all_eq_true.mp (show (u_ws RX7 TX7 7).all goodWord = true by decide +kernel) w h)
theorem rr_lay8 : ∀ w ∈ u_ws RX8 TX8 10, w ∈ rr_W := fun w h => rr_W_in (List.all_eq_true.mp (show (u_ws RX8 TX8 10).all (fun w => decide (w ∈ lw_tbl) && goodWord w) = true by decide +kernel) w h |> fun z => of_decide_eq_true (Bool.and_eq_true_iff.mp z).1) (List.all_eq_true.mp (show (u_ws RX8 TX8 10).all goodWord = true by decide +kernel) w h)
theorem rr_lay9 : ∀ w ∈ u_ws RX9 TX9 2, w ∈ rr_W := fun w h => rr_W_in (List.all_eq_true.mp (show (u_ws RX9 TX9 2).all (fun w => decide (w ∈ lw_tbl) && goodWord w) = true by decide +kernel) w h |> fun z => of_decide_eq_true (Bool.and_eq_true_iff.mp z).1) (List.all_eq_true.mp (show (u_ws RX9 TX9 2).all goodWord = true by decide +kernel) w h)
theorem rr_lay10 : ∀ w ∈ u_ws RX10 TX10 11, w ∈ rr_W := fun w h => rr_W_in (List.all_eq_true.mp (show (u_ws RX10 TX10 11).all (fun w => decide (w ∈ lw_tbl) && goodWord w) = true by decide +kernel) w h |> fun z => of_decide_eq_true (Bool.and_eq_true_iff.mp z).1) (List.all_eq_true.mp (show (u_ws RX10 TX10 11).all goodWord = true by decide +kernel) w h)
theorem rr_lay11 : ∀ w ∈ u_ws RX11 TX11 30, w ∈ rr_W := fun w h => rr_W_in (List.all_eq_true.mp (show (u_ws RX11 TX11 30).all (fun w => decide (w ∈ lw_tbl) && goodWord w) = true by decide +kernel) w h |> fun z => of_decide_eq_true (Bool.and_eq_true_iff.mp z).1) (List.all_eq_true.mp (show (u_ws RX11 TX11 30).all goodWord = true by decide +kernel) w h)
theorem rr_lays {a : Nat} {r : vw_C} (h : vwCl[a]? = some r) : ∀ w ∈ u_ws r.1 r.2.1 r.2.2, w ∈ rr_W := by
  match a, h with
  | 0, h => cases h; exact rr_lay0
  | 1, h => cases h; exact rr_lay1
  | 2, h => cases h; exact rr_lay2
  | 3, h => cases h; exact rr_lay3
  | 4, h => cases h; exact rr_lay4
  | 5, h => cases h; exact rr_lay5
  | 6, h => cases h; exact rr_lay6
  | 7, h => cases h; exact rr_lay7
  | 8, h => cases h; exact rr_lay8
  | 9, h => cases h; exact rr_lay9
  | 10, h => cases h; exact rr_lay10
  | 11, h => cases h; exact rr_lay11
  | a + 12, h => simp at h
def rr_ty (a : Nat) : Nat → FieldType := match a with
  | 0 => tyX0
  | 1 => tyX1
  | 2 => tyX2
  | 3 => tyX3
  | 4 => tyX4
  | 5 => tyX5
  | 6 => tyX6
  | 7 => tyX7
  | 8 => tyX8
  | 9 => tyX9
  | 10 => tyX10
  | _ => tyX11
theorem rr_ty_ok {a : Nat} {r : vw_C} (h : vwCl[a]? = some r) : ∀ k, k < r.2.2 → parseFieldDescriptor (r.2.1 k).2.2.1 = some (rr_ty a k) := by
  match a, h with
  | 0, h => cases h; exact tyX0_ok
  | 1, h => cases h; exact tyX1_ok
  | 2, h => cases h; exact tyX2_ok
  | 3, h => cases h; exact tyX3_ok
  | 4, h => cases h; exact tyX4_ok
  | 5, h => cases h; exact tyX5_ok
  | 6, h => cases h; exact tyX6_ok
  | 7, h => cases h; exact tyX7_ok
  | 8, h => cases h; exact tyX8_ok
  | 9, h => cases h; exact tyX9_ok
  | 10, h => cases h; exact tyX10_ok
  | 11, h => cases h; exact tyX11_ok
  | a + 12, h => simp at h
theorem rr_nm {a : Nat} {r : vw_C} (h : vwCl[a]? = some r) : ∀ x, x < r.2.2 → ∀ y, y < r.2.2 → x ≠ y → (r.2.1 x).2.1 ≠ (r.2.1 y).2.1 := by
  match a, h with
  | 0, h => cases h; exact nmX0
  | 1, h => cases h; exact nmX1
  | 2, h => cases h; exact nmX2
  | 3, h => cases h; exact nmX3
  | 4, h => cases h; exact nmX4
  | 5, h => cases h; exact nmX5
  | 6, h => cases h; exact nmX6
  | 7, h => cases h; exact nmX7
  | 8, h => cases h; exact nmX8
  | 9, h => cases h; exact nmX9
  | 10, h => cases h; exact nmX10
  | 11, h => cases h; exact nmX11
  | a + 12, h => simp at h
