def am_tw : List Cond := lw_tbl.filter goodWord
def am_tc (c : Nat) : List Cond := match c with
  | 0 => k2_sels lw_privs
  | 1 => tables_1_1
  | 2 => tables_1_2
  | 3 => tables_1_3
  | 4 => tables_1_4
  | 5 => tables_1_5
  | 6 => tables_1_6
  | 7 => tables_1_7
  | 8 => tables_1_8
  | _ => tables_1_9
theorem am_tc_in {c : Nat} {w : Cond} (h : w ∈ am_tc c) : w ∈ lw_tbl := by
  unfold am_tc at h
  unfold lw_tbl tables_1
  simp only [List.mem_append]
  split at h
  · exact Or.inl h
  · exact Or.inr (Or.inl h)
  · exact Or.inr (Or.inr (Or.inl h))
  · exact Or.inr (Or.inr (Or.inr (Or.inl h)))
  · exact Or.inr (Or.inr (Or.inr (Or.inr (Or.inl h))))
  · exact Or.inr (Or.inr (Or.inr (Or.inr (Or.inr (Or.inl h)))))
  · exact Or.inr (Or.inr (Or.inr (Or.inr (Or.inr (Or.inr (Or.inl h))))))
  · exact Or.inr (Or.inr (Or.inr (Or.inr (Or.inr (Or.inr (Or.inr (Or.inl h)))))))
  · exact Or.inr (Or.inr (Or.inr (Or.inr (Or.inr (Or.inr (Or.inr (Or.inr (Or.inl h))))))))
  · exact Or.inr (Or.inr (Or.inr (Or.inr (Or.inr (Or.inr (Or.inr (Or.inr (Or.inr h))))))))
theorem am_tw_at (c p : Nat) {w : Cond} (h : (am_tc c)[p]? = some w) (hg : goodWord w = true) : w ∈ am_tw := List.mem_filter.mpr ⟨am_tc_in (List.mem_of_getElem? h), hg⟩
def am_hw (z : Nat × Nat) (w : Cond) : Bool := decide ((am_tc z.1)[z.2]? = some w) && goodWord w
theorem am_hw_in {z : Nat × Nat} {w : Cond} (h : am_hw z w = true) : w ∈ am_tw := by
  unfold am_hw at h
  simp only [Bool.and_eq_true, decide_eq_true_eq] at h
  exact am_tw_at z.1 z.2 h.1 h.2
def am_fl0 : List (Nat × Nat × Nat × Nat × Nat) := [(9, 0, 1, (2, 125)), (15, 0, 2, (2, 127)), (18, 0, 3, (2, 129)), (21, 0, 4, (2, 131)), (25, 0, 5, (2, 133)), (28, 0, 6, (2, 135)), (31, 0, 7, (2, 137)), (34, 0, 0, (2, 123)), (38, 9, 3, (1, 88)), (44, 9, 18, (1, 151)), (56, 1, 5, (1, 56)), (70, 9, 2, (1, 84)), (76, 6, 4, (2, 85)), (79, 6, 3, (2, 82)), (95, 9, 0, (1, 77)), (110, 9, 11, (1, 125)), (113, 9, 14, (1, 137)), (116, 9, 12, (1, 129)), (127, 6, 1, (2, 76)), (130, 9, 16, (1, 145)), (138, 9, 13, (1, 133)), (141, 9, 7, (1, 105)), (144, 9, 9, (1, 117)), (147, 6, 2, (2, 79)), (150, 6, 7, (2, 94)), (153, 9, 10, (1, 121)), (160, 9, 8, (1, 111)), (167, 6, 5, (2, 88)), (170, 6, 6, (2, 91))]
def am_fl1 : List (Nat × Nat × Nat × Nat × Nat) := [(9, 1, 0, (1, 45)), (15, 1, 1, (1, 46)), (19, 1, 2, (1, 48)), (22, 1, 3, (1, 51)), (25, 1, 4, (1, 53)), (28, 1, 5, (1, 55)), (32, 1, 6, (1, 57))]
def am_fl2 : List (Nat × Nat × Nat × Nat × Nat) := [(9, 2, 0, (2, 205)), (15, 2, 1, (2, 207)), (31, 6, 1, (2, 74))]
def am_fl3 : List (Nat × Nat × Nat × Nat × Nat) := [(11, 3, 0, (2, 195)), (32, 9, 5, (1, 95)), (38, 9, 7, (1, 103)), (41, 9, 9, (1, 115)), (44, 9, 8, (1, 109))]
def am_fl4 : List (Nat × Nat × Nat × Nat × Nat) := [(9, 4, 0, (2, 33)), (15, 4, 1, (2, 35)), (21, 4, 2, (2, 37)), (25, 4, 3, (2, 38)), (28, 4, 5, (2, 40)), (31, 4, 6, (2, 41)), (34, 4, 7, (2, 42)), (38, 4, 8, (2, 43)), (41, 4, 9, (2, 44)), (44, 4, 4, (2, 39)), (57, 8, 0, (2, 15)), (64, 8, 2, (2, 19)), (79, 9, 15, (1, 142)), (86, 9, 16, (1, 144)), (99, 8, 1, (2, 17)), (113, 9, 0, (1, 79)), (119, 9, 1, (1, 82)), (126, 9, 2, (1, 85)), (129, 9, 3, (1, 89)), (141, 9, 4, (1, 93)), (144, 9, 5, (1, 98)), (147, 9, 6, (1, 101)), (150, 9, 7, (1, 106)), (153, 9, 8, (1, 112)), (156, 9, 9, (1, 118)), (159, 9, 10, (1, 122)), (162, 9, 11, (1, 126)), (165, 9, 12, (1, 130)), (168, 9, 13, (1, 134)), (171, 9, 14, (1, 138)), (179, 9, 17, (1, 149)), (182, 9, 18, (1, 152)), (191, 1, 3, (1, 52)), (194, 1, 1, (1, 47)), (200, 1, 4, (1, 54)), (229, 1, 2, (1, 49))]
def am_fl5 : List (Nat × Nat × Nat × Nat × Nat) := [(9, 5, 0, (2, 164)), (15, 5, 1, (2, 166)), (19, 5, 2, (2, 168)), (23, 5, 3, (2, 170)), (28, 5, 4, (2, 171)), (32, 5, 5, (2, 172)), (35, 5, 6, (2, 173)), (60, 0, 0, (2, 124)), (64, 9, 5, (1, 96)), (69, 6, 1, (2, 75)), (72, 9, 9, (1, 116)), (75, 9, 7, (1, 104)), (78, 9, 8, (1, 110))]
def am_fl6 : List (Nat × Nat × Nat × Nat × Nat) := [(9, 6, 0, (2, 72)), (15, 6, 1, (2, 73)), (18, 6, 2, (2, 78)), (21, 6, 3, (2, 81)), (25, 6, 4, (2, 84)), (28, 6, 5, (2, 87)), (31, 6, 6, (2, 90)), (34, 6, 7, (2, 93)), (37, 6, 8, (2, 96)), (40, 9, 4, (1, 92)), (51, 9, 15, (1, 141)), (60, 9, 17, (1, 148))]
def am_fl7 : List (Nat × Nat × Nat × Nat × Nat) := [(9, 7, 0, (2, 219)), (15, 7, 1, (2, 221)), (18, 7, 2, (2, 223)), (22, 7, 3, (2, 224)), (25, 7, 4, (2, 225)), (28, 7, 5, (2, 226)), (31, 7, 6, (2, 227)), (35, 7, 7, (2, 228))]
def am_fl8 : List (Nat × Nat × Nat × Nat × Nat) := [(9, 8, 0, (2, 14)), (15, 8, 1, (2, 16)), (18, 8, 2, (2, 18)), (21, 8, 3, (2, 20)), (25, 8, 4, (2, 21))]
def am_fl9 : List (Nat × Nat × Nat × Nat × Nat) := [(9, 9, 0, (1, 76)), (15, 9, 1, (1, 80)), (19, 9, 2, (1, 83)), (22, 9, 3, (1, 87)), (25, 9, 4, (1, 91)), (28, 9, 5, (1, 94)), (31, 9, 6, (1, 99)), (34, 9, 7, (1, 102)), (37, 9, 8, (1, 108)), (40, 9, 9, (1, 114)), (43, 9, 10, (1, 120)), (46, 9, 11, (1, 124)), (49, 9, 12, (1, 128)), (52, 9, 13, (1, 132)), (55, 9, 14, (1, 136)), (58, 9, 15, (1, 140)), (61, 9, 16, (1, 143)), (64, 9, 17, (1, 147)), (70, 9, 18, (1, 150))]
def am_fl10 : List (Nat × Nat × Nat × Nat × Nat) := [(11, 10, 0, (3, 7)), (15, 10, 1, (3, 8)), (19, 10, 2, (3, 9)), (22, 10, 3, (3, 10)), (28, 10, 4, (3, 11)), (32, 10, 5, (3, 12)), (40, 10, 6, (3, 13)), (47, 10, 7, (3, 14)), (51, 10, 8, (3, 15)), (54, 10, 9, (3, 16)), (57, 10, 10, (3, 17)), (64, 10, 11, (3, 18)), (71, 10, 12, (3, 19)), (78, 10, 13, (3, 20)), (85, 10, 14, (3, 21)), (92, 10, 15, (3, 22)), (104, 4, 0, (2, 34)), (107, 4, 1, (2, 36)), (117, 5, 0, (2, 165)), (120, 9, 1, (1, 81)), (124, 9, 0, (1, 78)), (131, 9, 6, (1, 100)), (134, 9, 5, (1, 97)), (160, 9, 2, (1, 86)), (163, 9, 3, (1, 90)), (176, 9, 7, (1, 107)), (179, 9, 8, (1, 113)), (182, 9, 9, (1, 119)), (185, 9, 10, (1, 123)), (188, 9, 11, (1, 127)), (191, 9, 12, (1, 131)), (194, 9, 13, (1, 135)), (197, 9, 14, (1, 139)), (200, 6, 2, (2, 80)), (203, 6, 1, (2, 77)), (206, 9, 16, (1, 146)), (249, 6, 3, (2, 83)), (262, 6, 4, (2, 86)), (265, 6, 5, (2, 89)), (290, 5, 1, (2, 167)), (292, 5, 2, (2, 169)), (336, 7, 0, (2, 220)), (339, 7, 1, (2, 222)), (355, 0, 5, (2, 134)), (358, 0, 6, (2, 136)), (363, 6, 8, (2, 97)), (366, 0, 1, (2, 126)), (369, 0, 4, (2, 132)), (372, 0, 2, (2, 128)), (375, 0, 3, (2, 130)), (378, 2, 0, (2, 206)), (382, 9, 18, (1, 153)), (386, 1, 2, (1, 50)), (391, 6, 6, (2, 92)), (394, 6, 7, (2, 95))]
def am_fl11 : List (Nat × Nat × Nat × Nat × Nat) := [(7, 11, 0, (6, 79)), (13, 11, 3, (6, 82)), (16, 11, 5, (6, 84)), (20, 11, 22, (6, 101)), (23, 11, 23, (6, 102)), (26, 11, 24, (6, 103)), (29, 11, 25, (6, 104)), (32, 11, 26, (6, 105)), (35, 11, 27, (6, 106)), (38, 11, 28, (6, 107)), (41, 11, 29, (6, 108)), (44, 11, 30, (6, 109)), (47, 11, 31, (6, 110)), (50, 11, 32, (6, 111)), (53, 11, 33, (6, 112)), (56, 11, 34, (6, 113)), (59, 11, 35, (6, 114)), (63, 11, 36, (6, 115)), (66, 11, 37, (6, 116)), (69, 11, 38, (6, 117)), (72, 11, 39, (6, 118)), (75, 11, 40, (6, 119)), (78, 11, 41, (6, 120)), (81, 11, 42, (6, 121)), (84, 11, 43, (6, 122)), (87, 11, 44, (6, 123)), (90, 11, 51, (6, 130)), (94, 11, 52, (6, 131)), (97, 11, 54, (6, 133)), (100, 11, 55, (6, 134)), (103, 11, 56, (6, 135)), (106, 11, 57, (6, 136)), (109, 11, 58, (6, 137)), (112, 11, 68, (6, 147)), (115, 11, 69, (6, 148)), (118, 11, 71, (6, 150)), (121, 11, 72, (6, 151)), (124, 11, 73, (6, 152)), (127, 11, 75, (6, 154)), (130, 11, 77, (6, 156)), (133, 11, 78, (6, 157)), (142, 11, 2, (6, 81)), (145, 11, 1, (6, 80)), (148, 11, 4, (6, 83)), (151, 11, 10, (6, 89)), (154, 11, 6, (6, 85)), (157, 11, 7, (6, 86)), (160, 11, 8, (6, 87)), (171, 11, 9, (6, 88)), (191, 11, 11, (6, 90)), (204, 11, 16, (6, 95)), (207, 11, 17, (6, 96)), (210, 11, 18, (6, 97)), (213, 11, 19, (6, 98)), (216, 11, 20, (6, 99)), (219, 11, 48, (6, 127)), (222, 11, 21, (6, 100)), (226, 11, 12, (6, 91)), (229, 11, 13, (6, 92)), (232, 11, 14, (6, 93)), (235, 11, 15, (6, 94)), (284, 11, 46, (6, 125)), (287, 11, 45, (6, 124)), (302, 11, 47, (6, 126)), (309, 11, 50, (6, 129)), (321, 11, 49, (6, 128)), (333, 11, 53, (6, 132)), (355, 11, 59, (6, 138)), (362, 11, 70, (6, 149)), (365, 11, 74, (6, 153)), (368, 11, 76, (6, 155)), (371, 11, 60, (6, 139)), (374, 11, 61, (6, 140)), (377, 11, 62, (6, 141)), (380, 11, 63, (6, 142)), (383, 11, 64, (6, 143)), (386, 11, 65, (6, 144)), (389, 11, 66, (6, 145)), (392, 11, 67, (6, 146)), (533, 11, 79, (6, 158))]
def am_fl (c : Nat) : List (Nat × Nat × Nat × Nat × Nat) := (bif Nat.ble c 5 then (bif Nat.ble c 2 then (bif Nat.ble c 0 then am_fl0 else (bif Nat.ble c 1 then am_fl1 else am_fl2)) else (bif Nat.ble c 3 then am_fl3 else (bif Nat.ble c 4 then am_fl4 else am_fl5))) else (bif Nat.ble c 8 then (bif Nat.ble c 6 then am_fl6 else (bif Nat.ble c 7 then am_fl7 else am_fl8)) else (bif Nat.ble c 9 then am_fl9 else (bif Nat.ble c 10 then am_fl10 else am_fl11))))
/-- a field's link: the word stands, the field is the class's -/
def am_flk (c : Nat) (z : Nat × Nat × Nat × Nat × Nat) : Bool := match vwCl[z.2.1]? with
  | some (_, T, N) => decide (z.2.1 < 12 ∧ z.2.2.1 < N) && decide ((am_lay z.2.1).length = N) && am_hw z.2.2.2 (.fieldLink (am_nm c) z.1 (T z.2.2.1).1 (T z.2.2.1).2.1 (T z.2.2.1).2.2.1)
  | none => false
theorem am_flk0 : (am_fl 0).all (am_flk 0) = true := by decide +kernel
theorem am_flk1 : (am_fl 1).all (am_flk 1) = true := by decide +kernel
theorem am_flk2 : (am_fl 2).all (am_flk 2) = true := by decide +kernel
theorem am_flk3 : (am_fl 3).all (am_flk 3) = true := by decide +kernel
theorem am_flk4 : (am_fl 4).all (am_flk 4) = true := by decide +kernel
theorem am_flk5 : (am_fl 5).all (am_flk 5) = true := by decide +kernel
theorem am_flk6 : (am_fl 6).all (am_flk 6) = true := by decide +kernel
theorem am_flk7 : (am_fl 7).all (am_flk 7) = true := by decide +kernel
theorem am_flk8 : (am_fl 8).all (am_flk 8) = true := by decide +kernel
theorem am_flk9 : (am_fl 9).all (am_flk 9) = true := by decide +kernel
theorem am_flk10 : (am_fl 10).all (am_flk 10) = true := by decide +kernel
theorem am_flk11 : (am_fl 11).all (am_flk 11) = true := by decide +kernel
theorem am_flk_ok {c : Nat} (hc : c < 12) {z : Nat × Nat × Nat × Nat × Nat} (hz : z ∈ am_fl c) : am_flk c z = true := by
  match c, hc, hz with
  | 0, _, hz => exact List.all_eq_true.mp am_flk0 z hz
  | 1, _, hz => exact List.all_eq_true.mp am_flk1 z hz
  | 2, _, hz => exact List.all_eq_true.mp am_flk2 z hz
  | 3, _, hz => exact List.all_eq_true.mp am_flk3 z hz
  | 4, _, hz => exact List.all_eq_true.mp am_flk4 z hz
  | 5, _, hz => exact List.all_eq_true.mp am_flk5 z hz
  | 6, _, hz => exact List.all_eq_true.mp am_flk6 z hz
  | 7, _, hz => exact List.all_eq_true.mp am_flk7 z hz
  | 8, _, hz => exact List.all_eq_true.mp am_flk8 z hz
  | 9, _, hz => exact List.all_eq_true.mp am_flk9 z hz
  | 10, _, hz => exact List.all_eq_true.mp am_flk10 z hz
  | 11, _, hz => exact List.all_eq_true.mp am_flk11 z hz
def am_ml0 : List (Nat × Nat × Nat × Nat) := [(48, 14, (4, 70)), (60, 59, (4, 72)), (66, 62, (4, 73)), (73, 2, (4, 74)), (82, 15, (4, 78)), (98, 3, (4, 66)), (102, 4, (4, 91)), (106, 7, (4, 154)), (119, 8, (4, 158)), (123, 10, (4, 174)), (135, 63, (4, 181)), (156, 9, (4, 162)), (163, 61, (4, 173)), (173, 65, (4, 166)), (179, 60, (4, 180))]
def am_pl0 : List (Nat × Nat × Nat × Nat) := [(3, 8, (2, 122)), (86, 5, (4, 94)), (92, 4, (4, 97)), (133, 2, (4, 179)), (177, 1, (4, 178))]
def am_ml1 : List (Nat × Nat × Nat × Nat) := [(35, 280, (3, 119)), (43, 16, (4, 83))]
def am_pl1 : List (Nat × Nat × Nat × Nat) := [(3, 8, (1, 44)), (51, 6, (4, 86))]
def am_ml2 : List (Nat × Nat × Nat × Nat) := [(25, 59, (4, 119)), (34, 60, (5, 185))]
def am_pl2 : List (Nat × Nat × Nat × Nat) := [(3, 8, (2, 204)), (19, 7, (4, 118))]
def am_ml3 : List (Nat × Nat × Nat × Nat) := [(15, 59, (4, 220)), (22, 280, (4, 222)), (28, 23, (4, 223)), (47, 24, (4, 227))]
def am_pl3 : List (Nat × Nat × Nat × Nat) := [(5, 8, (2, 194))]
def am_ml4 : List (Nat × Nat × Nat × Nat) := [(20, 75, (1, 201)), (48, 76, (3, 72)), (52, 85, (3, 108)), (60, 28, (3, 120)), (67, 35, (3, 124)), (70, 36, (3, 149)), (73, 37, (3, 162)), (76, 38, (3, 166)), (82, 39, (3, 170)), (89, 41, (3, 178)), (92, 42, (3, 183)), (95, 27, (3, 132)), (102, 31, (3, 141)), (116, 29, (3, 128)), (122, 33, (3, 136)), (132, 30, (3, 145)), (135, 34, (3, 153)), (138, 32, (3, 158)), (174, 40, (3, 174)), (186, 14, (3, 187)), (197, 43, (3, 191)), (203, 44, (3, 195)), (206, 49, (3, 218)), (210, 50, (3, 207)), (213, 45, (3, 222)), (216, 47, (3, 199)), (219, 48, (3, 203)), (223, 46, (3, 210)), (226, 13, (3, 214))]
def am_pl4 : List (Nat × Nat × Nat × Nat) := [(3, 8, (1, 198))]
def am_ml5 : List (Nat × Nat × Nat × Nat) := [(42, 58, (5, 12)), (46, 54, (5, 13)), (50, 5, (5, 17)), (56, 55, (5, 18)), (81, 61, (5, 23)), (85, 7, (5, 24))]
def am_pl5 : List (Nat × Nat × Nat × Nat) := [(3, 8, (2, 160)), (88, 7, (5, 22))]
def am_ml6 : List (Nat × Nat × Nat × Nat) := [(54, 280, (3, 233)), (63, 59, (4, 23)), (75, 60, (4, 128)), (83, 62, (4, 185))]
def am_pl6 : List (Nat × Nat × Nat × Nat) := [(3, 8, (2, 71)), (45, 7, (3, 230)), (67, 2, (4, 124)), (72, 1, (4, 125)), (79, 3, (4, 27))]
def am_ml7 : List (Nat × Nat × Nat × Nat) := [(44, 69, (5, 137)), (48, 59, (5, 146)), (53, 71, (5, 147)), (60, 62, (5, 168))]
def am_pl7 : List (Nat × Nat × Nat × Nat) := [(3, 8, (2, 218)), (38, 2, (5, 141)), (57, 1, (5, 159))]
def am_ml8 : List (Nat × Nat × Nat × Nat) := [(40, 77, (3, 76)), (44, 80, (3, 79)), (48, 78, (3, 90)), (51, 81, (3, 93)), (54, 82, (3, 101)), (57, 79, (3, 83)), (72, 83, (3, 105))]
def am_pl8 : List (Nat × Nat × Nat × Nat) := [(3, 8, (1, 204)), (66, 2, (3, 98))]
def am_ml9 : List (Nat × Nat × Nat × Nat) := [(74, 280, (3, 112)), (80, 12, (3, 115))]
def am_pl9 : List (Nat × Nat × Nat × Nat) := [(3, 8, (1, 38))]
def am_ml10 : List (Nat × Nat × Nat × Nat) := [(37, 25, (1, 195)), (63, 0, (2, 119)), (70, 51, (2, 157)), (77, 21, (2, 191)), (84, 17, (2, 201)), (91, 66, (2, 215)), (96, 88, (3, 60)), (100, 26, (3, 68)), (110, 57, (3, 226)), (113, 18, (3, 234)), (116, 67, (3, 238)), (127, 92, (4, 10)), (137, 93, (4, 15)), (148, 95, (4, 47)), (156, 59, (4, 144)), (166, 62, (4, 19)), (170, 94, (4, 34)), (209, 64, (4, 50)), (212, 1, (4, 58)), (216, 5, (4, 62)), (222, 3, (4, 105)), (226, 106, (4, 110)), (229, 61, (4, 120)), (233, 96, (4, 136)), (242, 60, (4, 145)), (245, 19, (4, 114)), (252, 6, (4, 150)), (255, 58, (4, 194)), (259, 108, (4, 190)), (268, 112, (4, 202)), (272, 63, (4, 206)), (275, 7, (4, 207)), (278, 22, (4, 216)), (282, 52, (5, 3)), (286, 53, (5, 7)), (295, 117, (5, 29)), (298, 101, (5, 49)), (302, 124, (5, 50)), (305, 125, (5, 54)), (316, 127, (5, 68)), (324, 130, (5, 80)), (329, 136, (5, 105)), (332, 68, (5, 113)), (342, 70, (5, 133)), (345, 72, (5, 142)), (349, 73, (5, 155)), (352, 143, (5, 160)), (361, 74, (5, 164)), (379, 20, (5, 181)), (397, 69, (5, 198))]
def am_pl10 : List (Nat × Nat × Nat × Nat) := [(3, 8, (1, 30)), (237, 2, (4, 139)), (309, 1, (5, 57)), (320, 6, (5, 71)), (327, 3, (5, 96))]
def am_ml11 : List (Nat × Nat × Nat × Nat) := [(136, 165, (6, 56)), (139, 167, (6, 60)), (163, 156, (7, 96)), (167, 155, (7, 100)), (174, 160, (7, 104)), (177, 157, (7, 108)), (181, 159, (7, 113)), (184, 154, (7, 121)), (187, 153, (7, 140)), (194, 158, (7, 92)), (197, 162, (7, 155)), (200, 163, (7, 136)), (238, 166, (6, 64)), (242, 195, (6, 67)), (245, 168, (7, 133)), (249, 169, (7, 129)), (253, 170, (7, 147)), (256, 164, (7, 151)), (259, 171, (7, 125)), (263, 172, (7, 143)), (266, 173, (7, 159)), (269, 174, (7, 163)), (272, 175, (7, 167)), (275, 176, (7, 171)), (278, 190, (7, 175)), (281, 177, (7, 117)), (290, 181, (7, 211)), (294, 183, (7, 214)), (298, 182, (7, 199)), (305, 186, (7, 183)), (312, 161, (7, 187)), (315, 185, (7, 191)), (318, 187, (7, 195)), (324, 184, (7, 207)), (327, 188, (7, 179)), (330, 189, (7, 203)), (340, 191, (8, 65)), (344, 193, (8, 71)), (348, 192, (8, 75)), (352, 196, (6, 71)), (359, 197, (6, 75)), (395, 204, (8, 9)), (399, 202, (8, 13)), (402, 205, (8, 5)), (405, 206, (8, 49)), (408, 194, (8, 61)), (412, 208, (8, 57)), (415, 207, (8, 45)), (418, 209, (8, 53)), (429, 212, (8, 126)), (432, 203, (8, 99)), (435, 213, (8, 122)), (438, 214, (8, 95)), (441, 215, (8, 118)), (445, 216, (8, 134)), (448, 211, (8, 138)), (451, 217, (8, 114)), (454, 199, (7, 230)), (457, 221, (7, 234)), (460, 201, (7, 238)), (463, 200, (8, 20)), (467, 220, (8, 33)), (470, 210, (8, 41)), (475, 275, (8, 87)), (478, 198, (8, 146)), (481, 218, (8, 150)), (484, 219, (8, 154)), (487, 234, (8, 162)), (491, 238, (8, 178)), (495, 242, (8, 194)), (498, 248, (8, 222)), (501, 249, (8, 218)), (508, 252, (8, 236)), (511, 260, (9, 27)), (515, 265, (9, 51)), (518, 266, (9, 47)), (521, 268, (9, 63)), (524, 269, (9, 59)), (527, 273, (8, 91)), (530, 274, (9, 79))]
def am_pl11 : List (Nat × Nat × Nat × Nat) := [(1, 8, (6, 55))]
def am_ml (c : Nat) : List (Nat × Nat × Nat × Nat) := (bif Nat.ble c 5 then (bif Nat.ble c 2 then (bif Nat.ble c 0 then am_ml0 else (bif Nat.ble c 1 then am_ml1 else am_ml2)) else (bif Nat.ble c 3 then am_ml3 else (bif Nat.ble c 4 then am_ml4 else am_ml5))) else (bif Nat.ble c 8 then (bif Nat.ble c 6 then am_ml6 else (bif Nat.ble c 7 then am_ml7 else am_ml8)) else (bif Nat.ble c 9 then am_ml9 else (bif Nat.ble c 10 then am_ml10 else am_ml11))))
def am_pl (c : Nat) : List (Nat × Nat × Nat × Nat) := (bif Nat.ble c 5 then (bif Nat.ble c 2 then (bif Nat.ble c 0 then am_pl0 else (bif Nat.ble c 1 then am_pl1 else am_pl2)) else (bif Nat.ble c 3 then am_pl3 else (bif Nat.ble c 4 then am_pl4 else am_pl5))) else (bif Nat.ble c 8 then (bif Nat.ble c 6 then am_pl6 else (bif Nat.ble c 7 then am_pl7 else am_pl8)) else (bif Nat.ble c 9 then am_pl9 else (bif Nat.ble c 10 then am_pl10 else am_pl11))))
def am_mlk (c : Nat) (z : Nat × Nat × Nat × Nat) : Bool := decide (z.2.1 < 281) && am_hw z.2.2 (.methodLink (am_nm c) z.1 (am_y z.2.1))
def am_py (k : Nat) : MethodName := match k with
  | 1 => Lib.Math.max.name
  | 2 => Lib.Math.min.name
  | 3 => Lib.Math.abs.name
  | 4 => Lib.MathLoose.max_long.x
  | 5 => Lib.MathLoose.min_long.x
  | 6 => Lib.MathLoose.abs_long.x
  | 7 => arraycopyName
  | _ => Lib.objectInit
def am_plk (c : Nat) (z : Nat × Nat × Nat × Nat) : Bool := am_hw z.2.2 (.methodLink (am_nm c) z.1 (am_py z.2.1))
theorem am_mlk0 : (am_ml 0).all (am_mlk 0) = true := by decide +kernel
theorem am_plk0 : (am_pl 0).all (am_plk 0) = true := by decide +kernel
theorem am_mlk1 : (am_ml 1).all (am_mlk 1) = true := by decide +kernel
theorem am_plk1 : (am_pl 1).all (am_plk 1) = true := by decide +kernel
theorem am_mlk2 : (am_ml 2).all (am_mlk 2) = true := by decide +kernel
theorem am_plk2 : (am_pl 2).all (am_plk 2) = true := by decide +kernel
theorem am_mlk3 : (am_ml 3).all (am_mlk 3) = true := by decide +kernel
theorem am_plk3 : (am_pl 3).all (am_plk 3) = true := by decide +kernel
theorem am_mlk4 : (am_ml 4).all (am_mlk 4) = true := by decide +kernel
theorem am_plk4 : (am_pl 4).all (am_plk 4) = true := by decide +kernel
theorem am_mlk5 : (am_ml 5).all (am_mlk 5) = true := by decide +kernel
theorem am_plk5 : (am_pl 5).all (am_plk 5) = true := by decide +kernel
theorem am_mlk6 : (am_ml 6).all (am_mlk 6) = true := by decide +kernel
theorem am_plk6 : (am_pl 6).all (am_plk 6) = true := by decide +kernel
theorem am_mlk7 : (am_ml 7).all (am_mlk 7) = true := by decide +kernel
theorem am_plk7 : (am_pl 7).all (am_plk 7) = true := by decide +kernel
theorem am_mlk8 : (am_ml 8).all (am_mlk 8) = true := by decide +kernel
theorem am_plk8 : (am_pl 8).all (am_plk 8) = true := by decide +kernel
theorem am_mlk9 : (am_ml 9).all (am_mlk 9) = true := by decide +kernel
theorem am_plk9 : (am_pl 9).all (am_plk 9) = true := by decide +kernel
theorem am_mlk10 : (am_ml 10).all (am_mlk 10) = true := by decide +kernel
theorem am_plk10 : (am_pl 10).all (am_plk 10) = true := by decide +kernel
theorem am_mlk11 : (am_ml 11).all (am_mlk 11) = true := by decide +kernel
theorem am_plk11 : (am_pl 11).all (am_plk 11) = true := by decide +kernel
theorem am_mlk_ok {c : Nat} (hc : c < 12) {z : Nat × Nat × Nat × Nat} (hz : z ∈ am_ml c) : am_mlk c z = true := by
  match c, hc, hz with
  | 0, _, hz => exact List.all_eq_true.mp am_mlk0 z hz
  | 1, _, hz => exact List.all_eq_true.mp am_mlk1 z hz
  | 2, _, hz => exact List.all_eq_true.mp am_mlk2 z hz
  | 3, _, hz => exact List.all_eq_true.mp am_mlk3 z hz
  | 4, _, hz => exact List.all_eq_true.mp am_mlk4 z hz
  | 5, _, hz => exact List.all_eq_true.mp am_mlk5 z hz
  | 6, _, hz => exact List.all_eq_true.mp am_mlk6 z hz
  | 7, _, hz => exact List.all_eq_true.mp am_mlk7 z hz
  | 8, _, hz => exact List.all_eq_true.mp am_mlk8 z hz
  | 9, _, hz => exact List.all_eq_true.mp am_mlk9 z hz
  | 10, _, hz => exact List.all_eq_true.mp am_mlk10 z hz
  | 11, _, hz => exact List.all_eq_true.mp am_mlk11 z hz
theorem am_plk_ok {c : Nat} (hc : c < 12) {z : Nat × Nat × Nat × Nat} (hz : z ∈ am_pl c) : am_plk c z = true := by
  match c, hc, hz with
  | 0, _, hz => exact List.all_eq_true.mp am_plk0 z hz
  | 1, _, hz => exact List.all_eq_true.mp am_plk1 z hz
  | 2, _, hz => exact List.all_eq_true.mp am_plk2 z hz
  | 3, _, hz => exact List.all_eq_true.mp am_plk3 z hz
  | 4, _, hz => exact List.all_eq_true.mp am_plk4 z hz
  | 5, _, hz => exact List.all_eq_true.mp am_plk5 z hz
  | 6, _, hz => exact List.all_eq_true.mp am_plk6 z hz
  | 7, _, hz => exact List.all_eq_true.mp am_plk7 z hz
  | 8, _, hz => exact List.all_eq_true.mp am_plk8 z hz
  | 9, _, hz => exact List.all_eq_true.mp am_plk9 z hz
  | 10, _, hz => exact List.all_eq_true.mp am_plk10 z hz
  | 11, _, hz => exact List.all_eq_true.mp am_plk11 z hz
def am_ci : List (Nat × Nat × Int × Nat × Nat) := [(10, 175, (-2147483648), (4, 38)), (3, 21, 1000000, (4, 221)), (4, 108, (-2147483648), (3, 157)), (4, 178, 99999, (3, 182)), (5, 41, 2147483647, (5, 11)), (6, 86, 1103515245, (4, 170)), (6, 89, 2147483647, (4, 171)), (6, 90, 65536, (4, 172)), (8, 65, 1000000, (3, 97)), (11, 180, 99999, (7, 112)), (11, 466, (-2147483648), (8, 24))]
def am_cl : List (Nat × Nat × Int × Nat × Nat) := [(10, 220, (-9223372036854775808), (4, 104)), (10, 312, (-1), (5, 66)), (10, 314, 100, (5, 67)), (0, 54, (-9223372036854775808), (4, 71)), (1, 41, (-9223372036854775808), (4, 82)), (1, 47, 1000000000000, (4, 89)), (1, 49, (-1000000000000), (4, 90)), (11, 336, 1000000000000, (8, 69)), (11, 338, (-1000000000000), (8, 70)), (11, 421, 1103515245, (8, 130)), (11, 423, 12345, (8, 131)), (11, 425, 2147483647, (8, 132)), (11, 427, 65536, (8, 133)), (11, 473, (-9223372036854775808), (8, 82)), (11, 504, (-1), (8, 234)), (11, 506, 100, (8, 235))]
theorem am_ci_ok : am_ci.all (fun z => decide (-2147483648 ≤ z.2.2.1 ∧ z.2.2.1 ≤ 2147483647) && am_hw z.2.2.2 (.constant (am_nm z.1) z.2.1 (Int32.ofInt z.2.2.1))) = true := by decide +kernel
theorem am_cl_ok : am_cl.all (fun z => decide (-9223372036854775808 ≤ z.2.2.1 ∧ z.2.2.1 ≤ 9223372036854775807) && am_hw z.2.2.2 (.constantLong (am_nm z.1) z.2.1 (Int64.ofInt z.2.2.1))) = true := by decide +kernel
def am_nl : List (Nat × Nat × Nat × (Nat × Nat) × (Nat × Nat) × (Nat × Nat)) := [(10, 25, 9, (1, 33), (1, 34), (1, 2)), (10, 35, 4, (1, 193), (1, 194), (1, 4)), (10, 44, 6, (2, 66), (2, 67), (1, 10)), (10, 61, 0, (2, 117), (2, 118), (1, 11)), (10, 68, 5, (2, 155), (2, 156), (1, 12)), (10, 75, 3, (2, 189), (2, 190), (1, 13)), (10, 82, 2, (2, 199), (2, 200), (1, 14)), (10, 89, 7, (2, 213), (2, 214), (1, 15)), (4, 18, 8, (1, 199), (1, 200), (1, 5)), (5, 26, 6, (2, 161), (2, 67), (1, 10)), (9, 67, 1, (1, 39), (1, 40), (1, 3))]
theorem am_nl_ok : am_nl.all (fun z => match vwCl[z.2.2.1]? with
  | some (C, _, N) => decide (z.2.2.1 < 12) && am_hw z.2.2.2.1 (.classLink (am_nm z.1) z.2.1 C) && am_hw z.2.2.2.2.1 (.instantiable C N) && am_hw z.2.2.2.2.2 (.initialized C)
  | none => false) = true := by decide +kernel
theorem am_zip_in {ws : List Cond} {ps : List (Nat × Nat)} (h : (ws.zip ps).all (fun z => am_hw z.2 z.1) = true) (hl : ws.length = ps.length) : ∀ w ∈ ws, w ∈ am_tw := by
  intro w hw
  obtain ⟨n, hn, rfl⟩ := List.getElem_of_mem hw
  have h2 := List.all_eq_true.mp h (ws[n], ps[n]) (by
    rw [← List.getElem_zip (h := by simp [List.length_zip]; omega)]
    exact List.getElem_mem _)
  exact am_hw_in h2
/-- the words of the classes' fields -/
theorem am_uw0 : ((u_ws RX0 TX0 8).zip [(2, 138), (2, 140), (2, 142), (2, 144), (2, 146), (2, 148), (2, 150), (2, 152)]).all (fun z => am_hw z.2 z.1) = true := by decide +kernel
theorem am_ui0 : ∀ w ∈ u_ws RX0 TX0 8, w ∈ am_tw := am_zip_in am_uw0 (by simp [u_ws])
theorem am_uw1 : ((u_ws RX1 TX1 7).zip [(1, 58), (1, 60), (1, 62), (1, 64), (1, 66), (1, 68), (1, 70)]).all (fun z => am_hw z.2 z.1) = true := by decide +kernel
theorem am_ui1 : ∀ w ∈ u_ws RX1 TX1 7, w ∈ am_tw := am_zip_in am_uw1 (by simp [u_ws])
theorem am_uw2 : ((u_ws RX2 TX2 2).zip [(2, 208), (2, 210)]).all (fun z => am_hw z.2 z.1) = true := by decide +kernel
theorem am_ui2 : ∀ w ∈ u_ws RX2 TX2 2, w ∈ am_tw := am_zip_in am_uw2 (by simp [u_ws])
theorem am_uw3 : ((u_ws RX3 TX3 1).zip [(2, 196)]).all (fun z => am_hw z.2 z.1) = true := by decide +kernel
theorem am_ui3 : ∀ w ∈ u_ws RX3 TX3 1, w ∈ am_tw := am_zip_in am_uw3 (by simp [u_ws])
theorem am_uw4 : ((u_ws RX4 TX4 10).zip [(2, 45), (2, 47), (2, 49), (2, 51), (2, 53), (2, 55), (2, 57), (2, 59), (2, 61), (2, 63)]).all (fun z => am_hw z.2 z.1) = true := by decide +kernel
theorem am_ui4 : ∀ w ∈ u_ws RX4 TX4 10, w ∈ am_tw := am_zip_in am_uw4 (by simp [u_ws])
theorem am_uw5 : ((u_ws RX5 TX5 7).zip [(2, 174), (2, 176), (2, 178), (2, 180), (2, 182), (2, 184), (2, 186)]).all (fun z => am_hw z.2 z.1) = true := by decide +kernel
theorem am_ui5 : ∀ w ∈ u_ws RX5 TX5 7, w ∈ am_tw := am_zip_in am_uw5 (by simp [u_ws])
theorem am_uw6 : ((u_ws RX6 TX6 9).zip [(2, 98), (2, 100), (2, 102), (2, 104), (2, 106), (2, 108), (2, 110), (2, 112), (2, 114)]).all (fun z => am_hw z.2 z.1) = true := by decide +kernel
theorem am_ui6 : ∀ w ∈ u_ws RX6 TX6 9, w ∈ am_tw := am_zip_in am_uw6 (by simp [u_ws])
theorem am_uw7 : ((u_ws RX7 TX7 8).zip [(2, 229), (2, 231), (2, 233), (2, 235), (2, 237), (2, 239), (3, 1), (3, 3)]).all (fun z => am_hw z.2 z.1) = true := by decide +kernel
theorem am_ui7 : ∀ w ∈ u_ws RX7 TX7 8, w ∈ am_tw := am_zip_in am_uw7 (by simp [u_ws])
theorem am_uw8 : ((u_ws RX8 TX8 5).zip [(2, 22), (2, 24), (2, 26), (2, 28), (2, 30)]).all (fun z => am_hw z.2 z.1) = true := by decide +kernel
theorem am_ui8 : ∀ w ∈ u_ws RX8 TX8 5, w ∈ am_tw := am_zip_in am_uw8 (by simp [u_ws])
theorem am_uw9 : ((u_ws RX9 TX9 19).zip [(1, 154), (1, 156), (1, 158), (1, 160), (1, 162), (1, 164), (1, 166), (1, 168), (1, 170), (1, 172), (1, 174), (1, 176), (1, 178), (1, 180), (1, 182), (1, 184), (1, 186), (1, 188), (1, 190)]).all (fun z => am_hw z.2 z.1) = true := by decide +kernel
theorem am_ui9 : ∀ w ∈ u_ws RX9 TX9 19, w ∈ am_tw := am_zip_in am_uw9 (by simp [u_ws])
theorem am_uw10 : ((u_ws RX10 TX10 16).zip [(3, 23), (3, 25), (3, 27), (3, 29), (3, 31), (3, 33), (3, 35), (3, 37), (3, 39), (3, 41), (3, 43), (3, 45), (3, 47), (3, 49), (3, 51), (3, 53)]).all (fun z => am_hw z.2 z.1) = true := by decide +kernel
theorem am_ui10 : ∀ w ∈ u_ws RX10 TX10 16, w ∈ am_tw := am_zip_in am_uw10 (by simp [u_ws])
theorem am_uw11 : ((u_ws RX11 TX11 80).zip [(6, 159), (6, 161), (6, 163), (6, 165), (6, 167), (6, 169), (6, 171), (6, 173), (6, 175), (6, 177), (6, 179), (6, 181), (6, 183), (6, 185), (6, 187), (6, 189), (6, 191), (6, 193), (6, 195), (6, 197), (6, 199), (6, 201), (6, 203), (6, 205), (6, 207), (6, 209), (6, 211), (6, 213), (6, 215), (6, 217), (6, 219), (6, 221), (6, 223), (6, 225), (6, 227), (6, 229), (6, 231), (6, 233), (6, 235), (6, 237), (6, 239), (7, 1), (7, 3), (7, 5), (7, 7), (7, 9), (7, 11), (7, 13), (7, 15), (7, 17), (7, 19), (7, 21), (7, 23), (7, 25), (7, 27), (7, 29), (7, 31), (7, 33), (7, 35), (7, 37), (7, 39), (7, 41), (7, 43), (7, 45), (7, 47), (7, 49), (7, 51), (7, 53), (7, 55), (7, 57), (7, 59), (7, 61), (7, 63), (7, 65), (7, 67), (7, 69), (7, 71), (7, 73), (7, 75), (7, 77)]).all (fun z => am_hw z.2 z.1) = true := by decide +kernel
theorem am_ui11 : ∀ w ∈ u_ws RX11 TX11 80, w ∈ am_tw := am_zip_in am_uw11 (by simp [u_ws])
theorem am_w_arrb : Cond.arrayClass .byte ∈ am_tw := am_hw_in (z := (1, 73)) (by decide +kernel)
theorem am_w_arri : Cond.arrayClass .int ∈ am_tw := am_hw_in (z := (1, 74)) (by decide +kernel)
theorem am_w_arrl : Cond.arrayClass .long ∈ am_tw := am_hw_in (z := (1, 75)) (by decide +kernel)
theorem am_w_arrz : Cond.arrayClass .boolean ∈ am_tw := am_hw_in (z := (3, 6)) (by decide +kernel)
theorem am_w_p1s : Cond.static (am_py 1) ∈ am_tw := am_hw_in (z := (4, 126)) (by decide +kernel)
theorem am_w_p1c : Cond.code (am_py 1) Lib.Math.max.code 2 (some .int) ∈ am_tw := am_hw_in (z := (4, 127)) (by decide +kernel)
theorem am_w_p2s : Cond.static (am_py 2) ∈ am_tw := am_hw_in (z := (3, 99)) (by decide +kernel)
theorem am_w_p2c : Cond.code (am_py 2) Lib.Math.min.code 2 (some .int) ∈ am_tw := am_hw_in (z := (3, 100)) (by decide +kernel)
theorem am_w_p3s : Cond.static (am_py 3) ∈ am_tw := am_hw_in (z := (4, 28)) (by decide +kernel)
theorem am_w_p3c : Cond.code (am_py 3) Lib.Math.abs.code 1 (some .int) ∈ am_tw := am_hw_in (z := (4, 29)) (by decide +kernel)
theorem am_w_p4s : Cond.static (am_py 4) ∈ am_tw := am_hw_in (z := (4, 98)) (by decide +kernel)
theorem am_w_p4c : Cond.code (am_py 4) Lib.MathLoose.max_long.code 4 (some .long) ∈ am_tw := am_hw_in (z := (4, 99)) (by decide +kernel)
theorem am_w_p5s : Cond.static (am_py 5) ∈ am_tw := am_hw_in (z := (4, 95)) (by decide +kernel)
theorem am_w_p5c : Cond.code (am_py 5) Lib.MathLoose.min_long.code 4 (some .long) ∈ am_tw := am_hw_in (z := (4, 96)) (by decide +kernel)
theorem am_w_p6s : Cond.static (am_py 6) ∈ am_tw := am_hw_in (z := (4, 87)) (by decide +kernel)
theorem am_w_p6c : Cond.code (am_py 6) Lib.MathLoose.abs_long.code 2 (some .long) ∈ am_tw := am_hw_in (z := (4, 88)) (by decide +kernel)
theorem am_w_p7n : Cond.native arraycopyName ∈ am_tw := am_hw_in (z := (3, 232)) (by decide +kernel)
theorem am_w_p7s : Cond.static arraycopyName ∈ am_tw := am_hw_in (z := (3, 231)) (by decide +kernel)
theorem am_w_p7i : Cond.initialized "java/lang/System" ∈ am_tw := am_hw_in (z := (1, 19)) (by decide +kernel)
theorem am_w_p8i : Cond.instanceMethod Lib.objectInit ∈ am_tw := am_hw_in (z := (1, 31)) (by decide +kernel)
theorem am_w_p8c : Cond.code Lib.objectInit ⟨#[0xb1]⟩ 1 none ∈ am_tw := am_hw_in (z := (1, 32)) (by decide +kernel)
theorem am_w_math : Cond.initialized "java/lang/Math" ∈ am_tw := am_hw_in (z := (1, 17)) (by decide +kernel)
/-- what stands of a method's words -/
def am_okm (j : Nat) : Prop := Cond.code (am_y j) (am_c j) (am_mx j) (am_r j) ∈ am_tw ∧ Cond.initialized (am_y j).cls ∈ am_tw ∧ (am_kn j = 1 → Cond.static (am_y j) ∈ am_tw) ∧ (am_kn j ≠ 1 → Cond.instanceMethod (am_y j) ∈ am_tw) ∧ (am_kn j = 0 → Cond.selects (am_y j).cls (am_y j) (am_y j) ∈ am_tw) ∧
  ((am_y j).cls ≠ "java/lang/invoke/MethodHandle" ∧ (am_y j).cls ≠ "java/lang/invoke/VarHandle" ∧ (parseMethodDescriptor (am_y j).desc).map (fun d => d.parameters.length) = some (am_np j)) ∧ plainName (am_y j).cls = true ∧ (am_kn j = 2 → (am_y j).name = "<init>" ∧ am_r j = none) ∧ am_mx j ≤ 40 ∧ am_nm (am_k j) = (am_y j).cls
