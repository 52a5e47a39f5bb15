section XUv
theorem fNewU_at {N : XM} {p n g c v m : Int} (hm : N 1 0 0 10 = m) (w s : Int) : fNewU N 0 p n g c v 14 0 w s = if w = m ∧ 1 ≤ s ∧ s ≤ 5 then nv p n g c v s else N 14 0 w s := by
  unfold fNewU
  rw [hm]
  simp only [xup_app, true_and, Nat.reduceEqDiff, false_and, if_false]
  by_cases e : w = m
  · subst e
    simp only [true_and]
    by_cases e5 : s = 5
    · subst e5; simp [nv]
    · by_cases e4 : s = 4
      · subst e4; simp [nv]
      · by_cases e3 : s = 3
        · subst e3; simp [nv]
        · by_cases e2 : s = 2
          · subst e2; simp [nv]
          · by_cases e1 : s = 1
            · subst e1; simp [nv]
            · rw [if_neg e5, if_neg e4, if_neg e3, if_neg e2, if_neg e1, if_neg (by omega)]
  · simp only [e, false_and, if_false]
theorem fNewU_o {N : XM} {p n g c v : Int} {t : Nat} (h1 : ¬ t = 14) (h2 : ¬ t = 1) : fNewU N 0 p n g c v t = N t := by
  unfold fNewU
  rw [xup_tag h2, xup_tag h1, xup_tag h1, xup_tag h1, xup_tag h1, xup_tag h1]
theorem fNewU_1 {N : XM} {p n g c v m : Int} (hm : N 1 0 0 10 = m) (j s : Int) : fNewU N 0 p n g c v 1 0 j s = if j = 0 ∧ s = 10 then m + 1 else N 1 0 j s := by
  unfold fNewU
  rw [hm]
  simp only [xup_app, true_and, Nat.reduceEqDiff, false_and, if_false]
theorem uLeave_at (N : XM) (u st v s : Int) : uLeave N 0 u st 14 0 v s = if v = u then (if s = 0 then st else if s = 2 ∨ s = 3 ∨ s = 6 ∨ s = 7 then 0 else if s = 8 then -1 else N 14 0 u s) else N 14 0 v s := by
  unfold uLeave
  simp only [xup_app, true_and]
  by_cases e : v = u
  · subst e
    simp only [true_and]
    by_cases e8 : s = 8
    · subst e8; simp
    · by_cases e7 : s = 7
      · subst e7; simp
      · by_cases e6 : s = 6
        · subst e6; simp
        · by_cases e3 : s = 3
          · subst e3; simp
          · by_cases e2 : s = 2
            · subst e2; simp
            · by_cases e0 : s = 0
              · subst e0; simp
              · simp [e8, e7, e6, e3, e2, e0]
  · simp only [e, false_and, if_false]
theorem uLeave_o {N : XM} {u st : Int} {t : Nat} (h1 : ¬ t = 14) : uLeave N 0 u st t = N t := by
  unfold uLeave
  rw [xup_tag h1, xup_tag h1, xup_tag h1, xup_tag h1, xup_tag h1, xup_tag h1]
theorem uTake_at {N : XM} {k k2 : Int} (hk : ¬ k2 = k) (v s : Int) : uTake N 0 k 0 k2 14 0 v s = if v = k then (if s = 2 ∨ s = 3 ∨ s = 6 ∨ s = 7 then N 14 0 k s + N 14 0 k2 s else if s = 8 then uSince (N 14 0 k 8) (N 14 0 k2 8) else N 14 0 k s) else N 14 0 v s := by
  unfold uTake
  simp only [xup_app, true_and]
  by_cases e : v = k
  · subst e
    simp only [true_and]
    by_cases e8 : s = 8
    · subst e8; simp
    · by_cases e7 : s = 7
      · subst e7; simp
      · by_cases e6 : s = 6
        · subst e6; simp
        · by_cases e3 : s = 3
          · subst e3; simp
          · by_cases e2 : s = 2
            · subst e2; simp
            · simp [e8, e7, e6, e3, e2]
  · simp only [e, false_and, if_false]
theorem uTake_o {N : XM} {k k2 : Int} {t : Nat} (h1 : ¬ t = 14) : uTake N 0 k 0 k2 t = N t := by
  unfold uTake
  rw [xup_tag h1, xup_tag h1, xup_tag h1, xup_tag h1, xup_tag h1]
theorem uv_addUnit {p n g c v : Int} {M : XM} {Q : XPo} (hK : KI M) (hp : 0 ≤ p ∧ p < M 1 0 0 3) (p8 : p < 8) (hn : 1 ≤ n ∧ n ≤ 300) (hg : 0 ≤ g ∧ g ≤ n) (hc : 1 ≤ c ∧ c ≤ 600) (hv : 30 ≤ v ∧ v ≤ 600) (h12 : ¬ 12 ≤ M 1 0 0 10) (h : Q [xI (M 1 0 0 10)] (fNewU (fKeep M) 0 p n g (M 1 0 0 0 + c) v)) : sX7_addUnit [xR 0 0 0, xI p, xI n, xI g, xI c, xI v] M Q := ⟨⟨rfl, xvz_0⟩, hK, ⟨by omega, by omega⟩, ⟨by omega, by omega⟩, ⟨by omega, by omega⟩, ⟨by omega, by omega⟩, ⟨by omega, by omega⟩, hp, hn, hg, hc, hv, h12, h⟩
theorem uv_move {u p : Int} {M : XM} {Q : XPo} (hK : KI M) (hu : 0 ≤ u ∧ u < M 1 0 0 10) (u12 : u < 12) (hp : 0 ≤ p ∧ p < M 1 0 0 3) (p8 : p < 8) (hz : M 14 0 u 0 = 0) (h : Q [xI (M 14 0 u 1)] (xup (fKeep M) 14 0 u 1 p)) : sX7_move [xR 0 0 0, xI u, xI p] M Q := ⟨⟨rfl, xvz_0⟩, hK, ⟨by omega, by omega⟩, ⟨by omega, by omega⟩, hu, hp, hz, h⟩
theorem uv_wrap {u : Int} {M : XM} {Q : XPo} (hK : KI M) (hu : 0 ≤ u ∧ u < M 1 0 0 10) (u12 : u < 12) (hz : M 14 0 u 0 = 0) (h : Q [xI (M 14 0 u 6 + M 14 0 u 7)] (uLeave (xup (fKeep M) 14 0 u 11 (M 14 0 u 6 + M 14 0 u 7)) 0 u 1)) : sX7_wrap [xR 0 0 0, xI u] M Q := ⟨⟨rfl, xvz_0⟩, hK, ⟨by omega, by omega⟩, hu, hz, h⟩
theorem uv_split {u n g : Int} {M : XM} {Q : XPo} (hK : KI M) (hu : 0 ≤ u ∧ u < M 1 0 0 10) (u12 : u < 12) (hn : 1 ≤ n ∧ n ≤ 299) (hg : 0 ≤ g ∧ g ≤ n) (hz : M 14 0 u 0 = 0 ∧ ¬ 12 ≤ M 1 0 0 10) (h2 : ¬ M 14 0 u 2 ≤ n ∧ ¬ M 14 0 u 3 < g) (h3 : ¬ M 14 0 u 2 - M 14 0 u 3 < n - g) (h : Q [xI (M 1 0 0 10)] (fNewU (xup (xup (fKeep M) 14 0 u 2 (M 14 0 u 2 - n)) 14 0 u 3 (M 14 0 u 3 - g)) 0 (M 14 0 u 1) n g (M 14 0 u 4) (M 14 0 u 5))) : sX7_split [xR 0 0 0, xI u, xI n, xI g] M Q := ⟨⟨rfl, xvz_0⟩, hK, ⟨by omega, by omega⟩, ⟨by omega, by omega⟩, ⟨by omega, by omega⟩, hu, hn, hg, hz, h2, h3, h⟩
theorem uv_join {u w : Int} {M : XM} {Q : XPo} (hK : KI M) (hu : 0 ≤ u ∧ u < M 1 0 0 10) (hw : 0 ≤ w ∧ w < M 1 0 0 10) (u12 : u < 12 ∧ w < 12) (hne : ¬ u = w) (hz : M 14 0 u 0 = 0 ∧ M 14 0 w 0 = 0) (h2 : M 14 0 u 1 = M 14 0 w 1 ∧ ¬ 300 < M 14 0 u 2 + M 14 0 w 2) (h : Q [xI (M 14 0 w 2 + M 14 0 u 2)] (uLeave (uTake (fKeep M) 0 w 0 u) 0 u 2)) : sX7_join [xR 0 0 0, xI u, xI w] M Q := ⟨⟨rfl, xvz_0⟩, hK, ⟨by omega, by omega⟩, ⟨by omega, by omega⟩, hu, hw, hne, hz, h2, h⟩
/-- UnitKitchensLaw.units(LUnitKitchens;II[I[I)Z -/
abbrev wL_units : List Cond := Cond.code yL_units cL_units 12 (some .boolean) :: xT
abbrev rL_units : Room := { frames := 6, cells := 0, slots := 0, locals := 150 }
def pL_units (Post : XPo) : List (Nat × XStp) := [(0, j_ild 1 1), (1, j_c 9 2), (3, j_Sn 2 sL_at), (6, j_ist 5 2), (8, j_ald 3 1), (9, j_c 3 1), (10, j_iald), (11, j_c 1 1), (12, j_ilt 28), (15, j_ild 5 2), (17, j_c 2 1), (18, j_ige 227), (21, j_ald 3 1), (22, j_c 3 1), (23, j_iald), (24, j_c 5 1), (25, j_ige 227), (28, j_c 12 2), (30, j_ald 3 1), (31, j_c 3 1), (32, j_dup2), (33, j_iald), (34, j_dupx2), (35, j_c 1 1), (36, j_add), (37, j_iast), (38, j_mul), (39, j_ist 6 2), (41, j_c 0 1), (42, j_ist 7 2), (44, j_ild 7 2), (46, j_c 12 2), (48, j_ige 66), (51, j_ald 4 2), (53, j_ild 6 2), (55, j_ild 7 2), (57, j_add), (58, j_c 0 1), (59, j_iast), (60, j_inc 7 1), (63, j_goto 44), (66, j_ald 4 2), (68, j_ild 6 2), (70, j_c 1 1), (71, j_add), (72, j_ild 2 1), (73, j_ald 3 1), (74, j_c 0 1), (75, j_iald), (76, j_Sn 2 sL_at), (79, j_iast), (80, j_ald 4 2), (82, j_ild 6 2), (84, j_c 2 1), (85, j_add), (86, j_c 1 1), (87, j_ild 2 1), (88, j_c 3 1), (89, j_shr), (90, j_c 30 2), (92, j_Sn 2 sL_at), (95, j_add), (96, j_iast), (97, j_ald 4 2), (99, j_ild 6 2), (101, j_c 3 1), (102, j_add), (103, j_ild 2 1), (104, j_c 8 2), (106, j_shr), (107, j_ald 4 2), (109, j_ild 6 2), (111, j_c 2 1), (112, j_add), (113, j_iald), (114, j_c 1 1), (115, j_add), (116, j_Sn 2 sL_at), (119, j_iast), (120, j_ald 4 2), (122, j_ild 6 2), (124, j_c 4 1), (125, j_add), (126, j_ald 3 1), (127, j_c 4 1), (128, j_iald), (129, j_c 1 1), (130, j_add), (131, j_ild 2 1), (132, j_c 13 2), (134, j_shr), (135, j_c 20 2), (137, j_Sn 2 sL_at), (140, j_add), (141, j_iast), (142, j_ald 4 2), (144, j_ild 6 2), (146, j_c 5 1), (147, j_add), (148, j_c 30 2), (150, j_ild 2 1), (151, j_c 17 2), (153, j_shr), (154, j_c 20 2), (156, j_Sn 2 sL_at), (159, j_add), (160, j_iast), (161, j_ald 4 2), (163, j_ild 6 2), (165, j_c 8 2), (167, j_add), (168, j_c (-1) 1), (169, j_iast), (170, j_ald 0 1), (171, j_ald 4 2), (173, j_ild 6 2), (175, j_c 1 1), (176, j_add), (177, j_iald), (178, j_ald 4 2), (180, j_ild 6 2), (182, j_c 2 1), (183, j_add), (184, j_iald), (185, j_ald 4 2), (187, j_ild 6 2), (189, j_c 3 1), (190, j_add), (191, j_iald), (192, j_ald 4 2), (194, j_ild 6 2), (196, j_c 4 1), (197, j_add), (198, j_iald), (199, j_ald 3 1), (200, j_c 4 1), (201, j_iald), (202, j_sub), (203, j_ald 4 2), (205, j_ild 6 2), (207, j_c 5 1), (208, j_add), (209, j_iald), (210, j_V5 0 sX7_addUnit), (213, j_ild 6 2), (215, j_c 12 2), (217, j_div), (218, j_ine 225), (221, j_c 1 1), (222, j_goto 226), (225, j_c 0 1), (226, j_zret Post), (227, j_c 12 2), (229, j_ild 2 1), (230, j_ald 3 1), (231, j_c 3 1), (232, j_iald), (233, j_Sn 2 sL_at), (236, j_mul), (237, j_ist 6 2), (239, j_c 12 2), (241, j_ild 2 1), (242, j_c 3 1), (243, j_shr), (244, j_ald 3 1), (245, j_c 3 1), (246, j_iald), (247, j_Sn 2 sL_at), (250, j_mul), (251, j_ist 7 2), (253, j_ald 4 2), (255, j_ild 6 2), (257, j_iald), (258, j_eq 263), (261, j_c 1 1), (262, j_zret Post), (263, j_ild 5 2), (265, j_c 4 1), (266, j_ige 322), (269, j_ald 4 2), (271, j_ild 6 2), (273, j_c 1 1), (274, j_add), (275, j_iald), (276, j_ist 8 2), (278, j_ald 4 2), (280, j_ild 6 2), (282, j_c 1 1), (283, j_add), (284, j_ild 2 1), (285, j_c 6 2), (287, j_shr), (288, j_ald 3 1), (289, j_c 0 1), (290, j_iald), (291, j_Sn 2 sL_at), (294, j_iast), (295, j_ald 0 1), (296, j_ild 6 2), (298, j_c 12 2), (300, j_div), (301, j_ald 4 2), (303, j_ild 6 2), (305, j_c 1 1), (306, j_add), (307, j_iald), (308, j_V2 0 sX7_move), (311, j_ild 8 2), (313, j_ine 320), (316, j_c 1 1), (317, j_goto 321), (320, j_c 0 1), (321, j_zret Post), (322, j_ild 5 2), (324, j_c 6 2), (326, j_ige 556), (329, j_c 1 1), (330, j_ild 2 1), (331, j_c 6 2), (333, j_shr), (334, j_c 20 2), (336, j_Sn 2 sL_at), (339, j_add), (340, j_ist 8 2), (342, j_ild 2 1), (343, j_c 11 2), (345, j_shr), (346, j_ild 8 2), (348, j_c 1 1), (349, j_add), (350, j_Sn 2 sL_at), (353, j_ist 9 2), (355, j_ald 3 1), (356, j_c 3 1), (357, j_iald), (358, j_c 5 1), (359, j_ieq 409), (362, j_ald 4 2), (364, j_ild 6 2), (366, j_c 2 1), (367, j_add), (368, j_iald), (369, j_ild 8 2), (371, j_ile 409), (374, j_ald 4 2), (376, j_ild 6 2), (378, j_c 3 1), (379, j_add), (380, j_iald), (381, j_ild 9 2), (383, j_ilt 409), (386, j_ald 4 2), (388, j_ild 6 2), (390, j_c 2 1), (391, j_add), (392, j_iald), (393, j_ald 4 2), (395, j_ild 6 2), (397, j_c 3 1), (398, j_add), (399, j_iald), (400, j_sub), (401, j_ild 8 2), (403, j_ild 9 2), (405, j_sub), (406, j_ige 411), (409, j_c 1 1), (410, j_zret Post), (411, j_c 12 2), (413, j_ald 3 1), (414, j_c 3 1), (415, j_dup2), (416, j_iald), (417, j_dupx2), (418, j_c 1 1), (419, j_add), (420, j_iast), (421, j_mul), (422, j_ist 10 2), (424, j_c 0 1), (425, j_ist 11 2), (427, j_ild 11 2), (429, j_c 12 2), (431, j_ige 478), (434, j_ald 4 2), (436, j_ild 10 2), (438, j_ild 11 2), (440, j_add), (441, j_ild 11 2), (443, j_c 1 1), (444, j_ieq 459), (447, j_ild 11 2), (449, j_c 4 1), (450, j_ieq 459), (453, j_ild 11 2), (455, j_c 5 1), (456, j_ine 470), (459, j_ald 4 2), (461, j_ild 6 2), (463, j_ild 11 2), (465, j_add), (466, j_iald), (467, j_goto 471), (470, j_c 0 1), (471, j_iast), (472, j_inc 11 1), (475, j_goto 427), (478, j_ald 4 2), (480, j_ild 10 2), (482, j_c 2 1), (483, j_add), (484, j_ild 8 2), (486, j_iast), (487, j_ald 4 2), (489, j_ild 10 2), (491, j_c 3 1), (492, j_add), (493, j_ild 9 2), (495, j_iast), (496, j_ald 4 2), (498, j_ild 10 2), (500, j_c 8 2), (502, j_add), (503, j_c (-1) 1), (504, j_iast), (505, j_ald 4 2), (507, j_ild 6 2), (509, j_c 2 1), (510, j_add), (511, j_dup2), (512, j_iald), (513, j_ild 8 2), (515, j_sub), (516, j_iast), (517, j_ald 4 2), (519, j_ild 6 2), (521, j_c 3 1), (522, j_add), (523, j_dup2), (524, j_iald), (525, j_ild 9 2), (527, j_sub), (528, j_iast), (529, j_ald 0 1), (530, j_ild 6 2), (532, j_c 12 2), (534, j_div), (535, j_ild 8 2), (537, j_ild 9 2), (539, j_V3 0 sX7_split), (542, j_ild 10 2), (544, j_c 12 2), (546, j_div), (547, j_ine 554), (550, j_c 1 1), (551, j_goto 555), (554, j_c 0 1), (555, j_zret Post), (556, j_ild 5 2), (558, j_c 8 2), (560, j_ige 775), (563, j_ild 6 2), (565, j_ild 7 2), (567, j_ieq 616), (570, j_ald 4 2), (572, j_ild 7 2), (574, j_iald), (575, j_ne 616), (578, j_ald 4 2), (580, j_ild 6 2), (582, j_c 1 1), (583, j_add), (584, j_iald), (585, j_ald 4 2), (587, j_ild 7 2), (589, j_c 1 1), (590, j_add), (591, j_iald), (592, j_ine 616), (595, j_ald 4 2), (597, j_ild 6 2), (599, j_c 2 1), (600, j_add), (601, j_iald), (602, j_ald 4 2), (604, j_ild 7 2), (606, j_c 2 1), (607, j_add), (608, j_iald), (609, j_add), (610, j_c 300 3), (613, j_ile 618), (616, j_c 1 1), (617, j_zret Post), (618, j_ald 4 2), (620, j_ild 7 2), (622, j_c 8 2), (624, j_add), (625, j_iald), (626, j_lt 659), (629, j_ald 4 2), (631, j_ild 6 2), (633, j_c 8 2), (635, j_add), (636, j_iald), (637, j_lt 675), (640, j_ald 4 2), (642, j_ild 6 2), (644, j_c 8 2), (646, j_add), (647, j_iald), (648, j_ald 4 2), (650, j_ild 7 2), (652, j_c 8 2), (654, j_add), (655, j_iald), (656, j_ige 675), (659, j_ald 4 2), (661, j_ild 7 2), (663, j_c 8 2), (665, j_add), (666, j_ald 4 2), (668, j_ild 6 2), (670, j_c 8 2), (672, j_add), (673, j_iald), (674, j_iast), (675, j_c 0 1), (676, j_ist 8 2), (678, j_ild 8 2), (680, j_c 4 1), (681, j_ige 739), (684, j_ald 4 2), (686, j_ild 7 2), (688, j_ild 8 2), (690, j_c 2 1), (691, j_ige 701), (694, j_c 2 1), (695, j_ild 8 2), (697, j_add), (698, j_goto 705), (701, j_c 4 1), (702, j_ild 8 2), (704, j_add), (705, j_add), (706, j_dup2), (707, j_iald), (708, j_ald 4 2), (710, j_ild 6 2), (712, j_ild 8 2), (714, j_c 2 1), (715, j_ige 725), (718, j_c 2 1), (719, j_ild 8 2), (721, j_add), (722, j_goto 729), (725, j_c 4 1), (726, j_ild 8 2), (728, j_add), (729, j_add), (730, j_iald), (731, j_add), (732, j_iast), (733, j_inc 8 1), (736, j_goto 678), (739, j_ald 4 2), (741, j_ild 6 2), (743, j_c 2 1), (744, j_iast), (745, j_ald 0 1), (746, j_ild 6 2), (748, j_c 12 2), (750, j_div), (751, j_ild 7 2), (753, j_c 12 2), (755, j_div), (756, j_V2 0 sX7_join), (759, j_ald 4 2), (761, j_ild 7 2), (763, j_c 2 1), (764, j_add), (765, j_iald), (766, j_ine 773), (769, j_c 1 1), (770, j_goto 774), (773, j_c 0 1), (774, j_zret Post), (775, j_ald 4 2), (777, j_ild 6 2), (779, j_c 6 2), (781, j_add), (782, j_iald), (783, j_ald 4 2), (785, j_ild 6 2), (787, j_c 7 2), (789, j_add), (790, j_iald), (791, j_add), (792, j_ist 8 2), (794, j_ald 4 2), (796, j_ild 6 2), (798, j_c 1 1), (799, j_iast), (800, j_ald 4 2), (802, j_ild 6 2), (804, j_c 11 2), (806, j_add), (807, j_ild 8 2), (809, j_iast), (810, j_ald 3 1), (811, j_c 17 2), (813, j_dup2), (814, j_iald), (815, j_ild 8 2), (817, j_add), (818, j_iast), (819, j_ald 0 1), (820, j_ild 6 2), (822, j_c 12 2), (824, j_div), (825, j_V1 0 sX7_wrap), (828, j_ild 8 2), (830, j_ine 837), (833, j_c 1 1), (834, j_goto 838), (837, j_c 0 1), (838, j_zret Post)]
set_option maxRecDepth 100000 in
theorem aL_units (Post : XPo) : XAll rL_units cL_units 12 RL wL_units (some .boolean) Post (pL_units Post) := XAll.cons (xs_iload_n dL_units_0 rfl) (XAll.cons (xs_bipush dL_units_1 rfl) (XAll.cons (xs_Sn kL_at ⟨⟨rfl, rfl, by decide, by decide⟩, ⟨by decide, by decide, by decide +kernel⟩, tw_567, tw_568, tw_0, tw_569⟩ dL_units_3) (XAll.cons (xs_istore dL_units_6 (by decide)) (XAll.cons (xs_aload_n dL_units_8 rfl) (XAll.cons (xs_iconst dL_units_9) (XAll.cons (xs_iald dL_units_10) (XAll.cons (xs_iconst dL_units_11) (XAll.cons (xs_icmp_lt dL_units_12 (by decide)) (XAll.cons (xs_iload dL_units_15) (XAll.cons (xs_iconst dL_units_17) (XAll.cons (xs_icmp_ge dL_units_18 (by decide)) (XAll.cons (xs_aload_n dL_units_21 rfl) (XAll.cons (xs_iconst dL_units_22) (XAll.cons (xs_iald dL_units_23) (XAll.cons (xs_iconst dL_units_24) (XAll.cons (xs_icmp_ge dL_units_25 (by decide)) (XAll.cons (xs_bipush dL_units_28 rfl) (XAll.cons (xs_aload_n dL_units_30 rfl) (XAll.cons (xs_iconst dL_units_31) (XAll.cons (xs_dup2 dL_units_32) (XAll.cons (xs_iald dL_units_33) (XAll.cons (xs_dupx2 dL_units_34) (XAll.cons (xs_iconst dL_units_35) (XAll.cons (xs_iadd dL_units_36) (XAll.cons (xs_iast dL_units_37) (XAll.cons (xs_imul dL_units_38) (XAll.cons (xs_istore dL_units_39 (by decide)) (XAll.cons (xs_iconst dL_units_41) (XAll.cons (xs_istore dL_units_42 (by decide)) (XAll.cons (xs_iload dL_units_44) (XAll.cons (xs_bipush dL_units_46 rfl) (XAll.cons (xs_icmp_ge dL_units_48 (by decide)) (XAll.cons (xs_aload dL_units_51) (XAll.cons (xs_iload dL_units_53) (XAll.cons (xs_iload dL_units_55) (XAll.cons (xs_iadd dL_units_57) (XAll.cons (xs_iconst dL_units_58) (XAll.cons (xs_iast dL_units_59) (XAll.cons (xs_iinc dL_units_60 (by decide)) (XAll.cons (xs_goto dL_units_63 (by decide)) (XAll.cons (xs_aload dL_units_66) (XAll.cons (xs_iload dL_units_68) (XAll.cons (xs_iconst dL_units_70) (XAll.cons (xs_iadd dL_units_71) (XAll.cons (xs_iload_n dL_units_72 rfl) (XAll.cons (xs_aload_n dL_units_73 rfl) (XAll.cons (xs_iconst dL_units_74) (XAll.cons (xs_iald dL_units_75) (XAll.cons (xs_Sn kL_at ⟨⟨rfl, rfl, by decide, by decide⟩, ⟨by decide, by decide, by decide +kernel⟩, tw_567, tw_568, tw_0, tw_569⟩ dL_units_76) (XAll.cons (xs_iast dL_units_79) (XAll.cons (xs_aload dL_units_80) (XAll.cons (xs_iload dL_units_82) (XAll.cons (xs_iconst dL_units_84) (XAll.cons (xs_iadd dL_units_85) (XAll.cons (xs_iconst dL_units_86) (XAll.cons (xs_iload_n dL_units_87 rfl) (XAll.cons (xs_iconst dL_units_88) (XAll.cons (xs_ishr dL_units_89) (XAll.cons (xs_bipush dL_units_90 rfl) (XAll.cons (xs_Sn kL_at ⟨⟨rfl, rfl, by decide, by decide⟩, ⟨by decide, by decide, by decide +kernel⟩, tw_567, tw_568, tw_0, tw_569⟩ dL_units_92) (XAll.cons (xs_iadd dL_units_95) (XAll.cons (xs_iast dL_units_96) (XAll.cons (xs_aload dL_units_97) (XAll.cons (xs_iload dL_units_99) (XAll.cons (xs_iconst dL_units_101) (XAll.cons (xs_iadd dL_units_102) (XAll.cons (xs_iload_n dL_units_103 rfl) (XAll.cons (xs_bipush dL_units_104 rfl) (XAll.cons (xs_ishr dL_units_106) (XAll.cons (xs_aload dL_units_107) (XAll.cons (xs_iload dL_units_109) (XAll.cons (xs_iconst dL_units_111) (XAll.cons (xs_iadd dL_units_112) (XAll.cons (xs_iald dL_units_113) (XAll.cons (xs_iconst dL_units_114) (XAll.cons (xs_iadd dL_units_115) (XAll.cons (xs_Sn kL_at ⟨⟨rfl, rfl, by decide, by decide⟩, ⟨by decide, by decide, by decide +kernel⟩, tw_567, tw_568, tw_0, tw_569⟩ dL_units_116) (XAll.cons (xs_iast dL_units_119) (XAll.cons (xs_aload dL_units_120) (XAll.cons (xs_iload dL_units_122) (XAll.cons (xs_iconst dL_units_124) (XAll.cons (xs_iadd dL_units_125) (XAll.cons (xs_aload_n dL_units_126 rfl) (XAll.cons (xs_iconst dL_units_127) (XAll.cons (xs_iald dL_units_128) (XAll.cons (xs_iconst dL_units_129) (XAll.cons (xs_iadd dL_units_130) (XAll.cons (xs_iload_n dL_units_131 rfl) (XAll.cons (xs_bipush dL_units_132 rfl) (XAll.cons (xs_ishr dL_units_134) (XAll.cons (xs_bipush dL_units_135 rfl) (XAll.cons (xs_Sn kL_at ⟨⟨rfl, rfl, by decide, by decide⟩, ⟨by decide, by decide, by decide +kernel⟩, tw_567, tw_568, tw_0, tw_569⟩ dL_units_137) (XAll.cons (xs_iadd dL_units_140) (XAll.cons (xs_iast dL_units_141) (XAll.cons (xs_aload dL_units_142) (XAll.cons (xs_iload dL_units_144) (XAll.cons (xs_iconst dL_units_146) (XAll.cons (xs_iadd dL_units_147) (XAll.cons (xs_bipush dL_units_148 rfl) (XAll.cons (xs_iload_n dL_units_150 rfl) (XAll.cons (xs_bipush dL_units_151 rfl) (XAll.cons (xs_ishr dL_units_153) (XAll.cons (xs_bipush dL_units_154 rfl) (XAll.cons (xs_Sn kL_at ⟨⟨rfl, rfl, by decide, by decide⟩, ⟨by decide, by decide, by decide +kernel⟩, tw_567, tw_568, tw_0, tw_569⟩ dL_units_156) (XAll.cons (xs_iadd dL_units_159) (XAll.cons (xs_iast dL_units_160) (XAll.cons (xs_aload dL_units_161) (XAll.cons (xs_iload dL_units_163) (XAll.cons (xs_bipush dL_units_165 rfl) (XAll.cons (xs_iadd dL_units_167) (XAll.cons (xs_iconst dL_units_168) (XAll.cons (xs_iast dL_units_169) (XAll.cons (xs_aload_n dL_units_170 rfl) (XAll.cons (xs_aload dL_units_171) (XAll.cons (xs_iload dL_units_173) (XAll.cons (xs_iconst dL_units_175) (XAll.cons (xs_iadd dL_units_176) (XAll.cons (xs_iald dL_units_177) (XAll.cons (xs_aload dL_units_178) (XAll.cons (xs_iload dL_units_180) (XAll.cons (xs_iconst dL_units_182) (XAll.cons (xs_iadd dL_units_183) (XAll.cons (xs_iald dL_units_184) (XAll.cons (xs_aload dL_units_185) (XAll.cons (xs_iload dL_units_187) (XAll.cons (xs_iconst dL_units_189) (XAll.cons (xs_iadd dL_units_190) (XAll.cons (xs_iald dL_units_191) (XAll.cons (xs_aload dL_units_192) (XAll.cons (xs_iload dL_units_194) (XAll.cons (xs_iconst dL_units_196) (XAll.cons (xs_iadd dL_units_197) (XAll.cons (xs_iald dL_units_198) (XAll.cons (xs_aload_n dL_units_199 rfl) (XAll.cons (xs_iconst dL_units_200) (XAll.cons (xs_iald dL_units_201) (XAll.cons (xs_isub dL_units_202) (XAll.cons (xs_aload dL_units_203) (XAll.cons (xs_iload dL_units_205) (XAll.cons (xs_iconst dL_units_207) (XAll.cons (xs_iadd dL_units_208) (XAll.cons (xs_iald dL_units_209) (XAll.cons (xs_V5 kX7_addUnit ⟨⟨rfl, rfl, by decide, by decide⟩, ⟨by decide, by decide, by decide +kernel⟩, ⟨tw_666, tw_667, tw_668, tw_1, tw_669⟩, 7, TX7, _, rfl, fun G ρ f i k => ⟨_, rfl⟩⟩ dL_units_210) (XAll.cons (xs_iload dL_units_213) (XAll.cons (xs_bipush dL_units_215 rfl) (XAll.cons (xs_idiv dL_units_217) (XAll.cons (xs_icmp_ne dL_units_218 (by decide)) (XAll.cons (xs_iconst dL_units_221) (XAll.cons (xs_goto dL_units_222 (by decide)) (XAll.cons (xs_iconst dL_units_225) (XAll.cons (xs_zret rfl dL_units_226) (XAll.cons (xs_bipush dL_units_227 rfl) (XAll.cons (xs_iload_n dL_units_229 rfl) (XAll.cons (xs_aload_n dL_units_230 rfl) (XAll.cons (xs_iconst dL_units_231) (XAll.cons (xs_iald dL_units_232) (XAll.cons (xs_Sn kL_at ⟨⟨rfl, rfl, by decide, by decide⟩, ⟨by decide, by decide, by decide +kernel⟩, tw_567, tw_568, tw_0, tw_569⟩ dL_units_233) (XAll.cons (xs_imul dL_units_236) (XAll.cons (xs_istore dL_units_237 (by decide)) (XAll.cons (xs_bipush dL_units_239 rfl) (XAll.cons (xs_iload_n dL_units_241 rfl) (XAll.cons (xs_iconst dL_units_242) (XAll.cons (xs_ishr dL_units_243) (XAll.cons (xs_aload_n dL_units_244 rfl) (XAll.cons (xs_iconst dL_units_245) (XAll.cons (xs_iald dL_units_246) (XAll.cons (xs_Sn kL_at ⟨⟨rfl, rfl, by decide, by decide⟩, ⟨by decide, by decide, by decide +kernel⟩, tw_567, tw_568, tw_0, tw_569⟩ dL_units_247) (XAll.cons (xs_imul dL_units_250) (XAll.cons (xs_istore dL_units_251 (by decide)) (XAll.cons (xs_aload dL_units_253) (XAll.cons (xs_iload dL_units_255) (XAll.cons (xs_iald dL_units_257) (XAll.cons (xs_if_eq dL_units_258 (by decide)) (XAll.cons (xs_iconst dL_units_261) (XAll.cons (xs_zret rfl dL_units_262) (XAll.cons (xs_iload dL_units_263) (XAll.cons (xs_iconst dL_units_265) (XAll.cons (xs_icmp_ge dL_units_266 (by decide)) (XAll.cons (xs_aload dL_units_269) (XAll.cons (xs_iload dL_units_271) (XAll.cons (xs_iconst dL_units_273) (XAll.cons (xs_iadd dL_units_274) (XAll.cons (xs_iald dL_units_275) (XAll.cons (xs_istore dL_units_276 (by decide)) (XAll.cons (xs_aload dL_units_278) (XAll.cons (xs_iload dL_units_280) (XAll.cons (xs_iconst dL_units_282) (XAll.cons (xs_iadd dL_units_283) (XAll.cons (xs_iload_n dL_units_284 rfl) (XAll.cons (xs_bipush dL_units_285 rfl) (XAll.cons (xs_ishr dL_units_287) (XAll.cons (xs_aload_n dL_units_288 rfl) (XAll.cons (xs_iconst dL_units_289) (XAll.cons (xs_iald dL_units_290) (XAll.cons (xs_Sn kL_at ⟨⟨rfl, rfl, by decide, by decide⟩, ⟨by decide, by decide, by decide +kernel⟩, tw_567, tw_568, tw_0, tw_569⟩ dL_units_291) (XAll.cons (xs_iast dL_units_294) (XAll.cons (xs_aload_n dL_units_295 rfl) (XAll.cons (xs_iload dL_units_296) (XAll.cons (xs_bipush dL_units_298 rfl) (XAll.cons (xs_idiv dL_units_300) (XAll.cons (xs_aload dL_units_301) (XAll.cons (xs_iload dL_units_303) (XAll.cons (xs_iconst dL_units_305) (XAll.cons (xs_iadd dL_units_306) (XAll.cons (xs_iald dL_units_307) (XAll.cons (xs_V2 kX7_move ⟨⟨rfl, rfl, by decide, by decide⟩, ⟨by decide, by decide, by decide +kernel⟩, ⟨tw_674, tw_675, tw_676, tw_1, tw_677⟩, 7, TX7, _, rfl, fun G ρ f i k => ⟨_, rfl⟩⟩ dL_units_308) (XAll.cons (xs_iload dL_units_311) (XAll.cons (xs_icmp_ne dL_units_313 (by decide)) (XAll.cons (xs_iconst dL_units_316) (XAll.cons (xs_goto dL_units_317 (by decide)) (XAll.cons (xs_iconst dL_units_320) (XAll.cons (xs_zret rfl dL_units_321) (XAll.cons (xs_iload dL_units_322) (XAll.cons (xs_bipush dL_units_324 rfl) (XAll.cons (xs_icmp_ge dL_units_326 (by decide)) (XAll.cons (xs_iconst dL_units_329) (XAll.cons (xs_iload_n dL_units_330 rfl) (XAll.cons (xs_bipush dL_units_331 rfl) (XAll.cons (xs_ishr dL_units_333) (XAll.cons (xs_bipush dL_units_334 rfl) (XAll.cons (xs_Sn kL_at ⟨⟨rfl, rfl, by decide, by decide⟩, ⟨by decide, by decide, by decide +kernel⟩, tw_567, tw_568, tw_0, tw_569⟩ dL_units_336) (XAll.cons (xs_iadd dL_units_339) (XAll.cons (xs_istore dL_units_340 (by decide)) (XAll.cons (xs_iload_n dL_units_342 rfl) (XAll.cons (xs_bipush dL_units_343 rfl) (XAll.cons (xs_ishr dL_units_345) (XAll.cons (xs_iload dL_units_346) (XAll.cons (xs_iconst dL_units_348) (XAll.cons (xs_iadd dL_units_349) (XAll.cons (xs_Sn kL_at ⟨⟨rfl, rfl, by decide, by decide⟩, ⟨by decide, by decide, by decide +kernel⟩, tw_567, tw_568, tw_0, tw_569⟩ dL_units_350) (XAll.cons (xs_istore dL_units_353 (by decide)) (XAll.cons (xs_aload_n dL_units_355 rfl) (XAll.cons (xs_iconst dL_units_356) (XAll.cons (xs_iald dL_units_357) (XAll.cons (xs_iconst dL_units_358) (XAll.cons (xs_icmp_eq dL_units_359 (by decide)) (XAll.cons (xs_aload dL_units_362) (XAll.cons (xs_iload dL_units_364) (XAll.cons (xs_iconst dL_units_366) (XAll.cons (xs_iadd dL_units_367) (XAll.cons (xs_iald dL_units_368) (XAll.cons (xs_iload dL_units_369) (XAll.cons (xs_icmp_le dL_units_371 (by decide)) (XAll.cons (xs_aload dL_units_374) (XAll.cons (xs_iload dL_units_376) (XAll.cons (xs_iconst dL_units_378) (XAll.cons (xs_iadd dL_units_379) (XAll.cons (xs_iald dL_units_380) (XAll.cons (xs_iload dL_units_381) (XAll.cons (xs_icmp_lt dL_units_383 (by decide)) (XAll.cons (xs_aload dL_units_386) (XAll.cons (xs_iload dL_units_388) (XAll.cons (xs_iconst dL_units_390) (XAll.cons (xs_iadd dL_units_391) (XAll.cons (xs_iald dL_units_392) (XAll.cons (xs_aload dL_units_393) (XAll.cons (xs_iload dL_units_395) (XAll.cons (xs_iconst dL_units_397) (XAll.cons (xs_iadd dL_units_398) (XAll.cons (xs_iald dL_units_399) (XAll.cons (xs_isub dL_units_400) (XAll.cons (xs_iload dL_units_401) (XAll.cons (xs_iload dL_units_403) (XAll.cons (xs_isub dL_units_405) (XAll.cons (xs_icmp_ge dL_units_406 (by decide)) (XAll.cons (xs_iconst dL_units_409) (XAll.cons (xs_zret rfl dL_units_410) (XAll.cons (xs_bipush dL_units_411 rfl) (XAll.cons (xs_aload_n dL_units_413 rfl) (XAll.cons (xs_iconst dL_units_414) (XAll.cons (xs_dup2 dL_units_415) (XAll.cons (xs_iald dL_units_416) (XAll.cons (xs_dupx2 dL_units_417) (XAll.cons (xs_iconst dL_units_418) (XAll.cons (xs_iadd dL_units_419) (XAll.cons (xs_iast dL_units_420) (XAll.cons (xs_imul dL_units_421) (XAll.cons (xs_istore dL_units_422 (by decide)) (XAll.cons (xs_iconst dL_units_424) (XAll.cons (xs_istore dL_units_425 (by decide)) (XAll.cons (xs_iload dL_units_427) (XAll.cons (xs_bipush dL_units_429 rfl) (XAll.cons (xs_icmp_ge dL_units_431 (by decide)) (XAll.cons (xs_aload dL_units_434) (XAll.cons (xs_iload dL_units_436) (XAll.cons (xs_iload dL_units_438) (XAll.cons (xs_iadd dL_units_440) (XAll.cons (xs_iload dL_units_441) (XAll.cons (xs_iconst dL_units_443) (XAll.cons (xs_icmp_eq dL_units_444 (by decide)) (XAll.cons (xs_iload dL_units_447) (XAll.cons (xs_iconst dL_units_449) (XAll.cons (xs_icmp_eq dL_units_450 (by decide)) (XAll.cons (xs_iload dL_units_453) (XAll.cons (xs_iconst dL_units_455) (XAll.cons (xs_icmp_ne dL_units_456 (by decide)) (XAll.cons (xs_aload dL_units_459) (XAll.cons (xs_iload dL_units_461) (XAll.cons (xs_iload dL_units_463) (XAll.cons (xs_iadd dL_units_465) (XAll.cons (xs_iald dL_units_466) (XAll.cons (xs_goto dL_units_467 (by decide)) (XAll.cons (xs_iconst dL_units_470) (XAll.cons (xs_iast dL_units_471) (XAll.cons (xs_iinc dL_units_472 (by decide)) (XAll.cons (xs_goto dL_units_475 (by decide)) (XAll.cons (xs_aload dL_units_478) (XAll.cons (xs_iload dL_units_480) (XAll.cons (xs_iconst dL_units_482) (XAll.cons (xs_iadd dL_units_483) (XAll.cons (xs_iload dL_units_484) (XAll.cons (xs_iast dL_units_486) (XAll.cons (xs_aload dL_units_487) (XAll.cons (xs_iload dL_units_489) (XAll.cons (xs_iconst dL_units_491) (XAll.cons (xs_iadd dL_units_492) (XAll.cons (xs_iload dL_units_493) (XAll.cons (xs_iast dL_units_495) (XAll.cons (xs_aload dL_units_496) (XAll.cons (xs_iload dL_units_498) (XAll.cons (xs_bipush dL_units_500 rfl) (XAll.cons (xs_iadd dL_units_502) (XAll.cons (xs_iconst dL_units_503) (XAll.cons (xs_iast dL_units_504) (XAll.cons (xs_aload dL_units_505) (XAll.cons (xs_iload dL_units_507) (XAll.cons (xs_iconst dL_units_509) (XAll.cons (xs_iadd dL_units_510) (XAll.cons (xs_dup2 dL_units_511) (XAll.cons (xs_iald dL_units_512) (XAll.cons (xs_iload dL_units_513) (XAll.cons (xs_isub dL_units_515) (XAll.cons (xs_iast dL_units_516) (XAll.cons (xs_aload dL_units_517) (XAll.cons (xs_iload dL_units_519) (XAll.cons (xs_iconst dL_units_521) (XAll.cons (xs_iadd dL_units_522) (XAll.cons (xs_dup2 dL_units_523) (XAll.cons (xs_iald dL_units_524) (XAll.cons (xs_iload dL_units_525) (XAll.cons (xs_isub dL_units_527) (XAll.cons (xs_iast dL_units_528) (XAll.cons (xs_aload_n dL_units_529 rfl) (XAll.cons (xs_iload dL_units_530) (XAll.cons (xs_bipush dL_units_532 rfl) (XAll.cons (xs_idiv dL_units_534) (XAll.cons (xs_iload dL_units_535) (XAll.cons (xs_iload dL_units_537) (XAll.cons (xs_V3 kX7_split ⟨⟨rfl, rfl, by decide, by decide⟩, ⟨by decide, by decide, by decide +kernel⟩, ⟨tw_678, tw_679, tw_680, tw_1, tw_681⟩, 7, TX7, _, rfl, fun G ρ f i k => ⟨_, rfl⟩⟩ dL_units_539) (XAll.cons (xs_iload dL_units_542) (XAll.cons (xs_bipush dL_units_544 rfl) (XAll.cons (xs_idiv dL_units_546) (XAll.cons (xs_icmp_ne dL_units_547 (by decide)) (XAll.cons (xs_iconst dL_units_550) (XAll.cons (xs_goto dL_units_551 (by decide)) (XAll.cons (xs_iconst dL_units_554) (XAll.cons (xs_zret rfl dL_units_555) (XAll.cons (xs_iload dL_units_556) (XAll.cons (xs_bipush dL_units_558 rfl) (XAll.cons (xs_icmp_ge dL_units_560 (by decide)) (XAll.cons (xs_iload dL_units_563) (XAll.cons (xs_iload dL_units_565) (XAll.cons (xs_icmp_eq dL_units_567 (by decide)) (XAll.cons (xs_aload dL_units_570) (XAll.cons (xs_iload dL_units_572) (XAll.cons (xs_iald dL_units_574) (XAll.cons (xs_if_ne dL_units_575 (by decide)) (XAll.cons (xs_aload dL_units_578) (XAll.cons (xs_iload dL_units_580) (XAll.cons (xs_iconst dL_units_582) (XAll.cons (xs_iadd dL_units_583) (XAll.cons (xs_iald dL_units_584) (XAll.cons (xs_aload dL_units_585) (XAll.cons (xs_iload dL_units_587) (XAll.cons (xs_iconst dL_units_589) (XAll.cons (xs_iadd dL_units_590) (XAll.cons (xs_iald dL_units_591) (XAll.cons (xs_icmp_ne dL_units_592 (by decide)) (XAll.cons (xs_aload dL_units_595) (XAll.cons (xs_iload dL_units_597) (XAll.cons (xs_iconst dL_units_599) (XAll.cons (xs_iadd dL_units_600) (XAll.cons (xs_iald dL_units_601) (XAll.cons (xs_aload dL_units_602) (XAll.cons (xs_iload dL_units_604) (XAll.cons (xs_iconst dL_units_606) (XAll.cons (xs_iadd dL_units_607) (XAll.cons (xs_iald dL_units_608) (XAll.cons (xs_iadd dL_units_609) (XAll.cons (xs_sipush dL_units_610 rfl) (XAll.cons (xs_icmp_le dL_units_613 (by decide)) (XAll.cons (xs_iconst dL_units_616) (XAll.cons (xs_zret rfl dL_units_617) (XAll.cons (xs_aload dL_units_618) (XAll.cons (xs_iload dL_units_620) (XAll.cons (xs_bipush dL_units_622 rfl) (XAll.cons (xs_iadd dL_units_624) (XAll.cons (xs_iald dL_units_625) (XAll.cons (xs_if_lt dL_units_626 (by decide)) (XAll.cons (xs_aload dL_units_629) (XAll.cons (xs_iload dL_units_631) (XAll.cons (xs_bipush dL_units_633 rfl) (XAll.cons (xs_iadd dL_units_635) (XAll.cons (xs_iald dL_units_636) (XAll.cons (xs_if_lt dL_units_637 (by decide)) (XAll.cons (xs_aload dL_units_640) (XAll.cons (xs_iload dL_units_642) (XAll.cons (xs_bipush dL_units_644 rfl) (XAll.cons (xs_iadd dL_units_646) (XAll.cons (xs_iald dL_units_647) (XAll.cons (xs_aload dL_units_648) (XAll.cons (xs_iload dL_units_650) (XAll.cons (xs_bipush dL_units_652 rfl) (XAll.cons (xs_iadd dL_units_654) (XAll.cons (xs_iald dL_units_655) (XAll.cons (xs_icmp_ge dL_units_656 (by decide)) (XAll.cons (xs_aload dL_units_659) (XAll.cons (xs_iload dL_units_661) (XAll.cons (xs_bipush dL_units_663 rfl) (XAll.cons (xs_iadd dL_units_665) (XAll.cons (xs_aload dL_units_666) (XAll.cons (xs_iload dL_units_668) (XAll.cons (xs_bipush dL_units_670 rfl) (XAll.cons (xs_iadd dL_units_672) (XAll.cons (xs_iald dL_units_673) (XAll.cons (xs_iast dL_units_674) (XAll.cons (xs_iconst dL_units_675) (XAll.cons (xs_istore dL_units_676 (by decide)) (XAll.cons (xs_iload dL_units_678) (XAll.cons (xs_iconst dL_units_680) (XAll.cons (xs_icmp_ge dL_units_681 (by decide)) (XAll.cons (xs_aload dL_units_684) (XAll.cons (xs_iload dL_units_686) (XAll.cons (xs_iload dL_units_688) (XAll.cons (xs_iconst dL_units_690) (XAll.cons (xs_icmp_ge dL_units_691 (by decide)) (XAll.cons (xs_iconst dL_units_694) (XAll.cons (xs_iload dL_units_695) (XAll.cons (xs_iadd dL_units_697) (XAll.cons (xs_goto dL_units_698 (by decide)) (XAll.cons (xs_iconst dL_units_701) (XAll.cons (xs_iload dL_units_702) (XAll.cons (xs_iadd dL_units_704) (XAll.cons (xs_iadd dL_units_705) (XAll.cons (xs_dup2 dL_units_706) (XAll.cons (xs_iald dL_units_707) (XAll.cons (xs_aload dL_units_708) (XAll.cons (xs_iload dL_units_710) (XAll.cons (xs_iload dL_units_712) (XAll.cons (xs_iconst dL_units_714) (XAll.cons (xs_icmp_ge dL_units_715 (by decide)) (XAll.cons (xs_iconst dL_units_718) (XAll.cons (xs_iload dL_units_719) (XAll.cons (xs_iadd dL_units_721) (XAll.cons (xs_goto dL_units_722 (by decide)) (XAll.cons (xs_iconst dL_units_725) (XAll.cons (xs_iload dL_units_726) (XAll.cons (xs_iadd dL_units_728) (XAll.cons (xs_iadd dL_units_729) (XAll.cons (xs_iald dL_units_730) (XAll.cons (xs_iadd dL_units_731) (XAll.cons (xs_iast dL_units_732) (XAll.cons (xs_iinc dL_units_733 (by decide)) (XAll.cons (xs_goto dL_units_736 (by decide)) (XAll.cons (xs_aload dL_units_739) (XAll.cons (xs_iload dL_units_741) (XAll.cons (xs_iconst dL_units_743) (XAll.cons (xs_iast dL_units_744) (XAll.cons (xs_aload_n dL_units_745 rfl) (XAll.cons (xs_iload dL_units_746) (XAll.cons (xs_bipush dL_units_748 rfl) (XAll.cons (xs_idiv dL_units_750) (XAll.cons (xs_iload dL_units_751) (XAll.cons (xs_bipush dL_units_753 rfl) (XAll.cons (xs_idiv dL_units_755) (XAll.cons (xs_V2 kX7_join ⟨⟨rfl, rfl, by decide, by decide⟩, ⟨by decide, by decide, by decide +kernel⟩, ⟨tw_682, tw_683, tw_684, tw_1, tw_685⟩, 7, TX7, _, rfl, fun G ρ f i k => ⟨_, rfl⟩⟩ dL_units_756) (XAll.cons (xs_aload dL_units_759) (XAll.cons (xs_iload dL_units_761) (XAll.cons (xs_iconst dL_units_763) (XAll.cons (xs_iadd dL_units_764) (XAll.cons (xs_iald dL_units_765) (XAll.cons (xs_icmp_ne dL_units_766 (by decide)) (XAll.cons (xs_iconst dL_units_769) (XAll.cons (xs_goto dL_units_770 (by decide)) (XAll.cons (xs_iconst dL_units_773) (XAll.cons (xs_zret rfl dL_units_774) (XAll.cons (xs_aload dL_units_775) (XAll.cons (xs_iload dL_units_777) (XAll.cons (xs_bipush dL_units_779 rfl) (XAll.cons (xs_iadd dL_units_781) (XAll.cons (xs_iald dL_units_782) (XAll.cons (xs_aload dL_units_783) (XAll.cons (xs_iload dL_units_785) (XAll.cons (xs_bipush dL_units_787 rfl) (XAll.cons (xs_iadd dL_units_789) (XAll.cons (xs_iald dL_units_790) (XAll.cons (xs_iadd dL_units_791) (XAll.cons (xs_istore dL_units_792 (by decide)) (XAll.cons (xs_aload dL_units_794) (XAll.cons (xs_iload dL_units_796) (XAll.cons (xs_iconst dL_units_798) (XAll.cons (xs_iast dL_units_799) (XAll.cons (xs_aload dL_units_800) (XAll.cons (xs_iload dL_units_802) (XAll.cons (xs_bipush dL_units_804 rfl) (XAll.cons (xs_iadd dL_units_806) (XAll.cons (xs_iload dL_units_807) (XAll.cons (xs_iast dL_units_809) (XAll.cons (xs_aload_n dL_units_810 rfl) (XAll.cons (xs_bipush dL_units_811 rfl) (XAll.cons (xs_dup2 dL_units_813) (XAll.cons (xs_iald dL_units_814) (XAll.cons (xs_iload dL_units_815) (XAll.cons (xs_iadd dL_units_817) (XAll.cons (xs_iast dL_units_818) (XAll.cons (xs_aload_n dL_units_819 rfl) (XAll.cons (xs_iload dL_units_820) (XAll.cons (xs_bipush dL_units_822 rfl) (XAll.cons (xs_idiv dL_units_824) (XAll.cons (xs_V1 kX7_wrap ⟨⟨rfl, rfl, by decide, by decide⟩, ⟨by decide, by decide, by decide +kernel⟩, ⟨tw_696, tw_697, tw_698, tw_1, tw_699⟩, 7, TX7, _, rfl, fun G ρ f i k => ⟨_, rfl⟩⟩ dL_units_825) (XAll.cons (xs_iload dL_units_828) (XAll.cons (xs_icmp_ne dL_units_830 (by decide)) (XAll.cons (xs_iconst dL_units_833) (XAll.cons (xs_goto dL_units_834 (by decide)) (XAll.cons (xs_iconst dL_units_837) (XAll.cons (xs_zret rfl dL_units_838) (XAll.nil)))))))))))))))))))))))))))))))))))))))))))))))))))))))))))))))))))))))))))))))))))))))))))))))))))))))))))))))))))))))))))))))))))))))))))))))))))))))))))))))))))))))))))))))))))))))))))))))))))))))))))))))))))))))))))))))))))))))))))))))))))))))))))))))))))))))))))))))))))))))))))))))))))))))))))))))))))))))))))))))))))))))))))))))))))))))))))))))))))))))))))))))))))))))))))))))))))))))))))))))))))))))))))))))))))))))))))))))))))))))))))))))))))))))))))))))))))))))))))))))))))))))))))))))))))))))))))))))))))))))))))))))
set_option maxRecDepth 100000 in
theorem fL_units_0 (Post : XPo) (cut : List Nat) (WW : XK) (n : Nat) (L : XLs) (st : List XV) (M : XM) : yru (xlk (pL_units Post)) cut WW (n + 1) 0 L st M = j_ild 1 1 0 L st M (ykk (xlk (pL_units Post)) cut WW n) := yf rfl
set_option maxRecDepth 100000 in
theorem fL_units_1 (Post : XPo) (cut : List Nat) (WW : XK) (n : Nat) (L : XLs) (st : List XV) (M : XM) : yru (xlk (pL_units Post)) cut WW (n + 1) 1 L st M = j_c 9 2 1 L st M (ykk (xlk (pL_units Post)) cut WW n) := yf rfl
set_option maxRecDepth 100000 in
theorem fL_units_3 (Post : XPo) (cut : List Nat) (WW : XK) (n : Nat) (L : XLs) (st : List XV) (M : XM) : yru (xlk (pL_units Post)) cut WW (n + 1) 3 L st M = j_Sn 2 sL_at 3 L st M (ykk (xlk (pL_units Post)) cut WW n) := yf rfl
set_option maxRecDepth 100000 in
theorem fL_units_6 (Post : XPo) (cut : List Nat) (WW : XK) (n : Nat) (L : XLs) (st : List XV) (M : XM) : yru (xlk (pL_units Post)) cut WW (n + 1) 6 L st M = j_ist 5 2 6 L st M (ykk (xlk (pL_units Post)) cut WW n) := yf rfl
set_option maxRecDepth 100000 in
theorem fL_units_8 (Post : XPo) (cut : List Nat) (WW : XK) (n : Nat) (L : XLs) (st : List XV) (M : XM) : yru (xlk (pL_units Post)) cut WW (n + 1) 8 L st M = j_ald 3 1 8 L st M (ykk (xlk (pL_units Post)) cut WW n) := yf rfl
set_option maxRecDepth 100000 in
theorem fL_units_9 (Post : XPo) (cut : List Nat) (WW : XK) (n : Nat) (L : XLs) (st : List XV) (M : XM) : yru (xlk (pL_units Post)) cut WW (n + 1) 9 L st M = j_c 3 1 9 L st M (ykk (xlk (pL_units Post)) cut WW n) := yf rfl
set_option maxRecDepth 100000 in
theorem fL_units_10 (Post : XPo) (cut : List Nat) (WW : XK) (n : Nat) (L : XLs) (st : List XV) (M : XM) : yru (xlk (pL_units Post)) cut WW (n + 1) 10 L st M = j_iald 10 L st M (ykk (xlk (pL_units Post)) cut WW n) := yf rfl
set_option maxRecDepth 100000 in
theorem fL_units_11 (Post : XPo) (cut : List Nat) (WW : XK) (n : Nat) (L : XLs) (st : List XV) (M : XM) : yru (xlk (pL_units Post)) cut WW (n + 1) 11 L st M = j_c 1 1 11 L st M (ykk (xlk (pL_units Post)) cut WW n) := yf rfl
set_option maxRecDepth 100000 in
theorem fL_units_12 (Post : XPo) (cut : List Nat) (WW : XK) (n : Nat) (L : XLs) (st : List XV) (M : XM) : yru (xlk (pL_units Post)) cut WW (n + 1) 12 L st M = j_ilt 28 12 L st M (ykk (xlk (pL_units Post)) cut WW n) := yf rfl
set_option maxRecDepth 100000 in
theorem fL_units_15 (Post : XPo) (cut : List Nat) (WW : XK) (n : Nat) (L : XLs) (st : List XV) (M : XM) : yru (xlk (pL_units Post)) cut WW (n + 1) 15 L st M = j_ild 5 2 15 L st M (ykk (xlk (pL_units Post)) cut WW n) := yf rfl
set_option maxRecDepth 100000 in
theorem fL_units_17 (Post : XPo) (cut : List Nat) (WW : XK) (n : Nat) (L : XLs) (st : List XV) (M : XM) : yru (xlk (pL_units Post)) cut WW (n + 1) 17 L st M = j_c 2 1 17 L st M (ykk (xlk (pL_units Post)) cut WW n) := yf rfl
set_option maxRecDepth 100000 in
theorem fL_units_18 (Post : XPo) (cut : List Nat) (WW : XK) (n : Nat) (L : XLs) (st : List XV) (M : XM) : yru (xlk (pL_units Post)) cut WW (n + 1) 18 L st M = j_ige 227 18 L st M (ykk (xlk (pL_units Post)) cut WW n) := yf rfl
set_option maxRecDepth 100000 in
theorem fL_units_21 (Post : XPo) (cut : List Nat) (WW : XK) (n : Nat) (L : XLs) (st : List XV) (M : XM) : yru (xlk (pL_units Post)) cut WW (n + 1) 21 L st M = j_ald 3 1 21 L st M (ykk (xlk (pL_units Post)) cut WW n) := yf rfl
set_option maxRecDepth 100000 in
theorem fL_units_22 (Post : XPo) (cut : List Nat) (WW : XK) (n : Nat) (L : XLs) (st : List XV) (M : XM) : yru (xlk (pL_units Post)) cut WW (n + 1) 22 L st M = j_c 3 1 22 L st M (ykk (xlk (pL_units Post)) cut WW n) := yf rfl
set_option maxRecDepth 100000 in
theorem fL_units_23 (Post : XPo) (cut : List Nat) (WW : XK) (n : Nat) (L : XLs) (st : List XV) (M : XM) : yru (xlk (pL_units Post)) cut WW (n + 1) 23 L st M = j_iald 23 L st M (ykk (xlk (pL_units Post)) cut WW n) := yf rfl
set_option maxRecDepth 100000 in
theorem fL_units_24 (Post : XPo) (cut : List Nat) (WW : XK) (n : Nat) (L : XLs) (st : List XV) (M : XM) : yru (xlk (pL_units Post)) cut WW (n + 1) 24 L st M = j_c 5 1 24 L st M (ykk (xlk (pL_units Post)) cut WW n) := yf rfl
set_option maxRecDepth 100000 in
theorem fL_units_25 (Post : XPo) (cut : List Nat) (WW : XK) (n : Nat) (L : XLs) (st : List XV) (M : XM) : yru (xlk (pL_units Post)) cut WW (n + 1) 25 L st M = j_ige 227 25 L st M (ykk (xlk (pL_units Post)) cut WW n) := yf rfl
set_option maxRecDepth 100000 in
theorem fL_units_28 (Post : XPo) (cut : List Nat) (WW : XK) (n : Nat) (L : XLs) (st : List XV) (M : XM) : yru (xlk (pL_units Post)) cut WW (n + 1) 28 L st M = j_c 12 2 28 L st M (ykk (xlk (pL_units Post)) cut WW n) := yf rfl
set_option maxRecDepth 100000 in
theorem fL_units_30 (Post : XPo) (cut : List Nat) (WW : XK) (n : Nat) (L : XLs) (st : List XV) (M : XM) : yru (xlk (pL_units Post)) cut WW (n + 1) 30 L st M = j_ald 3 1 30 L st M (ykk (xlk (pL_units Post)) cut WW n) := yf rfl
set_option maxRecDepth 100000 in
theorem fL_units_31 (Post : XPo) (cut : List Nat) (WW : XK) (n : Nat) (L : XLs) (st : List XV) (M : XM) : yru (xlk (pL_units Post)) cut WW (n + 1) 31 L st M = j_c 3 1 31 L st M (ykk (xlk (pL_units Post)) cut WW n) := yf rfl
set_option maxRecDepth 100000 in
theorem fL_units_32 (Post : XPo) (cut : List Nat) (WW : XK) (n : Nat) (L : XLs) (st : List XV) (M : XM) : yru (xlk (pL_units Post)) cut WW (n + 1) 32 L st M = j_dup2 32 L st M (ykk (xlk (pL_units Post)) cut WW n) := yf rfl
set_option maxRecDepth 100000 in
theorem fL_units_33 (Post : XPo) (cut : List Nat) (WW : XK) (n : Nat) (L : XLs) (st : List XV) (M : XM) : yru (xlk (pL_units Post)) cut WW (n + 1) 33 L st M = j_iald 33 L st M (ykk (xlk (pL_units Post)) cut WW n) := yf rfl
set_option maxRecDepth 100000 in
theorem fL_units_34 (Post : XPo) (cut : List Nat) (WW : XK) (n : Nat) (L : XLs) (st : List XV) (M : XM) : yru (xlk (pL_units Post)) cut WW (n + 1) 34 L st M = j_dupx2 34 L st M (ykk (xlk (pL_units Post)) cut WW n) := yf rfl
set_option maxRecDepth 100000 in
theorem fL_units_35 (Post : XPo) (cut : List Nat) (WW : XK) (n : Nat) (L : XLs) (st : List XV) (M : XM) : yru (xlk (pL_units Post)) cut WW (n + 1) 35 L st M = j_c 1 1 35 L st M (ykk (xlk (pL_units Post)) cut WW n) := yf rfl
set_option maxRecDepth 100000 in
theorem fL_units_36 (Post : XPo) (cut : List Nat) (WW : XK) (n : Nat) (L : XLs) (st : List XV) (M : XM) : yru (xlk (pL_units Post)) cut WW (n + 1) 36 L st M = j_add 36 L st M (ykk (xlk (pL_units Post)) cut WW n) := yf rfl
set_option maxRecDepth 100000 in
theorem fL_units_37 (Post : XPo) (cut : List Nat) (WW : XK) (n : Nat) (L : XLs) (st : List XV) (M : XM) : yru (xlk (pL_units Post)) cut WW (n + 1) 37 L st M = j_iast 37 L st M (ykk (xlk (pL_units Post)) cut WW n) := yf rfl
set_option maxRecDepth 100000 in
theorem fL_units_38 (Post : XPo) (cut : List Nat) (WW : XK) (n : Nat) (L : XLs) (st : List XV) (M : XM) : yru (xlk (pL_units Post)) cut WW (n + 1) 38 L st M = j_mul 38 L st M (ykk (xlk (pL_units Post)) cut WW n) := yf rfl
set_option maxRecDepth 100000 in
theorem fL_units_39 (Post : XPo) (cut : List Nat) (WW : XK) (n : Nat) (L : XLs) (st : List XV) (M : XM) : yru (xlk (pL_units Post)) cut WW (n + 1) 39 L st M = j_ist 6 2 39 L st M (ykk (xlk (pL_units Post)) cut WW n) := yf rfl
set_option maxRecDepth 100000 in
theorem fL_units_41 (Post : XPo) (cut : List Nat) (WW : XK) (n : Nat) (L : XLs) (st : List XV) (M : XM) : yru (xlk (pL_units Post)) cut WW (n + 1) 41 L st M = j_c 0 1 41 L st M (ykk (xlk (pL_units Post)) cut WW n) := yf rfl
set_option maxRecDepth 100000 in
theorem fL_units_42 (Post : XPo) (cut : List Nat) (WW : XK) (n : Nat) (L : XLs) (st : List XV) (M : XM) : yru (xlk (pL_units Post)) cut WW (n + 1) 42 L st M = j_ist 7 2 42 L st M (ykk (xlk (pL_units Post)) cut WW n) := yf rfl
set_option maxRecDepth 100000 in
theorem fL_units_44 (Post : XPo) (cut : List Nat) (WW : XK) (n : Nat) (L : XLs) (st : List XV) (M : XM) : yru (xlk (pL_units Post)) cut WW (n + 1) 44 L st M = j_ild 7 2 44 L st M (ykk (xlk (pL_units Post)) cut WW n) := yf rfl
set_option maxRecDepth 100000 in
theorem fL_units_46 (Post : XPo) (cut : List Nat) (WW : XK) (n : Nat) (L : XLs) (st : List XV) (M : XM) : yru (xlk (pL_units Post)) cut WW (n + 1) 46 L st M = j_c 12 2 46 L st M (ykk (xlk (pL_units Post)) cut WW n) := yf rfl
set_option maxRecDepth 100000 in
theorem fL_units_48 (Post : XPo) (cut : List Nat) (WW : XK) (n : Nat) (L : XLs) (st : List XV) (M : XM) : yru (xlk (pL_units Post)) cut WW (n + 1) 48 L st M = j_ige 66 48 L st M (ykk (xlk (pL_units Post)) cut WW n) := yf rfl
set_option maxRecDepth 100000 in
theorem fL_units_51 (Post : XPo) (cut : List Nat) (WW : XK) (n : Nat) (L : XLs) (st : List XV) (M : XM) : yru (xlk (pL_units Post)) cut WW (n + 1) 51 L st M = j_ald 4 2 51 L st M (ykk (xlk (pL_units Post)) cut WW n) := yf rfl
set_option maxRecDepth 100000 in
theorem fL_units_53 (Post : XPo) (cut : List Nat) (WW : XK) (n : Nat) (L : XLs) (st : List XV) (M : XM) : yru (xlk (pL_units Post)) cut WW (n + 1) 53 L st M = j_ild 6 2 53 L st M (ykk (xlk (pL_units Post)) cut WW n) := yf rfl
set_option maxRecDepth 100000 in
theorem fL_units_55 (Post : XPo) (cut : List Nat) (WW : XK) (n : Nat) (L : XLs) (st : List XV) (M : XM) : yru (xlk (pL_units Post)) cut WW (n + 1) 55 L st M = j_ild 7 2 55 L st M (ykk (xlk (pL_units Post)) cut WW n) := yf rfl
set_option maxRecDepth 100000 in
theorem fL_units_57 (Post : XPo) (cut : List Nat) (WW : XK) (n : Nat) (L : XLs) (st : List XV) (M : XM) : yru (xlk (pL_units Post)) cut WW (n + 1) 57 L st M = j_add 57 L st M (ykk (xlk (pL_units Post)) cut WW n) := yf rfl
set_option maxRecDepth 100000 in
theorem fL_units_58 (Post : XPo) (cut : List Nat) (WW : XK) (n : Nat) (L : XLs) (st : List XV) (M : XM) : yru (xlk (pL_units Post)) cut WW (n + 1) 58 L st M = j_c 0 1 58 L st M (ykk (xlk (pL_units Post)) cut WW n) := yf rfl
set_option maxRecDepth 100000 in
theorem fL_units_59 (Post : XPo) (cut : List Nat) (WW : XK) (n : Nat) (L : XLs) (st : List XV) (M : XM) : yru (xlk (pL_units Post)) cut WW (n + 1) 59 L st M = j_iast 59 L st M (ykk (xlk (pL_units Post)) cut WW n) := yf rfl
set_option maxRecDepth 100000 in
theorem fL_units_60 (Post : XPo) (cut : List Nat) (WW : XK) (n : Nat) (L : XLs) (st : List XV) (M : XM) : yru (xlk (pL_units Post)) cut WW (n + 1) 60 L st M = j_inc 7 1 60 L st M (ykk (xlk (pL_units Post)) cut WW n) := yf rfl
set_option maxRecDepth 100000 in
theorem fL_units_63 (Post : XPo) (cut : List Nat) (WW : XK) (n : Nat) (L : XLs) (st : List XV) (M : XM) : yru (xlk (pL_units Post)) cut WW (n + 1) 63 L st M = j_goto 44 63 L st M (ykk (xlk (pL_units Post)) cut WW n) := yf rfl
set_option maxRecDepth 100000 in
theorem fL_units_66 (Post : XPo) (cut : List Nat) (WW : XK) (n : Nat) (L : XLs) (st : List XV) (M : XM) : yru (xlk (pL_units Post)) cut WW (n + 1) 66 L st M = j_ald 4 2 66 L st M (ykk (xlk (pL_units Post)) cut WW n) := yf rfl
set_option maxRecDepth 100000 in
theorem fL_units_68 (Post : XPo) (cut : List Nat) (WW : XK) (n : Nat) (L : XLs) (st : List XV) (M : XM) : yru (xlk (pL_units Post)) cut WW (n + 1) 68 L st M = j_ild 6 2 68 L st M (ykk (xlk (pL_units Post)) cut WW n) := yf rfl
set_option maxRecDepth 100000 in
theorem fL_units_70 (Post : XPo) (cut : List Nat) (WW : XK) (n : Nat) (L : XLs) (st : List XV) (M : XM) : yru (xlk (pL_units Post)) cut WW (n + 1) 70 L st M = j_c 1 1 70 L st M (ykk (xlk (pL_units Post)) cut WW n) := yf rfl
set_option maxRecDepth 100000 in
theorem fL_units_71 (Post : XPo) (cut : List Nat) (WW : XK) (n : Nat) (L : XLs) (st : List XV) (M : XM) : yru (xlk (pL_units Post)) cut WW (n + 1) 71 L st M = j_add 71 L st M (ykk (xlk (pL_units Post)) cut WW n) := yf rfl
set_option maxRecDepth 100000 in
theorem fL_units_72 (Post : XPo) (cut : List Nat) (WW : XK) (n : Nat) (L : XLs) (st : List XV) (M : XM) : yru (xlk (pL_units Post)) cut WW (n + 1) 72 L st M = j_ild 2 1 72 L st M (ykk (xlk (pL_units Post)) cut WW n) := yf rfl
set_option maxRecDepth 100000 in
theorem fL_units_73 (Post : XPo) (cut : List Nat) (WW : XK) (n : Nat) (L : XLs) (st : List XV) (M : XM) : yru (xlk (pL_units Post)) cut WW (n + 1) 73 L st M = j_ald 3 1 73 L st M (ykk (xlk (pL_units Post)) cut WW n) := yf rfl
set_option maxRecDepth 100000 in
theorem fL_units_74 (Post : XPo) (cut : List Nat) (WW : XK) (n : Nat) (L : XLs) (st : List XV) (M : XM) : yru (xlk (pL_units Post)) cut WW (n + 1) 74 L st M = j_c 0 1 74 L st M (ykk (xlk (pL_units Post)) cut WW n) := yf rfl
set_option maxRecDepth 100000 in
theorem fL_units_75 (Post : XPo) (cut : List Nat) (WW : XK) (n : Nat) (L : XLs) (st : List XV) (M : XM) : yru (xlk (pL_units Post)) cut WW (n + 1) 75 L st M = j_iald 75 L st M (ykk (xlk (pL_units Post)) cut WW n) := yf rfl
set_option maxRecDepth 100000 in
theorem fL_units_76 (Post : XPo) (cut : List Nat) (WW : XK) (n : Nat) (L : XLs) (st : List XV) (M : XM) : yru (xlk (pL_units Post)) cut WW (n + 1) 76 L st M = j_Sn 2 sL_at 76 L st M (ykk (xlk (pL_units Post)) cut WW n) := yf rfl
set_option maxRecDepth 100000 in
theorem fL_units_79 (Post : XPo) (cut : List Nat) (WW : XK) (n : Nat) (L : XLs) (st : List XV) (M : XM) : yru (xlk (pL_units Post)) cut WW (n + 1) 79 L st M = j_iast 79 L st M (ykk (xlk (pL_units Post)) cut WW n) := yf rfl
set_option maxRecDepth 100000 in
theorem fL_units_80 (Post : XPo) (cut : List Nat) (WW : XK) (n : Nat) (L : XLs) (st : List XV) (M : XM) : yru (xlk (pL_units Post)) cut WW (n + 1) 80 L st M = j_ald 4 2 80 L st M (ykk (xlk (pL_units Post)) cut WW n) := yf rfl
set_option maxRecDepth 100000 in
theorem fL_units_82 (Post : XPo) (cut : List Nat) (WW : XK) (n : Nat) (L : XLs) (st : List XV) (M : XM) : yru (xlk (pL_units Post)) cut WW (n + 1) 82 L st M = j_ild 6 2 82 L st M (ykk (xlk (pL_units Post)) cut WW n) := yf rfl
set_option maxRecDepth 100000 in
theorem fL_units_84 (Post : XPo) (cut : List Nat) (WW : XK) (n : Nat) (L : XLs) (st : List XV) (M : XM) : yru (xlk (pL_units Post)) cut WW (n + 1) 84 L st M = j_c 2 1 84 L st M (ykk (xlk (pL_units Post)) cut WW n) := yf rfl
set_option maxRecDepth 100000 in
theorem fL_units_85 (Post : XPo) (cut : List Nat) (WW : XK) (n : Nat) (L : XLs) (st : List XV) (M : XM) : yru (xlk (pL_units Post)) cut WW (n + 1) 85 L st M = j_add 85 L st M (ykk (xlk (pL_units Post)) cut WW n) := yf rfl
set_option maxRecDepth 100000 in
theorem fL_units_86 (Post : XPo) (cut : List Nat) (WW : XK) (n : Nat) (L : XLs) (st : List XV) (M : XM) : yru (xlk (pL_units Post)) cut WW (n + 1) 86 L st M = j_c 1 1 86 L st M (ykk (xlk (pL_units Post)) cut WW n) := yf rfl
set_option maxRecDepth 100000 in
theorem fL_units_87 (Post : XPo) (cut : List Nat) (WW : XK) (n : Nat) (L : XLs) (st : List XV) (M : XM) : yru (xlk (pL_units Post)) cut WW (n + 1) 87 L st M = j_ild 2 1 87 L st M (ykk (xlk (pL_units Post)) cut WW n) := yf rfl
set_option maxRecDepth 100000 in
theorem fL_units_88 (Post : XPo) (cut : List Nat) (WW : XK) (n : Nat) (L : XLs) (st : List XV) (M : XM) : yru (xlk (pL_units Post)) cut WW (n + 1) 88 L st M = j_c 3 1 88 L st M (ykk (xlk (pL_units Post)) cut WW n) := yf rfl
set_option maxRecDepth 100000 in
theorem fL_units_89 (Post : XPo) (cut : List Nat) (WW : XK) (n : Nat) (L : XLs) (st : List XV) (M : XM) : yru (xlk (pL_units Post)) cut WW (n + 1) 89 L st M = j_shr 89 L st M (ykk (xlk (pL_units Post)) cut WW n) := yf rfl
set_option maxRecDepth 100000 in
theorem fL_units_90 (Post : XPo) (cut : List Nat) (WW : XK) (n : Nat) (L : XLs) (st : List XV) (M : XM) : yru (xlk (pL_units Post)) cut WW (n + 1) 90 L st M = j_c 30 2 90 L st M (ykk (xlk (pL_units Post)) cut WW n) := yf rfl
set_option maxRecDepth 100000 in
theorem fL_units_92 (Post : XPo) (cut : List Nat) (WW : XK) (n : Nat) (L : XLs) (st : List XV) (M : XM) : yru (xlk (pL_units Post)) cut WW (n + 1) 92 L st M = j_Sn 2 sL_at 92 L st M (ykk (xlk (pL_units Post)) cut WW n) := yf rfl
set_option maxRecDepth 100000 in
theorem fL_units_95 (Post : XPo) (cut : List Nat) (WW : XK) (n : Nat) (L : XLs) (st : List XV) (M : XM) : yru (xlk (pL_units Post)) cut WW (n + 1) 95 L st M = j_add 95 L st M (ykk (xlk (pL_units Post)) cut WW n) := yf rfl
set_option maxRecDepth 100000 in
theorem fL_units_96 (Post : XPo) (cut : List Nat) (WW : XK) (n : Nat) (L : XLs) (st : List XV) (M : XM) : yru (xlk (pL_units Post)) cut WW (n + 1) 96 L st M = j_iast 96 L st M (ykk (xlk (pL_units Post)) cut WW n) := yf rfl
set_option maxRecDepth 100000 in
theorem fL_units_97 (Post : XPo) (cut : List Nat) (WW : XK) (n : Nat) (L : XLs) (st : List XV) (M : XM) : yru (xlk (pL_units Post)) cut WW (n + 1) 97 L st M = j_ald 4 2 97 L st M (ykk (xlk (pL_units Post)) cut WW n) := yf rfl
set_option maxRecDepth 100000 in
theorem fL_units_99 (Post : XPo) (cut : List Nat) (WW : XK) (n : Nat) (L : XLs) (st : List XV) (M : XM) : yru (xlk (pL_units Post)) cut WW (n + 1) 99 L st M = j_ild 6 2 99 L st M (ykk (xlk (pL_units Post)) cut WW n) := yf rfl
set_option maxRecDepth 100000 in
theorem fL_units_101 (Post : XPo) (cut : List Nat) (WW : XK) (n : Nat) (L : XLs) (st : List XV) (M : XM) : yru (xlk (pL_units Post)) cut WW (n + 1) 101 L st M = j_c 3 1 101 L st M (ykk (xlk (pL_units Post)) cut WW n) := yf rfl
set_option maxRecDepth 100000 in
theorem fL_units_102 (Post : XPo) (cut : List Nat) (WW : XK) (n : Nat) (L : XLs) (st : List XV) (M : XM) : yru (xlk (pL_units Post)) cut WW (n + 1) 102 L st M = j_add 102 L st M (ykk (xlk (pL_units Post)) cut WW n) := yf rfl
set_option maxRecDepth 100000 in
theorem fL_units_103 (Post : XPo) (cut : List Nat) (WW : XK) (n : Nat) (L : XLs) (st : List XV) (M : XM) : yru (xlk (pL_units Post)) cut WW (n + 1) 103 L st M = j_ild 2 1 103 L st M (ykk (xlk (pL_units Post)) cut WW n) := yf rfl
set_option maxRecDepth 100000 in
theorem fL_units_104 (Post : XPo) (cut : List Nat) (WW : XK) (n : Nat) (L : XLs) (st : List XV) (M : XM) : yru (xlk (pL_units Post)) cut WW (n + 1) 104 L st M = j_c 8 2 104 L st M (ykk (xlk (pL_units Post)) cut WW n) := yf rfl
set_option maxRecDepth 100000 in
theorem fL_units_106 (Post : XPo) (cut : List Nat) (WW : XK) (n : Nat) (L : XLs) (st : List XV) (M : XM) : yru (xlk (pL_units Post)) cut WW (n + 1) 106 L st M = j_shr 106 L st M (ykk (xlk (pL_units Post)) cut WW n) := yf rfl
set_option maxRecDepth 100000 in
theorem fL_units_107 (Post : XPo) (cut : List Nat) (WW : XK) (n : Nat) (L : XLs) (st : List XV) (M : XM) : yru (xlk (pL_units Post)) cut WW (n + 1) 107 L st M = j_ald 4 2 107 L st M (ykk (xlk (pL_units Post)) cut WW n) := yf rfl
set_option maxRecDepth 100000 in
theorem fL_units_109 (Post : XPo) (cut : List Nat) (WW : XK) (n : Nat) (L : XLs) (st : List XV) (M : XM) : yru (xlk (pL_units Post)) cut WW (n + 1) 109 L st M = j_ild 6 2 109 L st M (ykk (xlk (pL_units Post)) cut WW n) := yf rfl
set_option maxRecDepth 100000 in
theorem fL_units_111 (Post : XPo) (cut : List Nat) (WW : XK) (n : Nat) (L : XLs) (st : List XV) (M : XM) : yru (xlk (pL_units Post)) cut WW (n + 1) 111 L st M = j_c 2 1 111 L st M (ykk (xlk (pL_units Post)) cut WW n) := yf rfl
set_option maxRecDepth 100000 in
theorem fL_units_112 (Post : XPo) (cut : List Nat) (WW : XK) (n : Nat) (L : XLs) (st : List XV) (M : XM) : yru (xlk (pL_units Post)) cut WW (n + 1) 112 L st M = j_add 112 L st M (ykk (xlk (pL_units Post)) cut WW n) := yf rfl
set_option maxRecDepth 100000 in
theorem fL_units_113 (Post : XPo) (cut : List Nat) (WW : XK) (n : Nat) (L : XLs) (st : List XV) (M : XM) : yru (xlk (pL_units Post)) cut WW (n + 1) 113 L st M = j_iald 113 L st M (ykk (xlk (pL_units Post)) cut WW n) := yf rfl
set_option maxRecDepth 100000 in
theorem fL_units_114 (Post : XPo) (cut : List Nat) (WW : XK) (n : Nat) (L : XLs) (st : List XV) (M : XM) : yru (xlk (pL_units Post)) cut WW (n + 1) 114 L st M = j_c 1 1 114 L st M (ykk (xlk (pL_units Post)) cut WW n) := yf rfl
set_option maxRecDepth 100000 in
theorem fL_units_115 (Post : XPo) (cut : List Nat) (WW : XK) (n : Nat) (L : XLs) (st : List XV) (M : XM) : yru (xlk (pL_units Post)) cut WW (n + 1) 115 L st M = j_add 115 L st M (ykk (xlk (pL_units Post)) cut WW n) := yf rfl
set_option maxRecDepth 100000 in
theorem fL_units_116 (Post : XPo) (cut : List Nat) (WW : XK) (n : Nat) (L : XLs) (st : List XV) (M : XM) : yru (xlk (pL_units Post)) cut WW (n + 1) 116 L st M = j_Sn 2 sL_at 116 L st M (ykk (xlk (pL_units Post)) cut WW n) := yf rfl
set_option maxRecDepth 100000 in
theorem fL_units_119 (Post : XPo) (cut : List Nat) (WW : XK) (n : Nat) (L : XLs) (st : List XV) (M : XM) : yru (xlk (pL_units Post)) cut WW (n + 1) 119 L st M = j_iast 119 L st M (ykk (xlk (pL_units Post)) cut WW n) := yf rfl
set_option maxRecDepth 100000 in
theorem fL_units_120 (Post : XPo) (cut : List Nat) (WW : XK) (n : Nat) (L : XLs) (st : List XV) (M : XM) : yru (xlk (pL_units Post)) cut WW (n + 1) 120 L st M = j_ald 4 2 120 L st M (ykk (xlk (pL_units Post)) cut WW n) := yf rfl
set_option maxRecDepth 100000 in
theorem fL_units_122 (Post : XPo) (cut : List Nat) (WW : XK) (n : Nat) (L : XLs) (st : List XV) (M : XM) : yru (xlk (pL_units Post)) cut WW (n + 1) 122 L st M = j_ild 6 2 122 L st M (ykk (xlk (pL_units Post)) cut WW n) := yf rfl
set_option maxRecDepth 100000 in
theorem fL_units_124 (Post : XPo) (cut : List Nat) (WW : XK) (n : Nat) (L : XLs) (st : List XV) (M : XM) : yru (xlk (pL_units Post)) cut WW (n + 1) 124 L st M = j_c 4 1 124 L st M (ykk (xlk (pL_units Post)) cut WW n) := yf rfl
set_option maxRecDepth 100000 in
theorem fL_units_125 (Post : XPo) (cut : List Nat) (WW : XK) (n : Nat) (L : XLs) (st : List XV) (M : XM) : yru (xlk (pL_units Post)) cut WW (n + 1) 125 L st M = j_add 125 L st M (ykk (xlk (pL_units Post)) cut WW n) := yf rfl
set_option maxRecDepth 100000 in
theorem fL_units_126 (Post : XPo) (cut : List Nat) (WW : XK) (n : Nat) (L : XLs) (st : List XV) (M : XM) : yru (xlk (pL_units Post)) cut WW (n + 1) 126 L st M = j_ald 3 1 126 L st M (ykk (xlk (pL_units Post)) cut WW n) := yf rfl
set_option maxRecDepth 100000 in
theorem fL_units_127 (Post : XPo) (cut : List Nat) (WW : XK) (n : Nat) (L : XLs) (st : List XV) (M : XM) : yru (xlk (pL_units Post)) cut WW (n + 1) 127 L st M = j_c 4 1 127 L st M (ykk (xlk (pL_units Post)) cut WW n) := yf rfl
set_option maxRecDepth 100000 in
theorem fL_units_128 (Post : XPo) (cut : List Nat) (WW : XK) (n : Nat) (L : XLs) (st : List XV) (M : XM) : yru (xlk (pL_units Post)) cut WW (n + 1) 128 L st M = j_iald 128 L st M (ykk (xlk (pL_units Post)) cut WW n) := yf rfl
set_option maxRecDepth 100000 in
theorem fL_units_129 (Post : XPo) (cut : List Nat) (WW : XK) (n : Nat) (L : XLs) (st : List XV) (M : XM) : yru (xlk (pL_units Post)) cut WW (n + 1) 129 L st M = j_c 1 1 129 L st M (ykk (xlk (pL_units Post)) cut WW n) := yf rfl
set_option maxRecDepth 100000 in
theorem fL_units_130 (Post : XPo) (cut : List Nat) (WW : XK) (n : Nat) (L : XLs) (st : List XV) (M : XM) : yru (xlk (pL_units Post)) cut WW (n + 1) 130 L st M = j_add 130 L st M (ykk (xlk (pL_units Post)) cut WW n) := yf rfl
set_option maxRecDepth 100000 in
theorem fL_units_131 (Post : XPo) (cut : List Nat) (WW : XK) (n : Nat) (L : XLs) (st : List XV) (M : XM) : yru (xlk (pL_units Post)) cut WW (n + 1) 131 L st M = j_ild 2 1 131 L st M (ykk (xlk (pL_units Post)) cut WW n) := yf rfl
set_option maxRecDepth 100000 in
theorem fL_units_132 (Post : XPo) (cut : List Nat) (WW : XK) (n : Nat) (L : XLs) (st : List XV) (M : XM) : yru (xlk (pL_units Post)) cut WW (n + 1) 132 L st M = j_c 13 2 132 L st M (ykk (xlk (pL_units Post)) cut WW n) := yf rfl
set_option maxRecDepth 100000 in
theorem fL_units_134 (Post : XPo) (cut : List Nat) (WW : XK) (n : Nat) (L : XLs) (st : List XV) (M : XM) : yru (xlk (pL_units Post)) cut WW (n + 1) 134 L st M = j_shr 134 L st M (ykk (xlk (pL_units Post)) cut WW n) := yf rfl
set_option maxRecDepth 100000 in
theorem fL_units_135 (Post : XPo) (cut : List Nat) (WW : XK) (n : Nat) (L : XLs) (st : List XV) (M : XM) : yru (xlk (pL_units Post)) cut WW (n + 1) 135 L st M = j_c 20 2 135 L st M (ykk (xlk (pL_units Post)) cut WW n) := yf rfl
set_option maxRecDepth 100000 in
theorem fL_units_137 (Post : XPo) (cut : List Nat) (WW : XK) (n : Nat) (L : XLs) (st : List XV) (M : XM) : yru (xlk (pL_units Post)) cut WW (n + 1) 137 L st M = j_Sn 2 sL_at 137 L st M (ykk (xlk (pL_units Post)) cut WW n) := yf rfl
set_option maxRecDepth 100000 in
theorem fL_units_140 (Post : XPo) (cut : List Nat) (WW : XK) (n : Nat) (L : XLs) (st : List XV) (M : XM) : yru (xlk (pL_units Post)) cut WW (n + 1) 140 L st M = j_add 140 L st M (ykk (xlk (pL_units Post)) cut WW n) := yf rfl
set_option maxRecDepth 100000 in
theorem fL_units_141 (Post : XPo) (cut : List Nat) (WW : XK) (n : Nat) (L : XLs) (st : List XV) (M : XM) : yru (xlk (pL_units Post)) cut WW (n + 1) 141 L st M = j_iast 141 L st M (ykk (xlk (pL_units Post)) cut WW n) := yf rfl
set_option maxRecDepth 100000 in
theorem fL_units_142 (Post : XPo) (cut : List Nat) (WW : XK) (n : Nat) (L : XLs) (st : List XV) (M : XM) : yru (xlk (pL_units Post)) cut WW (n + 1) 142 L st M = j_ald 4 2 142 L st M (ykk (xlk (pL_units Post)) cut WW n) := yf rfl
set_option maxRecDepth 100000 in
theorem fL_units_144 (Post : XPo) (cut : List Nat) (WW : XK) (n : Nat) (L : XLs) (st : List XV) (M : XM) : yru (xlk (pL_units Post)) cut WW (n + 1) 144 L st M = j_ild 6 2 144 L st M (ykk (xlk (pL_units Post)) cut WW n) := yf rfl
set_option maxRecDepth 100000 in
theorem fL_units_146 (Post : XPo) (cut : List Nat) (WW : XK) (n : Nat) (L : XLs) (st : List XV) (M : XM) : yru (xlk (pL_units Post)) cut WW (n + 1) 146 L st M = j_c 5 1 146 L st M (ykk (xlk (pL_units Post)) cut WW n) := yf rfl
set_option maxRecDepth 100000 in
theorem fL_units_147 (Post : XPo) (cut : List Nat) (WW : XK) (n : Nat) (L : XLs) (st : List XV) (M : XM) : yru (xlk (pL_units Post)) cut WW (n + 1) 147 L st M = j_add 147 L st M (ykk (xlk (pL_units Post)) cut WW n) := yf rfl
set_option maxRecDepth 100000 in
theorem fL_units_148 (Post : XPo) (cut : List Nat) (WW : XK) (n : Nat) (L : XLs) (st : List XV) (M : XM) : yru (xlk (pL_units Post)) cut WW (n + 1) 148 L st M = j_c 30 2 148 L st M (ykk (xlk (pL_units Post)) cut WW n) := yf rfl
set_option maxRecDepth 100000 in
theorem fL_units_150 (Post : XPo) (cut : List Nat) (WW : XK) (n : Nat) (L : XLs) (st : List XV) (M : XM) : yru (xlk (pL_units Post)) cut WW (n + 1) 150 L st M = j_ild 2 1 150 L st M (ykk (xlk (pL_units Post)) cut WW n) := yf rfl
set_option maxRecDepth 100000 in
theorem fL_units_151 (Post : XPo) (cut : List Nat) (WW : XK) (n : Nat) (L : XLs) (st : List XV) (M : XM) : yru (xlk (pL_units Post)) cut WW (n + 1) 151 L st M = j_c 17 2 151 L st M (ykk (xlk (pL_units Post)) cut WW n) := yf rfl
set_option maxRecDepth 100000 in
theorem fL_units_153 (Post : XPo) (cut : List Nat) (WW : XK) (n : Nat) (L : XLs) (st : List XV) (M : XM) : yru (xlk (pL_units Post)) cut WW (n + 1) 153 L st M = j_shr 153 L st M (ykk (xlk (pL_units Post)) cut WW n) := yf rfl
set_option maxRecDepth 100000 in
theorem fL_units_154 (Post : XPo) (cut : List Nat) (WW : XK) (n : Nat) (L : XLs) (st : List XV) (M : XM) : yru (xlk (pL_units Post)) cut WW (n + 1) 154 L st M = j_c 20 2 154 L st M (ykk (xlk (pL_units Post)) cut WW n) := yf rfl
set_option maxRecDepth 100000 in
theorem fL_units_156 (Post : XPo) (cut : List Nat) (WW : XK) (n : Nat) (L : XLs) (st : List XV) (M : XM) : yru (xlk (pL_units Post)) cut WW (n + 1) 156 L st M = j_Sn 2 sL_at 156 L st M (ykk (xlk (pL_units Post)) cut WW n) := yf rfl
set_option maxRecDepth 100000 in
theorem fL_units_159 (Post : XPo) (cut : List Nat) (WW : XK) (n : Nat) (L : XLs) (st : List XV) (M : XM) : yru (xlk (pL_units Post)) cut WW (n + 1) 159 L st M = j_add 159 L st M (ykk (xlk (pL_units Post)) cut WW n) := yf rfl
set_option maxRecDepth 100000 in
theorem fL_units_160 (Post : XPo) (cut : List Nat) (WW : XK) (n : Nat) (L : XLs) (st : List XV) (M : XM) : yru (xlk (pL_units Post)) cut WW (n + 1) 160 L st M = j_iast 160 L st M (ykk (xlk (pL_units Post)) cut WW n) := yf rfl
set_option maxRecDepth 100000 in
theorem fL_units_161 (Post : XPo) (cut : List Nat) (WW : XK) (n : Nat) (L : XLs) (st : List XV) (M : XM) : yru (xlk (pL_units Post)) cut WW (n + 1) 161 L st M = j_ald 4 2 161 L st M (ykk (xlk (pL_units Post)) cut WW n) := yf rfl
set_option maxRecDepth 100000 in
theorem fL_units_163 (Post : XPo) (cut : List Nat) (WW : XK) (n : Nat) (L : XLs) (st : List XV) (M : XM) : yru (xlk (pL_units Post)) cut WW (n + 1) 163 L st M = j_ild 6 2 163 L st M (ykk (xlk (pL_units Post)) cut WW n) := yf rfl
set_option maxRecDepth 100000 in
theorem fL_units_165 (Post : XPo) (cut : List Nat) (WW : XK) (n : Nat) (L : XLs) (st : List XV) (M : XM) : yru (xlk (pL_units Post)) cut WW (n + 1) 165 L st M = j_c 8 2 165 L st M (ykk (xlk (pL_units Post)) cut WW n) := yf rfl
set_option maxRecDepth 100000 in
theorem fL_units_167 (Post : XPo) (cut : List Nat) (WW : XK) (n : Nat) (L : XLs) (st : List XV) (M : XM) : yru (xlk (pL_units Post)) cut WW (n + 1) 167 L st M = j_add 167 L st M (ykk (xlk (pL_units Post)) cut WW n) := yf rfl
set_option maxRecDepth 100000 in
theorem fL_units_168 (Post : XPo) (cut : List Nat) (WW : XK) (n : Nat) (L : XLs) (st : List XV) (M : XM) : yru (xlk (pL_units Post)) cut WW (n + 1) 168 L st M = j_c (-1) 1 168 L st M (ykk (xlk (pL_units Post)) cut WW n) := yf rfl
set_option maxRecDepth 100000 in
theorem fL_units_169 (Post : XPo) (cut : List Nat) (WW : XK) (n : Nat) (L : XLs) (st : List XV) (M : XM) : yru (xlk (pL_units Post)) cut WW (n + 1) 169 L st M = j_iast 169 L st M (ykk (xlk (pL_units Post)) cut WW n) := yf rfl
set_option maxRecDepth 100000 in
theorem fL_units_170 (Post : XPo) (cut : List Nat) (WW : XK) (n : Nat) (L : XLs) (st : List XV) (M : XM) : yru (xlk (pL_units Post)) cut WW (n + 1) 170 L st M = j_ald 0 1 170 L st M (ykk (xlk (pL_units Post)) cut WW n) := yf rfl
set_option maxRecDepth 100000 in
theorem fL_units_171 (Post : XPo) (cut : List Nat) (WW : XK) (n : Nat) (L : XLs) (st : List XV) (M : XM) : yru (xlk (pL_units Post)) cut WW (n + 1) 171 L st M = j_ald 4 2 171 L st M (ykk (xlk (pL_units Post)) cut WW n) := yf rfl
set_option maxRecDepth 100000 in
theorem fL_units_173 (Post : XPo) (cut : List Nat) (WW : XK) (n : Nat) (L : XLs) (st : List XV) (M : XM) : yru (xlk (pL_units Post)) cut WW (n + 1) 173 L st M = j_ild 6 2 173 L st M (ykk (xlk (pL_units Post)) cut WW n) := yf rfl
set_option maxRecDepth 100000 in
theorem fL_units_175 (Post : XPo) (cut : List Nat) (WW : XK) (n : Nat) (L : XLs) (st : List XV) (M : XM) : yru (xlk (pL_units Post)) cut WW (n + 1) 175 L st M = j_c 1 1 175 L st M (ykk (xlk (pL_units Post)) cut WW n) := yf rfl
set_option maxRecDepth 100000 in
theorem fL_units_176 (Post : XPo) (cut : List Nat) (WW : XK) (n : Nat) (L : XLs) (st : List XV) (M : XM) : yru (xlk (pL_units Post)) cut WW (n + 1) 176 L st M = j_add 176 L st M (ykk (xlk (pL_units Post)) cut WW n) := yf rfl
set_option maxRecDepth 100000 in
theorem fL_units_177 (Post : XPo) (cut : List Nat) (WW : XK) (n : Nat) (L : XLs) (st : List XV) (M : XM) : yru (xlk (pL_units Post)) cut WW (n + 1) 177 L st M = j_iald 177 L st M (ykk (xlk (pL_units Post)) cut WW n) := yf rfl
set_option maxRecDepth 100000 in
theorem fL_units_178 (Post : XPo) (cut : List Nat) (WW : XK) (n : Nat) (L : XLs) (st : List XV) (M : XM) : yru (xlk (pL_units Post)) cut WW (n + 1) 178 L st M = j_ald 4 2 178 L st M (ykk (xlk (pL_units Post)) cut WW n) := yf rfl
set_option maxRecDepth 100000 in
theorem fL_units_180 (Post : XPo) (cut : List Nat) (WW : XK) (n : Nat) (L : XLs) (st : List XV) (M : XM) : yru (xlk (pL_units Post)) cut WW (n + 1) 180 L st M = j_ild 6 2 180 L st M (ykk (xlk (pL_units Post)) cut WW n) := yf rfl
set_option maxRecDepth 100000 in
theorem fL_units_182 (Post : XPo) (cut : List Nat) (WW : XK) (n : Nat) (L : XLs) (st : List XV) (M : XM) : yru (xlk (pL_units Post)) cut WW (n + 1) 182 L st M = j_c 2 1 182 L st M (ykk (xlk (pL_units Post)) cut WW n) := yf rfl
set_option maxRecDepth 100000 in
theorem fL_units_183 (Post : XPo) (cut : List Nat) (WW : XK) (n : Nat) (L : XLs) (st : List XV) (M : XM) : yru (xlk (pL_units Post)) cut WW (n + 1) 183 L st M = j_add 183 L st M (ykk (xlk (pL_units Post)) cut WW n) := yf rfl
set_option maxRecDepth 100000 in
theorem fL_units_184 (Post : XPo) (cut : List Nat) (WW : XK) (n : Nat) (L : XLs) (st : List XV) (M : XM) : yru (xlk (pL_units Post)) cut WW (n + 1) 184 L st M = j_iald 184 L st M (ykk (xlk (pL_units Post)) cut WW n) := yf rfl
set_option maxRecDepth 100000 in
theorem fL_units_185 (Post : XPo) (cut : List Nat) (WW : XK) (n : Nat) (L : XLs) (st : List XV) (M : XM) : yru (xlk (pL_units Post)) cut WW (n + 1) 185 L st M = j_ald 4 2 185 L st M (ykk (xlk (pL_units Post)) cut WW n) := yf rfl
set_option maxRecDepth 100000 in
theorem fL_units_187 (Post : XPo) (cut : List Nat) (WW : XK) (n : Nat) (L : XLs) (st : List XV) (M : XM) : yru (xlk (pL_units Post)) cut WW (n + 1) 187 L st M = j_ild 6 2 187 L st M (ykk (xlk (pL_units Post)) cut WW n) := yf rfl
set_option maxRecDepth 100000 in
theorem fL_units_189 (Post : XPo) (cut : List Nat) (WW : XK) (n : Nat) (L : XLs) (st : List XV) (M : XM) : yru (xlk (pL_units Post)) cut WW (n + 1) 189 L st M = j_c 3 1 189 L st M (ykk (xlk (pL_units Post)) cut WW n) := yf rfl
set_option maxRecDepth 100000 in
theorem fL_units_190 (Post : XPo) (cut : List Nat) (WW : XK) (n : Nat) (L : XLs) (st : List XV) (M : XM) : yru (xlk (pL_units Post)) cut WW (n + 1) 190 L st M = j_add 190 L st M (ykk (xlk (pL_units Post)) cut WW n) := yf rfl
set_option maxRecDepth 100000 in
theorem fL_units_191 (Post : XPo) (cut : List Nat) (WW : XK) (n : Nat) (L : XLs) (st : List XV) (M : XM) : yru (xlk (pL_units Post)) cut WW (n + 1) 191 L st M = j_iald 191 L st M (ykk (xlk (pL_units Post)) cut WW n) := yf rfl
set_option maxRecDepth 100000 in
theorem fL_units_192 (Post : XPo) (cut : List Nat) (WW : XK) (n : Nat) (L : XLs) (st : List XV) (M : XM) : yru (xlk (pL_units Post)) cut WW (n + 1) 192 L st M = j_ald 4 2 192 L st M (ykk (xlk (pL_units Post)) cut WW n) := yf rfl
set_option maxRecDepth 100000 in
theorem fL_units_194 (Post : XPo) (cut : List Nat) (WW : XK) (n : Nat) (L : XLs) (st : List XV) (M : XM) : yru (xlk (pL_units Post)) cut WW (n + 1) 194 L st M = j_ild 6 2 194 L st M (ykk (xlk (pL_units Post)) cut WW n) := yf rfl
set_option maxRecDepth 100000 in
theorem fL_units_196 (Post : XPo) (cut : List Nat) (WW : XK) (n : Nat) (L : XLs) (st : List XV) (M : XM) : yru (xlk (pL_units Post)) cut WW (n + 1) 196 L st M = j_c 4 1 196 L st M (ykk (xlk (pL_units Post)) cut WW n) := yf rfl
set_option maxRecDepth 100000 in
theorem fL_units_197 (Post : XPo) (cut : List Nat) (WW : XK) (n : Nat) (L : XLs) (st : List XV) (M : XM) : yru (xlk (pL_units Post)) cut WW (n + 1) 197 L st M = j_add 197 L st M (ykk (xlk (pL_units Post)) cut WW n) := yf rfl
set_option maxRecDepth 100000 in
theorem fL_units_198 (Post : XPo) (cut : List Nat) (WW : XK) (n : Nat) (L : XLs) (st : List XV) (M : XM) : yru (xlk (pL_units Post)) cut WW (n + 1) 198 L st M = j_iald 198 L st M (ykk (xlk (pL_units Post)) cut WW n) := yf rfl
set_option maxRecDepth 100000 in
theorem fL_units_199 (Post : XPo) (cut : List Nat) (WW : XK) (n : Nat) (L : XLs) (st : List XV) (M : XM) : yru (xlk (pL_units Post)) cut WW (n + 1) 199 L st M = j_ald 3 1 199 L st M (ykk (xlk (pL_units Post)) cut WW n) := yf rfl
set_option maxRecDepth 100000 in
theorem fL_units_200 (Post : XPo) (cut : List Nat) (WW : XK) (n : Nat) (L : XLs) (st : List XV) (M : XM) : yru (xlk (pL_units Post)) cut WW (n + 1) 200 L st M = j_c 4 1 200 L st M (ykk (xlk (pL_units Post)) cut WW n) := yf rfl
set_option maxRecDepth 100000 in
theorem fL_units_201 (Post : XPo) (cut : List Nat) (WW : XK) (n : Nat) (L : XLs) (st : List XV) (M : XM) : yru (xlk (pL_units Post)) cut WW (n + 1) 201 L st M = j_iald 201 L st M (ykk (xlk (pL_units Post)) cut WW n) := yf rfl
set_option maxRecDepth 100000 in
theorem fL_units_202 (Post : XPo) (cut : List Nat) (WW : XK) (n : Nat) (L : XLs) (st : List XV) (M : XM) : yru (xlk (pL_units Post)) cut WW (n + 1) 202 L st M = j_sub 202 L st M (ykk (xlk (pL_units Post)) cut WW n) := yf rfl
set_option maxRecDepth 100000 in
theorem fL_units_203 (Post : XPo) (cut : List Nat) (WW : XK) (n : Nat) (L : XLs) (st : List XV) (M : XM) : yru (xlk (pL_units Post)) cut WW (n + 1) 203 L st M = j_ald 4 2 203 L st M (ykk (xlk (pL_units Post)) cut WW n) := yf rfl
set_option maxRecDepth 100000 in
theorem fL_units_205 (Post : XPo) (cut : List Nat) (WW : XK) (n : Nat) (L : XLs) (st : List XV) (M : XM) : yru (xlk (pL_units Post)) cut WW (n + 1) 205 L st M = j_ild 6 2 205 L st M (ykk (xlk (pL_units Post)) cut WW n) := yf rfl
set_option maxRecDepth 100000 in
theorem fL_units_207 (Post : XPo) (cut : List Nat) (WW : XK) (n : Nat) (L : XLs) (st : List XV) (M : XM) : yru (xlk (pL_units Post)) cut WW (n + 1) 207 L st M = j_c 5 1 207 L st M (ykk (xlk (pL_units Post)) cut WW n) := yf rfl
set_option maxRecDepth 100000 in
theorem fL_units_208 (Post : XPo) (cut : List Nat) (WW : XK) (n : Nat) (L : XLs) (st : List XV) (M : XM) : yru (xlk (pL_units Post)) cut WW (n + 1) 208 L st M = j_add 208 L st M (ykk (xlk (pL_units Post)) cut WW n) := yf rfl
set_option maxRecDepth 100000 in
theorem fL_units_209 (Post : XPo) (cut : List Nat) (WW : XK) (n : Nat) (L : XLs) (st : List XV) (M : XM) : yru (xlk (pL_units Post)) cut WW (n + 1) 209 L st M = j_iald 209 L st M (ykk (xlk (pL_units Post)) cut WW n) := yf rfl
set_option maxRecDepth 100000 in
theorem fL_units_210 (Post : XPo) (cut : List Nat) (WW : XK) (n : Nat) (L : XLs) (st : List XV) (M : XM) : yru (xlk (pL_units Post)) cut WW (n + 1) 210 L st M = j_V5 0 sX7_addUnit 210 L st M (ykk (xlk (pL_units Post)) cut WW n) := yf rfl
set_option maxRecDepth 100000 in
theorem fL_units_213 (Post : XPo) (cut : List Nat) (WW : XK) (n : Nat) (L : XLs) (st : List XV) (M : XM) : yru (xlk (pL_units Post)) cut WW (n + 1) 213 L st M = j_ild 6 2 213 L st M (ykk (xlk (pL_units Post)) cut WW n) := yf rfl
set_option maxRecDepth 100000 in
theorem fL_units_215 (Post : XPo) (cut : List Nat) (WW : XK) (n : Nat) (L : XLs) (st : List XV) (M : XM) : yru (xlk (pL_units Post)) cut WW (n + 1) 215 L st M = j_c 12 2 215 L st M (ykk (xlk (pL_units Post)) cut WW n) := yf rfl
set_option maxRecDepth 100000 in
theorem fL_units_217 (Post : XPo) (cut : List Nat) (WW : XK) (n : Nat) (L : XLs) (st : List XV) (M : XM) : yru (xlk (pL_units Post)) cut WW (n + 1) 217 L st M = j_div 217 L st M (ykk (xlk (pL_units Post)) cut WW n) := yf rfl
set_option maxRecDepth 100000 in
theorem fL_units_218 (Post : XPo) (cut : List Nat) (WW : XK) (n : Nat) (L : XLs) (st : List XV) (M : XM) : yru (xlk (pL_units Post)) cut WW (n + 1) 218 L st M = j_ine 225 218 L st M (ykk (xlk (pL_units Post)) cut WW n) := yf rfl
set_option maxRecDepth 100000 in
theorem fL_units_221 (Post : XPo) (cut : List Nat) (WW : XK) (n : Nat) (L : XLs) (st : List XV) (M : XM) : yru (xlk (pL_units Post)) cut WW (n + 1) 221 L st M = j_c 1 1 221 L st M (ykk (xlk (pL_units Post)) cut WW n) := yf rfl
set_option maxRecDepth 100000 in
theorem fL_units_222 (Post : XPo) (cut : List Nat) (WW : XK) (n : Nat) (L : XLs) (st : List XV) (M : XM) : yru (xlk (pL_units Post)) cut WW (n + 1) 222 L st M = j_goto 226 222 L st M (ykk (xlk (pL_units Post)) cut WW n) := yf rfl
set_option maxRecDepth 100000 in
theorem fL_units_225 (Post : XPo) (cut : List Nat) (WW : XK) (n : Nat) (L : XLs) (st : List XV) (M : XM) : yru (xlk (pL_units Post)) cut WW (n + 1) 225 L st M = j_c 0 1 225 L st M (ykk (xlk (pL_units Post)) cut WW n) := yf rfl
set_option maxRecDepth 100000 in
theorem fL_units_226 (Post : XPo) (cut : List Nat) (WW : XK) (n : Nat) (L : XLs) (st : List XV) (M : XM) : yru (xlk (pL_units Post)) cut WW (n + 1) 226 L st M = j_zret Post 226 L st M (ykk (xlk (pL_units Post)) cut WW n) := yf rfl
set_option maxRecDepth 100000 in
theorem fL_units_227 (Post : XPo) (cut : List Nat) (WW : XK) (n : Nat) (L : XLs) (st : List XV) (M : XM) : yru (xlk (pL_units Post)) cut WW (n + 1) 227 L st M = j_c 12 2 227 L st M (ykk (xlk (pL_units Post)) cut WW n) := yf rfl
set_option maxRecDepth 100000 in
theorem fL_units_229 (Post : XPo) (cut : List Nat) (WW : XK) (n : Nat) (L : XLs) (st : List XV) (M : XM) : yru (xlk (pL_units Post)) cut WW (n + 1) 229 L st M = j_ild 2 1 229 L st M (ykk (xlk (pL_units Post)) cut WW n) := yf rfl
set_option maxRecDepth 100000 in
theorem fL_units_230 (Post : XPo) (cut : List Nat) (WW : XK) (n : Nat) (L : XLs) (st : List XV) (M : XM) : yru (xlk (pL_units Post)) cut WW (n + 1) 230 L st M = j_ald 3 1 230 L st M (ykk (xlk (pL_units Post)) cut WW n) := yf rfl
set_option maxRecDepth 100000 in
theorem fL_units_231 (Post : XPo) (cut : List Nat) (WW : XK) (n : Nat) (L : XLs) (st : List XV) (M : XM) : yru (xlk (pL_units Post)) cut WW (n + 1) 231 L st M = j_c 3 1 231 L st M (ykk (xlk (pL_units Post)) cut WW n) := yf rfl
set_option maxRecDepth 100000 in
theorem fL_units_232 (Post : XPo) (cut : List Nat) (WW : XK) (n : Nat) (L : XLs) (st : List XV) (M : XM) : yru (xlk (pL_units Post)) cut WW (n + 1) 232 L st M = j_iald 232 L st M (ykk (xlk (pL_units Post)) cut WW n) := yf rfl
set_option maxRecDepth 100000 in
theorem fL_units_233 (Post : XPo) (cut : List Nat) (WW : XK) (n : Nat) (L : XLs) (st : List XV) (M : XM) : yru (xlk (pL_units Post)) cut WW (n + 1) 233 L st M = j_Sn 2 sL_at 233 L st M (ykk (xlk (pL_units Post)) cut WW n) := yf rfl
set_option maxRecDepth 100000 in
theorem fL_units_236 (Post : XPo) (cut : List Nat) (WW : XK) (n : Nat) (L : XLs) (st : List XV) (M : XM) : yru (xlk (pL_units Post)) cut WW (n + 1) 236 L st M = j_mul 236 L st M (ykk (xlk (pL_units Post)) cut WW n) := yf rfl
set_option maxRecDepth 100000 in
theorem fL_units_237 (Post : XPo) (cut : List Nat) (WW : XK) (n : Nat) (L : XLs) (st : List XV) (M : XM) : yru (xlk (pL_units Post)) cut WW (n + 1) 237 L st M = j_ist 6 2 237 L st M (ykk (xlk (pL_units Post)) cut WW n) := yf rfl
set_option maxRecDepth 100000 in
theorem fL_units_239 (Post : XPo) (cut : List Nat) (WW : XK) (n : Nat) (L : XLs) (st : List XV) (M : XM) : yru (xlk (pL_units Post)) cut WW (n + 1) 239 L st M = j_c 12 2 239 L st M (ykk (xlk (pL_units Post)) cut WW n) := yf rfl
set_option maxRecDepth 100000 in
theorem fL_units_241 (Post : XPo) (cut : List Nat) (WW : XK) (n : Nat) (L : XLs) (st : List XV) (M : XM) : yru (xlk (pL_units Post)) cut WW (n + 1) 241 L st M = j_ild 2 1 241 L st M (ykk (xlk (pL_units Post)) cut WW n) := yf rfl
set_option maxRecDepth 100000 in
theorem fL_units_242 (Post : XPo) (cut : List Nat) (WW : XK) (n : Nat) (L : XLs) (st : List XV) (M : XM) : yru (xlk (pL_units Post)) cut WW (n + 1) 242 L st M = j_c 3 1 242 L st M (ykk (xlk (pL_units Post)) cut WW n) := yf rfl
set_option maxRecDepth 100000 in
theorem fL_units_243 (Post : XPo) (cut : List Nat) (WW : XK) (n : Nat) (L : XLs) (st : List XV) (M : XM) : yru (xlk (pL_units Post)) cut WW (n + 1) 243 L st M = j_shr 243 L st M (ykk (xlk (pL_units Post)) cut WW n) := yf rfl
set_option maxRecDepth 100000 in
theorem fL_units_244 (Post : XPo) (cut : List Nat) (WW : XK) (n : Nat) (L : XLs) (st : List XV) (M : XM) : yru (xlk (pL_units Post)) cut WW (n + 1) 244 L st M = j_ald 3 1 244 L st M (ykk (xlk (pL_units Post)) cut WW n) := yf rfl
set_option maxRecDepth 100000 in
theorem fL_units_245 (Post : XPo) (cut : List Nat) (WW : XK) (n : Nat) (L : XLs) (st : List XV) (M : XM) : yru (xlk (pL_units Post)) cut WW (n + 1) 245 L st M = j_c 3 1 245 L st M (ykk (xlk (pL_units Post)) cut WW n) := yf rfl
set_option maxRecDepth 100000 in
theorem fL_units_246 (Post : XPo) (cut : List Nat) (WW : XK) (n : Nat) (L : XLs) (st : List XV) (M : XM) : yru (xlk (pL_units Post)) cut WW (n + 1) 246 L st M = j_iald 246 L st M (ykk (xlk (pL_units Post)) cut WW n) := yf rfl
set_option maxRecDepth 100000 in
theorem fL_units_247 (Post : XPo) (cut : List Nat) (WW : XK) (n : Nat) (L : XLs) (st : List XV) (M : XM) : yru (xlk (pL_units Post)) cut WW (n + 1) 247 L st M = j_Sn 2 sL_at 247 L st M (ykk (xlk (pL_units Post)) cut WW n) := yf rfl
set_option maxRecDepth 100000 in
theorem fL_units_250 (Post : XPo) (cut : List Nat) (WW : XK) (n : Nat) (L : XLs) (st : List XV) (M : XM) : yru (xlk (pL_units Post)) cut WW (n + 1) 250 L st M = j_mul 250 L st M (ykk (xlk (pL_units Post)) cut WW n) := yf rfl
set_option maxRecDepth 100000 in
theorem fL_units_251 (Post : XPo) (cut : List Nat) (WW : XK) (n : Nat) (L : XLs) (st : List XV) (M : XM) : yru (xlk (pL_units Post)) cut WW (n + 1) 251 L st M = j_ist 7 2 251 L st M (ykk (xlk (pL_units Post)) cut WW n) := yf rfl
set_option maxRecDepth 100000 in
theorem fL_units_253 (Post : XPo) (cut : List Nat) (WW : XK) (n : Nat) (L : XLs) (st : List XV) (M : XM) : yru (xlk (pL_units Post)) cut WW (n + 1) 253 L st M = j_ald 4 2 253 L st M (ykk (xlk (pL_units Post)) cut WW n) := yf rfl
set_option maxRecDepth 100000 in
theorem fL_units_255 (Post : XPo) (cut : List Nat) (WW : XK) (n : Nat) (L : XLs) (st : List XV) (M : XM) : yru (xlk (pL_units Post)) cut WW (n + 1) 255 L st M = j_ild 6 2 255 L st M (ykk (xlk (pL_units Post)) cut WW n) := yf rfl
set_option maxRecDepth 100000 in
theorem fL_units_257 (Post : XPo) (cut : List Nat) (WW : XK) (n : Nat) (L : XLs) (st : List XV) (M : XM) : yru (xlk (pL_units Post)) cut WW (n + 1) 257 L st M = j_iald 257 L st M (ykk (xlk (pL_units Post)) cut WW n) := yf rfl
set_option maxRecDepth 100000 in
theorem fL_units_258 (Post : XPo) (cut : List Nat) (WW : XK) (n : Nat) (L : XLs) (st : List XV) (M : XM) : yru (xlk (pL_units Post)) cut WW (n + 1) 258 L st M = j_eq 263 258 L st M (ykk (xlk (pL_units Post)) cut WW n) := yf rfl
set_option maxRecDepth 100000 in
theorem fL_units_261 (Post : XPo) (cut : List Nat) (WW : XK) (n : Nat) (L : XLs) (st : List XV) (M : XM) : yru (xlk (pL_units Post)) cut WW (n + 1) 261 L st M = j_c 1 1 261 L st M (ykk (xlk (pL_units Post)) cut WW n) := yf rfl
set_option maxRecDepth 100000 in
theorem fL_units_262 (Post : XPo) (cut : List Nat) (WW : XK) (n : Nat) (L : XLs) (st : List XV) (M : XM) : yru (xlk (pL_units Post)) cut WW (n + 1) 262 L st M = j_zret Post 262 L st M (ykk (xlk (pL_units Post)) cut WW n) := yf rfl
set_option maxRecDepth 100000 in
theorem fL_units_263 (Post : XPo) (cut : List Nat) (WW : XK) (n : Nat) (L : XLs) (st : List XV) (M : XM) : yru (xlk (pL_units Post)) cut WW (n + 1) 263 L st M = j_ild 5 2 263 L st M (ykk (xlk (pL_units Post)) cut WW n) := yf rfl
set_option maxRecDepth 100000 in
theorem fL_units_265 (Post : XPo) (cut : List Nat) (WW : XK) (n : Nat) (L : XLs) (st : List XV) (M : XM) : yru (xlk (pL_units Post)) cut WW (n + 1) 265 L st M = j_c 4 1 265 L st M (ykk (xlk (pL_units Post)) cut WW n) := yf rfl
set_option maxRecDepth 100000 in
theorem fL_units_266 (Post : XPo) (cut : List Nat) (WW : XK) (n : Nat) (L : XLs) (st : List XV) (M : XM) : yru (xlk (pL_units Post)) cut WW (n + 1) 266 L st M = j_ige 322 266 L st M (ykk (xlk (pL_units Post)) cut WW n) := yf rfl
set_option maxRecDepth 100000 in
theorem fL_units_269 (Post : XPo) (cut : List Nat) (WW : XK) (n : Nat) (L : XLs) (st : List XV) (M : XM) : yru (xlk (pL_units Post)) cut WW (n + 1) 269 L st M = j_ald 4 2 269 L st M (ykk (xlk (pL_units Post)) cut WW n) := yf rfl
set_option maxRecDepth 100000 in
theorem fL_units_271 (Post : XPo) (cut : List Nat) (WW : XK) (n : Nat) (L : XLs) (st : List XV) (M : XM) : yru (xlk (pL_units Post)) cut WW (n + 1) 271 L st M = j_ild 6 2 271 L st M (ykk (xlk (pL_units Post)) cut WW n) := yf rfl
set_option maxRecDepth 100000 in
theorem fL_units_273 (Post : XPo) (cut : List Nat) (WW : XK) (n : Nat) (L : XLs) (st : List XV) (M : XM) : yru (xlk (pL_units Post)) cut WW (n + 1) 273 L st M = j_c 1 1 273 L st M (ykk (xlk (pL_units Post)) cut WW n) := yf rfl
set_option maxRecDepth 100000 in
theorem fL_units_274 (Post : XPo) (cut : List Nat) (WW : XK) (n : Nat) (L : XLs) (st : List XV) (M : XM) : yru (xlk (pL_units Post)) cut WW (n + 1) 274 L st M = j_add 274 L st M (ykk (xlk (pL_units Post)) cut WW n) := yf rfl
set_option maxRecDepth 100000 in
theorem fL_units_275 (Post : XPo) (cut : List Nat) (WW : XK) (n : Nat) (L : XLs) (st : List XV) (M : XM) : yru (xlk (pL_units Post)) cut WW (n + 1) 275 L st M = j_iald 275 L st M (ykk (xlk (pL_units Post)) cut WW n) := yf rfl
set_option maxRecDepth 100000 in
theorem fL_units_276 (Post : XPo) (cut : List Nat) (WW : XK) (n : Nat) (L : XLs) (st : List XV) (M : XM) : yru (xlk (pL_units Post)) cut WW (n + 1) 276 L st M = j_ist 8 2 276 L st M (ykk (xlk (pL_units Post)) cut WW n) := yf rfl
set_option maxRecDepth 100000 in
theorem fL_units_278 (Post : XPo) (cut : List Nat) (WW : XK) (n : Nat) (L : XLs) (st : List XV) (M : XM) : yru (xlk (pL_units Post)) cut WW (n + 1) 278 L st M = j_ald 4 2 278 L st M (ykk (xlk (pL_units Post)) cut WW n) := yf rfl
set_option maxRecDepth 100000 in
theorem fL_units_280 (Post : XPo) (cut : List Nat) (WW : XK) (n : Nat) (L : XLs) (st : List XV) (M : XM) : yru (xlk (pL_units Post)) cut WW (n + 1) 280 L st M = j_ild 6 2 280 L st M (ykk (xlk (pL_units Post)) cut WW n) := yf rfl
set_option maxRecDepth 100000 in
theorem fL_units_282 (Post : XPo) (cut : List Nat) (WW : XK) (n : Nat) (L : XLs) (st : List XV) (M : XM) : yru (xlk (pL_units Post)) cut WW (n + 1) 282 L st M = j_c 1 1 282 L st M (ykk (xlk (pL_units Post)) cut WW n) := yf rfl
set_option maxRecDepth 100000 in
theorem fL_units_283 (Post : XPo) (cut : List Nat) (WW : XK) (n : Nat) (L : XLs) (st : List XV) (M : XM) : yru (xlk (pL_units Post)) cut WW (n + 1) 283 L st M = j_add 283 L st M (ykk (xlk (pL_units Post)) cut WW n) := yf rfl
set_option maxRecDepth 100000 in
theorem fL_units_284 (Post : XPo) (cut : List Nat) (WW : XK) (n : Nat) (L : XLs) (st : List XV) (M : XM) : yru (xlk (pL_units Post)) cut WW (n + 1) 284 L st M = j_ild 2 1 284 L st M (ykk (xlk (pL_units Post)) cut WW n) := yf rfl
set_option maxRecDepth 100000 in
theorem fL_units_285 (Post : XPo) (cut : List Nat) (WW : XK) (n : Nat) (L : XLs) (st : List XV) (M : XM) : yru (xlk (pL_units Post)) cut WW (n + 1) 285 L st M = j_c 6 2 285 L st M (ykk (xlk (pL_units Post)) cut WW n) := yf rfl
set_option maxRecDepth 100000 in
theorem fL_units_287 (Post : XPo) (cut : List Nat) (WW : XK) (n : Nat) (L : XLs) (st : List XV) (M : XM) : yru (xlk (pL_units Post)) cut WW (n + 1) 287 L st M = j_shr 287 L st M (ykk (xlk (pL_units Post)) cut WW n) := yf rfl
set_option maxRecDepth 100000 in
theorem fL_units_288 (Post : XPo) (cut : List Nat) (WW : XK) (n : Nat) (L : XLs) (st : List XV) (M : XM) : yru (xlk (pL_units Post)) cut WW (n + 1) 288 L st M = j_ald 3 1 288 L st M (ykk (xlk (pL_units Post)) cut WW n) := yf rfl
set_option maxRecDepth 100000 in
theorem fL_units_289 (Post : XPo) (cut : List Nat) (WW : XK) (n : Nat) (L : XLs) (st : List XV) (M : XM) : yru (xlk (pL_units Post)) cut WW (n + 1) 289 L st M = j_c 0 1 289 L st M (ykk (xlk (pL_units Post)) cut WW n) := yf rfl
set_option maxRecDepth 100000 in
theorem fL_units_290 (Post : XPo) (cut : List Nat) (WW : XK) (n : Nat) (L : XLs) (st : List XV) (M : XM) : yru (xlk (pL_units Post)) cut WW (n + 1) 290 L st M = j_iald 290 L st M (ykk (xlk (pL_units Post)) cut WW n) := yf rfl
set_option maxRecDepth 100000 in
theorem fL_units_291 (Post : XPo) (cut : List Nat) (WW : XK) (n : Nat) (L : XLs) (st : List XV) (M : XM) : yru (xlk (pL_units Post)) cut WW (n + 1) 291 L st M = j_Sn 2 sL_at 291 L st M (ykk (xlk (pL_units Post)) cut WW n) := yf rfl
set_option maxRecDepth 100000 in
theorem fL_units_294 (Post : XPo) (cut : List Nat) (WW : XK) (n : Nat) (L : XLs) (st : List XV) (M : XM) : yru (xlk (pL_units Post)) cut WW (n + 1) 294 L st M = j_iast 294 L st M (ykk (xlk (pL_units Post)) cut WW n) := yf rfl
set_option maxRecDepth 100000 in
theorem fL_units_295 (Post : XPo) (cut : List Nat) (WW : XK) (n : Nat) (L : XLs) (st : List XV) (M : XM) : yru (xlk (pL_units Post)) cut WW (n + 1) 295 L st M = j_ald 0 1 295 L st M (ykk (xlk (pL_units Post)) cut WW n) := yf rfl
set_option maxRecDepth 100000 in
theorem fL_units_296 (Post : XPo) (cut : List Nat) (WW : XK) (n : Nat) (L : XLs) (st : List XV) (M : XM) : yru (xlk (pL_units Post)) cut WW (n + 1) 296 L st M = j_ild 6 2 296 L st M (ykk (xlk (pL_units Post)) cut WW n) := yf rfl
set_option maxRecDepth 100000 in
theorem fL_units_298 (Post : XPo) (cut : List Nat) (WW : XK) (n : Nat) (L : XLs) (st : List XV) (M : XM) : yru (xlk (pL_units Post)) cut WW (n + 1) 298 L st M = j_c 12 2 298 L st M (ykk (xlk (pL_units Post)) cut WW n) := yf rfl
set_option maxRecDepth 100000 in
theorem fL_units_300 (Post : XPo) (cut : List Nat) (WW : XK) (n : Nat) (L : XLs) (st : List XV) (M : XM) : yru (xlk (pL_units Post)) cut WW (n + 1) 300 L st M = j_div 300 L st M (ykk (xlk (pL_units Post)) cut WW n) := yf rfl
set_option maxRecDepth 100000 in
theorem fL_units_301 (Post : XPo) (cut : List Nat) (WW : XK) (n : Nat) (L : XLs) (st : List XV) (M : XM) : yru (xlk (pL_units Post)) cut WW (n + 1) 301 L st M = j_ald 4 2 301 L st M (ykk (xlk (pL_units Post)) cut WW n) := yf rfl
set_option maxRecDepth 100000 in
theorem fL_units_303 (Post : XPo) (cut : List Nat) (WW : XK) (n : Nat) (L : XLs) (st : List XV) (M : XM) : yru (xlk (pL_units Post)) cut WW (n + 1) 303 L st M = j_ild 6 2 303 L st M (ykk (xlk (pL_units Post)) cut WW n) := yf rfl
set_option maxRecDepth 100000 in
theorem fL_units_305 (Post : XPo) (cut : List Nat) (WW : XK) (n : Nat) (L : XLs) (st : List XV) (M : XM) : yru (xlk (pL_units Post)) cut WW (n + 1) 305 L st M = j_c 1 1 305 L st M (ykk (xlk (pL_units Post)) cut WW n) := yf rfl
set_option maxRecDepth 100000 in
theorem fL_units_306 (Post : XPo) (cut : List Nat) (WW : XK) (n : Nat) (L : XLs) (st : List XV) (M : XM) : yru (xlk (pL_units Post)) cut WW (n + 1) 306 L st M = j_add 306 L st M (ykk (xlk (pL_units Post)) cut WW n) := yf rfl
set_option maxRecDepth 100000 in
theorem fL_units_307 (Post : XPo) (cut : List Nat) (WW : XK) (n : Nat) (L : XLs) (st : List XV) (M : XM) : yru (xlk (pL_units Post)) cut WW (n + 1) 307 L st M = j_iald 307 L st M (ykk (xlk (pL_units Post)) cut WW n) := yf rfl
set_option maxRecDepth 100000 in
theorem fL_units_308 (Post : XPo) (cut : List Nat) (WW : XK) (n : Nat) (L : XLs) (st : List XV) (M : XM) : yru (xlk (pL_units Post)) cut WW (n + 1) 308 L st M = j_V2 0 sX7_move 308 L st M (ykk (xlk (pL_units Post)) cut WW n) := yf rfl
set_option maxRecDepth 100000 in
theorem fL_units_311 (Post : XPo) (cut : List Nat) (WW : XK) (n : Nat) (L : XLs) (st : List XV) (M : XM) : yru (xlk (pL_units Post)) cut WW (n + 1) 311 L st M = j_ild 8 2 311 L st M (ykk (xlk (pL_units Post)) cut WW n) := yf rfl
set_option maxRecDepth 100000 in
theorem fL_units_313 (Post : XPo) (cut : List Nat) (WW : XK) (n : Nat) (L : XLs) (st : List XV) (M : XM) : yru (xlk (pL_units Post)) cut WW (n + 1) 313 L st M = j_ine 320 313 L st M (ykk (xlk (pL_units Post)) cut WW n) := yf rfl
set_option maxRecDepth 100000 in
theorem fL_units_316 (Post : XPo) (cut : List Nat) (WW : XK) (n : Nat) (L : XLs) (st : List XV) (M : XM) : yru (xlk (pL_units Post)) cut WW (n + 1) 316 L st M = j_c 1 1 316 L st M (ykk (xlk (pL_units Post)) cut WW n) := yf rfl
set_option maxRecDepth 100000 in
theorem fL_units_317 (Post : XPo) (cut : List Nat) (WW : XK) (n : Nat) (L : XLs) (st : List XV) (M : XM) : yru (xlk (pL_units Post)) cut WW (n + 1) 317 L st M = j_goto 321 317 L st M (ykk (xlk (pL_units Post)) cut WW n) := yf rfl
set_option maxRecDepth 100000 in
theorem fL_units_320 (Post : XPo) (cut : List Nat) (WW : XK) (n : Nat) (L : XLs) (st : List XV) (M : XM) : yru (xlk (pL_units Post)) cut WW (n + 1) 320 L st M = j_c 0 1 320 L st M (ykk (xlk (pL_units Post)) cut WW n) := yf rfl
set_option maxRecDepth 100000 in
theorem fL_units_321 (Post : XPo) (cut : List Nat) (WW : XK) (n : Nat) (L : XLs) (st : List XV) (M : XM) : yru (xlk (pL_units Post)) cut WW (n + 1) 321 L st M = j_zret Post 321 L st M (ykk (xlk (pL_units Post)) cut WW n) := yf rfl
set_option maxRecDepth 100000 in
theorem fL_units_322 (Post : XPo) (cut : List Nat) (WW : XK) (n : Nat) (L : XLs) (st : List XV) (M : XM) : yru (xlk (pL_units Post)) cut WW (n + 1) 322 L st M = j_ild 5 2 322 L st M (ykk (xlk (pL_units Post)) cut WW n) := yf rfl
set_option maxRecDepth 100000 in
theorem fL_units_324 (Post : XPo) (cut : List Nat) (WW : XK) (n : Nat) (L : XLs) (st : List XV) (M : XM) : yru (xlk (pL_units Post)) cut WW (n + 1) 324 L st M = j_c 6 2 324 L st M (ykk (xlk (pL_units Post)) cut WW n) := yf rfl
set_option maxRecDepth 100000 in
theorem fL_units_326 (Post : XPo) (cut : List Nat) (WW : XK) (n : Nat) (L : XLs) (st : List XV) (M : XM) : yru (xlk (pL_units Post)) cut WW (n + 1) 326 L st M = j_ige 556 326 L st M (ykk (xlk (pL_units Post)) cut WW n) := yf rfl
set_option maxRecDepth 100000 in
theorem fL_units_329 (Post : XPo) (cut : List Nat) (WW : XK) (n : Nat) (L : XLs) (st : List XV) (M : XM) : yru (xlk (pL_units Post)) cut WW (n + 1) 329 L st M = j_c 1 1 329 L st M (ykk (xlk (pL_units Post)) cut WW n) := yf rfl
set_option maxRecDepth 100000 in
theorem fL_units_330 (Post : XPo) (cut : List Nat) (WW : XK) (n : Nat) (L : XLs) (st : List XV) (M : XM) : yru (xlk (pL_units Post)) cut WW (n + 1) 330 L st M = j_ild 2 1 330 L st M (ykk (xlk (pL_units Post)) cut WW n) := yf rfl
set_option maxRecDepth 100000 in
theorem fL_units_331 (Post : XPo) (cut : List Nat) (WW : XK) (n : Nat) (L : XLs) (st : List XV) (M : XM) : yru (xlk (pL_units Post)) cut WW (n + 1) 331 L st M = j_c 6 2 331 L st M (ykk (xlk (pL_units Post)) cut WW n) := yf rfl
set_option maxRecDepth 100000 in
theorem fL_units_333 (Post : XPo) (cut : List Nat) (WW : XK) (n : Nat) (L : XLs) (st : List XV) (M : XM) : yru (xlk (pL_units Post)) cut WW (n + 1) 333 L st M = j_shr 333 L st M (ykk (xlk (pL_units Post)) cut WW n) := yf rfl
set_option maxRecDepth 100000 in
theorem fL_units_334 (Post : XPo) (cut : List Nat) (WW : XK) (n : Nat) (L : XLs) (st : List XV) (M : XM) : yru (xlk (pL_units Post)) cut WW (n + 1) 334 L st M = j_c 20 2 334 L st M (ykk (xlk (pL_units Post)) cut WW n) := yf rfl
set_option maxRecDepth 100000 in
theorem fL_units_336 (Post : XPo) (cut : List Nat) (WW : XK) (n : Nat) (L : XLs) (st : List XV) (M : XM) : yru (xlk (pL_units Post)) cut WW (n + 1) 336 L st M = j_Sn 2 sL_at 336 L st M (ykk (xlk (pL_units Post)) cut WW n) := yf rfl
set_option maxRecDepth 100000 in
theorem fL_units_339 (Post : XPo) (cut : List Nat) (WW : XK) (n : Nat) (L : XLs) (st : List XV) (M : XM) : yru (xlk (pL_units Post)) cut WW (n + 1) 339 L st M = j_add 339 L st M (ykk (xlk (pL_units Post)) cut WW n) := yf rfl
set_option maxRecDepth 100000 in
theorem fL_units_340 (Post : XPo) (cut : List Nat) (WW : XK) (n : Nat) (L : XLs) (st : List XV) (M : XM) : yru (xlk (pL_units Post)) cut WW (n + 1) 340 L st M = j_ist 8 2 340 L st M (ykk (xlk (pL_units Post)) cut WW n) := yf rfl
set_option maxRecDepth 100000 in
theorem fL_units_342 (Post : XPo) (cut : List Nat) (WW : XK) (n : Nat) (L : XLs) (st : List XV) (M : XM) : yru (xlk (pL_units Post)) cut WW (n + 1) 342 L st M = j_ild 2 1 342 L st M (ykk (xlk (pL_units Post)) cut WW n) := yf rfl
set_option maxRecDepth 100000 in
theorem fL_units_343 (Post : XPo) (cut : List Nat) (WW : XK) (n : Nat) (L : XLs) (st : List XV) (M : XM) : yru (xlk (pL_units Post)) cut WW (n + 1) 343 L st M = j_c 11 2 343 L st M (ykk (xlk (pL_units Post)) cut WW n) := yf rfl
set_option maxRecDepth 100000 in
theorem fL_units_345 (Post : XPo) (cut : List Nat) (WW : XK) (n : Nat) (L : XLs) (st : List XV) (M : XM) : yru (xlk (pL_units Post)) cut WW (n + 1) 345 L st M = j_shr 345 L st M (ykk (xlk (pL_units Post)) cut WW n) := yf rfl
set_option maxRecDepth 100000 in
theorem fL_units_346 (Post : XPo) (cut : List Nat) (WW : XK) (n : Nat) (L : XLs) (st : List XV) (M : XM) : yru (xlk (pL_units Post)) cut WW (n + 1) 346 L st M = j_ild 8 2 346 L st M (ykk (xlk (pL_units Post)) cut WW n) := yf rfl
set_option maxRecDepth 100000 in
theorem fL_units_348 (Post : XPo) (cut : List Nat) (WW : XK) (n : Nat) (L : XLs) (st : List XV) (M : XM) : yru (xlk (pL_units Post)) cut WW (n + 1) 348 L st M = j_c 1 1 348 L st M (ykk (xlk (pL_units Post)) cut WW n) := yf rfl
set_option maxRecDepth 100000 in
theorem fL_units_349 (Post : XPo) (cut : List Nat) (WW : XK) (n : Nat) (L : XLs) (st : List XV) (M : XM) : yru (xlk (pL_units Post)) cut WW (n + 1) 349 L st M = j_add 349 L st M (ykk (xlk (pL_units Post)) cut WW n) := yf rfl
set_option maxRecDepth 100000 in
theorem fL_units_350 (Post : XPo) (cut : List Nat) (WW : XK) (n : Nat) (L : XLs) (st : List XV) (M : XM) : yru (xlk (pL_units Post)) cut WW (n + 1) 350 L st M = j_Sn 2 sL_at 350 L st M (ykk (xlk (pL_units Post)) cut WW n) := yf rfl
set_option maxRecDepth 100000 in
theorem fL_units_353 (Post : XPo) (cut : List Nat) (WW : XK) (n : Nat) (L : XLs) (st : List XV) (M : XM) : yru (xlk (pL_units Post)) cut WW (n + 1) 353 L st M = j_ist 9 2 353 L st M (ykk (xlk (pL_units Post)) cut WW n) := yf rfl
set_option maxRecDepth 100000 in
theorem fL_units_355 (Post : XPo) (cut : List Nat) (WW : XK) (n : Nat) (L : XLs) (st : List XV) (M : XM) : yru (xlk (pL_units Post)) cut WW (n + 1) 355 L st M = j_ald 3 1 355 L st M (ykk (xlk (pL_units Post)) cut WW n) := yf rfl
set_option maxRecDepth 100000 in
theorem fL_units_356 (Post : XPo) (cut : List Nat) (WW : XK) (n : Nat) (L : XLs) (st : List XV) (M : XM) : yru (xlk (pL_units Post)) cut WW (n + 1) 356 L st M = j_c 3 1 356 L st M (ykk (xlk (pL_units Post)) cut WW n) := yf rfl
set_option maxRecDepth 100000 in
theorem fL_units_357 (Post : XPo) (cut : List Nat) (WW : XK) (n : Nat) (L : XLs) (st : List XV) (M : XM) : yru (xlk (pL_units Post)) cut WW (n + 1) 357 L st M = j_iald 357 L st M (ykk (xlk (pL_units Post)) cut WW n) := yf rfl
set_option maxRecDepth 100000 in
theorem fL_units_358 (Post : XPo) (cut : List Nat) (WW : XK) (n : Nat) (L : XLs) (st : List XV) (M : XM) : yru (xlk (pL_units Post)) cut WW (n + 1) 358 L st M = j_c 5 1 358 L st M (ykk (xlk (pL_units Post)) cut WW n) := yf rfl
set_option maxRecDepth 100000 in
theorem fL_units_359 (Post : XPo) (cut : List Nat) (WW : XK) (n : Nat) (L : XLs) (st : List XV) (M : XM) : yru (xlk (pL_units Post)) cut WW (n + 1) 359 L st M = j_ieq 409 359 L st M (ykk (xlk (pL_units Post)) cut WW n) := yf rfl
set_option maxRecDepth 100000 in
theorem fL_units_362 (Post : XPo) (cut : List Nat) (WW : XK) (n : Nat) (L : XLs) (st : List XV) (M : XM) : yru (xlk (pL_units Post)) cut WW (n + 1) 362 L st M = j_ald 4 2 362 L st M (ykk (xlk (pL_units Post)) cut WW n) := yf rfl
set_option maxRecDepth 100000 in
theorem fL_units_364 (Post : XPo) (cut : List Nat) (WW : XK) (n : Nat) (L : XLs) (st : List XV) (M : XM) : yru (xlk (pL_units Post)) cut WW (n + 1) 364 L st M = j_ild 6 2 364 L st M (ykk (xlk (pL_units Post)) cut WW n) := yf rfl
set_option maxRecDepth 100000 in
theorem fL_units_366 (Post : XPo) (cut : List Nat) (WW : XK) (n : Nat) (L : XLs) (st : List XV) (M : XM) : yru (xlk (pL_units Post)) cut WW (n + 1) 366 L st M = j_c 2 1 366 L st M (ykk (xlk (pL_units Post)) cut WW n) := yf rfl
set_option maxRecDepth 100000 in
theorem fL_units_367 (Post : XPo) (cut : List Nat) (WW : XK) (n : Nat) (L : XLs) (st : List XV) (M : XM) : yru (xlk (pL_units Post)) cut WW (n + 1) 367 L st M = j_add 367 L st M (ykk (xlk (pL_units Post)) cut WW n) := yf rfl
set_option maxRecDepth 100000 in
theorem fL_units_368 (Post : XPo) (cut : List Nat) (WW : XK) (n : Nat) (L : XLs) (st : List XV) (M : XM) : yru (xlk (pL_units Post)) cut WW (n + 1) 368 L st M = j_iald 368 L st M (ykk (xlk (pL_units Post)) cut WW n) := yf rfl
set_option maxRecDepth 100000 in
theorem fL_units_369 (Post : XPo) (cut : List Nat) (WW : XK) (n : Nat) (L : XLs) (st : List XV) (M : XM) : yru (xlk (pL_units Post)) cut WW (n + 1) 369 L st M = j_ild 8 2 369 L st M (ykk (xlk (pL_units Post)) cut WW n) := yf rfl
set_option maxRecDepth 100000 in
theorem fL_units_371 (Post : XPo) (cut : List Nat) (WW : XK) (n : Nat) (L : XLs) (st : List XV) (M : XM) : yru (xlk (pL_units Post)) cut WW (n + 1) 371 L st M = j_ile 409 371 L st M (ykk (xlk (pL_units Post)) cut WW n) := yf rfl
set_option maxRecDepth 100000 in
theorem fL_units_374 (Post : XPo) (cut : List Nat) (WW : XK) (n : Nat) (L : XLs) (st : List XV) (M : XM) : yru (xlk (pL_units Post)) cut WW (n + 1) 374 L st M = j_ald 4 2 374 L st M (ykk (xlk (pL_units Post)) cut WW n) := yf rfl
set_option maxRecDepth 100000 in
theorem fL_units_376 (Post : XPo) (cut : List Nat) (WW : XK) (n : Nat) (L : XLs) (st : List XV) (M : XM) : yru (xlk (pL_units Post)) cut WW (n + 1) 376 L st M = j_ild 6 2 376 L st M (ykk (xlk (pL_units Post)) cut WW n) := yf rfl
set_option maxRecDepth 100000 in
theorem fL_units_378 (Post : XPo) (cut : List Nat) (WW : XK) (n : Nat) (L : XLs) (st : List XV) (M : XM) : yru (xlk (pL_units Post)) cut WW (n + 1) 378 L st M = j_c 3 1 378 L st M (ykk (xlk (pL_units Post)) cut WW n) := yf rfl
set_option maxRecDepth 100000 in
theorem fL_units_379 (Post : XPo) (cut : List Nat) (WW : XK) (n : Nat) (L : XLs) (st : List XV) (M : XM) : yru (xlk (pL_units Post)) cut WW (n + 1) 379 L st M = j_add 379 L st M (ykk (xlk (pL_units Post)) cut WW n) := yf rfl
set_option maxRecDepth 100000 in
theorem fL_units_380 (Post : XPo) (cut : List Nat) (WW : XK) (n : Nat) (L : XLs) (st : List XV) (M : XM) : yru (xlk (pL_units Post)) cut WW (n + 1) 380 L st M = j_iald 380 L st M (ykk (xlk (pL_units Post)) cut WW n) := yf rfl
set_option maxRecDepth 100000 in
theorem fL_units_381 (Post : XPo) (cut : List Nat) (WW : XK) (n : Nat) (L : XLs) (st : List XV) (M : XM) : yru (xlk (pL_units Post)) cut WW (n + 1) 381 L st M = j_ild 9 2 381 L st M (ykk (xlk (pL_units Post)) cut WW n) := yf rfl
set_option maxRecDepth 100000 in
theorem fL_units_383 (Post : XPo) (cut : List Nat) (WW : XK) (n : Nat) (L : XLs) (st : List XV) (M : XM) : yru (xlk (pL_units Post)) cut WW (n + 1) 383 L st M = j_ilt 409 383 L st M (ykk (xlk (pL_units Post)) cut WW n) := yf rfl
set_option maxRecDepth 100000 in
theorem fL_units_386 (Post : XPo) (cut : List Nat) (WW : XK) (n : Nat) (L : XLs) (st : List XV) (M : XM) : yru (xlk (pL_units Post)) cut WW (n + 1) 386 L st M = j_ald 4 2 386 L st M (ykk (xlk (pL_units Post)) cut WW n) := yf rfl
set_option maxRecDepth 100000 in
theorem fL_units_388 (Post : XPo) (cut : List Nat) (WW : XK) (n : Nat) (L : XLs) (st : List XV) (M : XM) : yru (xlk (pL_units Post)) cut WW (n + 1) 388 L st M = j_ild 6 2 388 L st M (ykk (xlk (pL_units Post)) cut WW n) := yf rfl
set_option maxRecDepth 100000 in
theorem fL_units_390 (Post : XPo) (cut : List Nat) (WW : XK) (n : Nat) (L : XLs) (st : List XV) (M : XM) : yru (xlk (pL_units Post)) cut WW (n + 1) 390 L st M = j_c 2 1 390 L st M (ykk (xlk (pL_units Post)) cut WW n) := yf rfl
set_option maxRecDepth 100000 in
theorem fL_units_391 (Post : XPo) (cut : List Nat) (WW : XK) (n : Nat) (L : XLs) (st : List XV) (M : XM) : yru (xlk (pL_units Post)) cut WW (n + 1) 391 L st M = j_add 391 L st M (ykk (xlk (pL_units Post)) cut WW n) := yf rfl
set_option maxRecDepth 100000 in
theorem fL_units_392 (Post : XPo) (cut : List Nat) (WW : XK) (n : Nat) (L : XLs) (st : List XV) (M : XM) : yru (xlk (pL_units Post)) cut WW (n + 1) 392 L st M = j_iald 392 L st M (ykk (xlk (pL_units Post)) cut WW n) := yf rfl
set_option maxRecDepth 100000 in
theorem fL_units_393 (Post : XPo) (cut : List Nat) (WW : XK) (n : Nat) (L : XLs) (st : List XV) (M : XM) : yru (xlk (pL_units Post)) cut WW (n + 1) 393 L st M = j_ald 4 2 393 L st M (ykk (xlk (pL_units Post)) cut WW n) := yf rfl
set_option maxRecDepth 100000 in
theorem fL_units_395 (Post : XPo) (cut : List Nat) (WW : XK) (n : Nat) (L : XLs) (st : List XV) (M : XM) : yru (xlk (pL_units Post)) cut WW (n + 1) 395 L st M = j_ild 6 2 395 L st M (ykk (xlk (pL_units Post)) cut WW n) := yf rfl
set_option maxRecDepth 100000 in
theorem fL_units_397 (Post : XPo) (cut : List Nat) (WW : XK) (n : Nat) (L : XLs) (st : List XV) (M : XM) : yru (xlk (pL_units Post)) cut WW (n + 1) 397 L st M = j_c 3 1 397 L st M (ykk (xlk (pL_units Post)) cut WW n) := yf rfl
set_option maxRecDepth 100000 in
theorem fL_units_398 (Post : XPo) (cut : List Nat) (WW : XK) (n : Nat) (L : XLs) (st : List XV) (M : XM) : yru (xlk (pL_units Post)) cut WW (n + 1) 398 L st M = j_add 398 L st M (ykk (xlk (pL_units Post)) cut WW n) := yf rfl
set_option maxRecDepth 100000 in
theorem fL_units_399 (Post : XPo) (cut : List Nat) (WW : XK) (n : Nat) (L : XLs) (st : List XV) (M : XM) : yru (xlk (pL_units Post)) cut WW (n + 1) 399 L st M = j_iald 399 L st M (ykk (xlk (pL_units Post)) cut WW n) := yf rfl
set_option maxRecDepth 100000 in
theorem fL_units_400 (Post : XPo) (cut : List Nat) (WW : XK) (n : Nat) (L : XLs) (st : List XV) (M : XM) : yru (xlk (pL_units Post)) cut WW (n + 1) 400 L st M = j_sub 400 L st M (ykk (xlk (pL_units Post)) cut WW n) := yf rfl
set_option maxRecDepth 100000 in
theorem fL_units_401 (Post : XPo) (cut : List Nat) (WW : XK) (n : Nat) (L : XLs) (st : List XV) (M : XM) : yru (xlk (pL_units Post)) cut WW (n + 1) 401 L st M = j_ild 8 2 401 L st M (ykk (xlk (pL_units Post)) cut WW n) := yf rfl
set_option maxRecDepth 100000 in
theorem fL_units_403 (Post : XPo) (cut : List Nat) (WW : XK) (n : Nat) (L : XLs) (st : List XV) (M : XM) : yru (xlk (pL_units Post)) cut WW (n + 1) 403 L st M = j_ild 9 2 403 L st M (ykk (xlk (pL_units Post)) cut WW n) := yf rfl
set_option maxRecDepth 100000 in
theorem fL_units_405 (Post : XPo) (cut : List Nat) (WW : XK) (n : Nat) (L : XLs) (st : List XV) (M : XM) : yru (xlk (pL_units Post)) cut WW (n + 1) 405 L st M = j_sub 405 L st M (ykk (xlk (pL_units Post)) cut WW n) := yf rfl
set_option maxRecDepth 100000 in
theorem fL_units_406 (Post : XPo) (cut : List Nat) (WW : XK) (n : Nat) (L : XLs) (st : List XV) (M : XM) : yru (xlk (pL_units Post)) cut WW (n + 1) 406 L st M = j_ige 411 406 L st M (ykk (xlk (pL_units Post)) cut WW n) := yf rfl
set_option maxRecDepth 100000 in
theorem fL_units_409 (Post : XPo) (cut : List Nat) (WW : XK) (n : Nat) (L : XLs) (st : List XV) (M : XM) : yru (xlk (pL_units Post)) cut WW (n + 1) 409 L st M = j_c 1 1 409 L st M (ykk (xlk (pL_units Post)) cut WW n) := yf rfl
set_option maxRecDepth 100000 in
theorem fL_units_410 (Post : XPo) (cut : List Nat) (WW : XK) (n : Nat) (L : XLs) (st : List XV) (M : XM) : yru (xlk (pL_units Post)) cut WW (n + 1) 410 L st M = j_zret Post 410 L st M (ykk (xlk (pL_units Post)) cut WW n) := yf rfl
set_option maxRecDepth 100000 in
theorem fL_units_411 (Post : XPo) (cut : List Nat) (WW : XK) (n : Nat) (L : XLs) (st : List XV) (M : XM) : yru (xlk (pL_units Post)) cut WW (n + 1) 411 L st M = j_c 12 2 411 L st M (ykk (xlk (pL_units Post)) cut WW n) := yf rfl
set_option maxRecDepth 100000 in
theorem fL_units_413 (Post : XPo) (cut : List Nat) (WW : XK) (n : Nat) (L : XLs) (st : List XV) (M : XM) : yru (xlk (pL_units Post)) cut WW (n + 1) 413 L st M = j_ald 3 1 413 L st M (ykk (xlk (pL_units Post)) cut WW n) := yf rfl
set_option maxRecDepth 100000 in
theorem fL_units_414 (Post : XPo) (cut : List Nat) (WW : XK) (n : Nat) (L : XLs) (st : List XV) (M : XM) : yru (xlk (pL_units Post)) cut WW (n + 1) 414 L st M = j_c 3 1 414 L st M (ykk (xlk (pL_units Post)) cut WW n) := yf rfl
set_option maxRecDepth 100000 in
theorem fL_units_415 (Post : XPo) (cut : List Nat) (WW : XK) (n : Nat) (L : XLs) (st : List XV) (M : XM) : yru (xlk (pL_units Post)) cut WW (n + 1) 415 L st M = j_dup2 415 L st M (ykk (xlk (pL_units Post)) cut WW n) := yf rfl
set_option maxRecDepth 100000 in
theorem fL_units_416 (Post : XPo) (cut : List Nat) (WW : XK) (n : Nat) (L : XLs) (st : List XV) (M : XM) : yru (xlk (pL_units Post)) cut WW (n + 1) 416 L st M = j_iald 416 L st M (ykk (xlk (pL_units Post)) cut WW n) := yf rfl
set_option maxRecDepth 100000 in
theorem fL_units_417 (Post : XPo) (cut : List Nat) (WW : XK) (n : Nat) (L : XLs) (st : List XV) (M : XM) : yru (xlk (pL_units Post)) cut WW (n + 1) 417 L st M = j_dupx2 417 L st M (ykk (xlk (pL_units Post)) cut WW n) := yf rfl
set_option maxRecDepth 100000 in
theorem fL_units_418 (Post : XPo) (cut : List Nat) (WW : XK) (n : Nat) (L : XLs) (st : List XV) (M : XM) : yru (xlk (pL_units Post)) cut WW (n + 1) 418 L st M = j_c 1 1 418 L st M (ykk (xlk (pL_units Post)) cut WW n) := yf rfl
set_option maxRecDepth 100000 in
theorem fL_units_419 (Post : XPo) (cut : List Nat) (WW : XK) (n : Nat) (L : XLs) (st : List XV) (M : XM) : yru (xlk (pL_units Post)) cut WW (n + 1) 419 L st M = j_add 419 L st M (ykk (xlk (pL_units Post)) cut WW n) := yf rfl
set_option maxRecDepth 100000 in
theorem fL_units_420 (Post : XPo) (cut : List Nat) (WW : XK) (n : Nat) (L : XLs) (st : List XV) (M : XM) : yru (xlk (pL_units Post)) cut WW (n + 1) 420 L st M = j_iast 420 L st M (ykk (xlk (pL_units Post)) cut WW n) := yf rfl
set_option maxRecDepth 100000 in
theorem fL_units_421 (Post : XPo) (cut : List Nat) (WW : XK) (n : Nat) (L : XLs) (st : List XV) (M : XM) : yru (xlk (pL_units Post)) cut WW (n + 1) 421 L st M = j_mul 421 L st M (ykk (xlk (pL_units Post)) cut WW n) := yf rfl
set_option maxRecDepth 100000 in
theorem fL_units_422 (Post : XPo) (cut : List Nat) (WW : XK) (n : Nat) (L : XLs) (st : List XV) (M : XM) : yru (xlk (pL_units Post)) cut WW (n + 1) 422 L st M = j_ist 10 2 422 L st M (ykk (xlk (pL_units Post)) cut WW n) := yf rfl
set_option maxRecDepth 100000 in
theorem fL_units_424 (Post : XPo) (cut : List Nat) (WW : XK) (n : Nat) (L : XLs) (st : List XV) (M : XM) : yru (xlk (pL_units Post)) cut WW (n + 1) 424 L st M = j_c 0 1 424 L st M (ykk (xlk (pL_units Post)) cut WW n) := yf rfl
set_option maxRecDepth 100000 in
theorem fL_units_425 (Post : XPo) (cut : List Nat) (WW : XK) (n : Nat) (L : XLs) (st : List XV) (M : XM) : yru (xlk (pL_units Post)) cut WW (n + 1) 425 L st M = j_ist 11 2 425 L st M (ykk (xlk (pL_units Post)) cut WW n) := yf rfl
set_option maxRecDepth 100000 in
theorem fL_units_427 (Post : XPo) (cut : List Nat) (WW : XK) (n : Nat) (L : XLs) (st : List XV) (M : XM) : yru (xlk (pL_units Post)) cut WW (n + 1) 427 L st M = j_ild 11 2 427 L st M (ykk (xlk (pL_units Post)) cut WW n) := yf rfl
set_option maxRecDepth 100000 in
theorem fL_units_429 (Post : XPo) (cut : List Nat) (WW : XK) (n : Nat) (L : XLs) (st : List XV) (M : XM) : yru (xlk (pL_units Post)) cut WW (n + 1) 429 L st M = j_c 12 2 429 L st M (ykk (xlk (pL_units Post)) cut WW n) := yf rfl
set_option maxRecDepth 100000 in
theorem fL_units_431 (Post : XPo) (cut : List Nat) (WW : XK) (n : Nat) (L : XLs) (st : List XV) (M : XM) : yru (xlk (pL_units Post)) cut WW (n + 1) 431 L st M = j_ige 478 431 L st M (ykk (xlk (pL_units Post)) cut WW n) := yf rfl
set_option maxRecDepth 100000 in
theorem fL_units_434 (Post : XPo) (cut : List Nat) (WW : XK) (n : Nat) (L : XLs) (st : List XV) (M : XM) : yru (xlk (pL_units Post)) cut WW (n + 1) 434 L st M = j_ald 4 2 434 L st M (ykk (xlk (pL_units Post)) cut WW n) := yf rfl
set_option maxRecDepth 100000 in
theorem fL_units_436 (Post : XPo) (cut : List Nat) (WW : XK) (n : Nat) (L : XLs) (st : List XV) (M : XM) : yru (xlk (pL_units Post)) cut WW (n + 1) 436 L st M = j_ild 10 2 436 L st M (ykk (xlk (pL_units Post)) cut WW n) := yf rfl
set_option maxRecDepth 100000 in
theorem fL_units_438 (Post : XPo) (cut : List Nat) (WW : XK) (n : Nat) (L : XLs) (st : List XV) (M : XM) : yru (xlk (pL_units Post)) cut WW (n + 1) 438 L st M = j_ild 11 2 438 L st M (ykk (xlk (pL_units Post)) cut WW n) := yf rfl
set_option maxRecDepth 100000 in
theorem fL_units_440 (Post : XPo) (cut : List Nat) (WW : XK) (n : Nat) (L : XLs) (st : List XV) (M : XM) : yru (xlk (pL_units Post)) cut WW (n + 1) 440 L st M = j_add 440 L st M (ykk (xlk (pL_units Post)) cut WW n) := yf rfl
set_option maxRecDepth 100000 in
theorem fL_units_441 (Post : XPo) (cut : List Nat) (WW : XK) (n : Nat) (L : XLs) (st : List XV) (M : XM) : yru (xlk (pL_units Post)) cut WW (n + 1) 441 L st M = j_ild 11 2 441 L st M (ykk (xlk (pL_units Post)) cut WW n) := yf rfl
set_option maxRecDepth 100000 in
theorem fL_units_443 (Post : XPo) (cut : List Nat) (WW : XK) (n : Nat) (L : XLs) (st : List XV) (M : XM) : yru (xlk (pL_units Post)) cut WW (n + 1) 443 L st M = j_c 1 1 443 L st M (ykk (xlk (pL_units Post)) cut WW n) := yf rfl
set_option maxRecDepth 100000 in
theorem fL_units_444 (Post : XPo) (cut : List Nat) (WW : XK) (n : Nat) (L : XLs) (st : List XV) (M : XM) : yru (xlk (pL_units Post)) cut WW (n + 1) 444 L st M = j_ieq 459 444 L st M (ykk (xlk (pL_units Post)) cut WW n) := yf rfl
set_option maxRecDepth 100000 in
theorem fL_units_447 (Post : XPo) (cut : List Nat) (WW : XK) (n : Nat) (L : XLs) (st : List XV) (M : XM) : yru (xlk (pL_units Post)) cut WW (n + 1) 447 L st M = j_ild 11 2 447 L st M (ykk (xlk (pL_units Post)) cut WW n) := yf rfl
set_option maxRecDepth 100000 in
theorem fL_units_449 (Post : XPo) (cut : List Nat) (WW : XK) (n : Nat) (L : XLs) (st : List XV) (M : XM) : yru (xlk (pL_units Post)) cut WW (n + 1) 449 L st M = j_c 4 1 449 L st M (ykk (xlk (pL_units Post)) cut WW n) := yf rfl
set_option maxRecDepth 100000 in
theorem fL_units_450 (Post : XPo) (cut : List Nat) (WW : XK) (n : Nat) (L : XLs) (st : List XV) (M : XM) : yru (xlk (pL_units Post)) cut WW (n + 1) 450 L st M = j_ieq 459 450 L st M (ykk (xlk (pL_units Post)) cut WW n) := yf rfl
set_option maxRecDepth 100000 in
theorem fL_units_453 (Post : XPo) (cut : List Nat) (WW : XK) (n : Nat) (L : XLs) (st : List XV) (M : XM) : yru (xlk (pL_units Post)) cut WW (n + 1) 453 L st M = j_ild 11 2 453 L st M (ykk (xlk (pL_units Post)) cut WW n) := yf rfl
set_option maxRecDepth 100000 in
theorem fL_units_455 (Post : XPo) (cut : List Nat) (WW : XK) (n : Nat) (L : XLs) (st : List XV) (M : XM) : yru (xlk (pL_units Post)) cut WW (n + 1) 455 L st M = j_c 5 1 455 L st M (ykk (xlk (pL_units Post)) cut WW n) := yf rfl
set_option maxRecDepth 100000 in
theorem fL_units_456 (Post : XPo) (cut : List Nat) (WW : XK) (n : Nat) (L : XLs) (st : List XV) (M : XM) : yru (xlk (pL_units Post)) cut WW (n + 1) 456 L st M = j_ine 470 456 L st M (ykk (xlk (pL_units Post)) cut WW n) := yf rfl
set_option maxRecDepth 100000 in
theorem fL_units_459 (Post : XPo) (cut : List Nat) (WW : XK) (n : Nat) (L : XLs) (st : List XV) (M : XM) : yru (xlk (pL_units Post)) cut WW (n + 1) 459 L st M = j_ald 4 2 459 L st M (ykk (xlk (pL_units Post)) cut WW n) := yf rfl
set_option maxRecDepth 100000 in
theorem fL_units_461 (Post : XPo) (cut : List Nat) (WW : XK) (n : Nat) (L : XLs) (st : List XV) (M : XM) : yru (xlk (pL_units Post)) cut WW (n + 1) 461 L st M = j_ild 6 2 461 L st M (ykk (xlk (pL_units Post)) cut WW n) := yf rfl
set_option maxRecDepth 100000 in
theorem fL_units_463 (Post : XPo) (cut : List Nat) (WW : XK) (n : Nat) (L : XLs) (st : List XV) (M : XM) : yru (xlk (pL_units Post)) cut WW (n + 1) 463 L st M = j_ild 11 2 463 L st M (ykk (xlk (pL_units Post)) cut WW n) := yf rfl
set_option maxRecDepth 100000 in
theorem fL_units_465 (Post : XPo) (cut : List Nat) (WW : XK) (n : Nat) (L : XLs) (st : List XV) (M : XM) : yru (xlk (pL_units Post)) cut WW (n + 1) 465 L st M = j_add 465 L st M (ykk (xlk (pL_units Post)) cut WW n) := yf rfl
set_option maxRecDepth 100000 in
theorem fL_units_466 (Post : XPo) (cut : List Nat) (WW : XK) (n : Nat) (L : XLs) (st : List XV) (M : XM) : yru (xlk (pL_units Post)) cut WW (n + 1) 466 L st M = j_iald 466 L st M (ykk (xlk (pL_units Post)) cut WW n) := yf rfl
set_option maxRecDepth 100000 in
theorem fL_units_467 (Post : XPo) (cut : List Nat) (WW : XK) (n : Nat) (L : XLs) (st : List XV) (M : XM) : yru (xlk (pL_units Post)) cut WW (n + 1) 467 L st M = j_goto 471 467 L st M (ykk (xlk (pL_units Post)) cut WW n) := yf rfl
set_option maxRecDepth 100000 in
theorem fL_units_470 (Post : XPo) (cut : List Nat) (WW : XK) (n : Nat) (L : XLs) (st : List XV) (M : XM) : yru (xlk (pL_units Post)) cut WW (n + 1) 470 L st M = j_c 0 1 470 L st M (ykk (xlk (pL_units Post)) cut WW n) := yf rfl
set_option maxRecDepth 100000 in
theorem fL_units_471 (Post : XPo) (cut : List Nat) (WW : XK) (n : Nat) (L : XLs) (st : List XV) (M : XM) : yru (xlk (pL_units Post)) cut WW (n + 1) 471 L st M = j_iast 471 L st M (ykk (xlk (pL_units Post)) cut WW n) := yf rfl
set_option maxRecDepth 100000 in
theorem fL_units_472 (Post : XPo) (cut : List Nat) (WW : XK) (n : Nat) (L : XLs) (st : List XV) (M : XM) : yru (xlk (pL_units Post)) cut WW (n + 1) 472 L st M = j_inc 11 1 472 L st M (ykk (xlk (pL_units Post)) cut WW n) := yf rfl
set_option maxRecDepth 100000 in
theorem fL_units_475 (Post : XPo) (cut : List Nat) (WW : XK) (n : Nat) (L : XLs) (st : List XV) (M : XM) : yru (xlk (pL_units Post)) cut WW (n + 1) 475 L st M = j_goto 427 475 L st M (ykk (xlk (pL_units Post)) cut WW n) := yf rfl
set_option maxRecDepth 100000 in
theorem fL_units_478 (Post : XPo) (cut : List Nat) (WW : XK) (n : Nat) (L : XLs) (st : List XV) (M : XM) : yru (xlk (pL_units Post)) cut WW (n + 1) 478 L st M = j_ald 4 2 478 L st M (ykk (xlk (pL_units Post)) cut WW n) := yf rfl
set_option maxRecDepth 100000 in
theorem fL_units_480 (Post : XPo) (cut : List Nat) (WW : XK) (n : Nat) (L : XLs) (st : List XV) (M : XM) : yru (xlk (pL_units Post)) cut WW (n + 1) 480 L st M = j_ild 10 2 480 L st M (ykk (xlk (pL_units Post)) cut WW n) := yf rfl
set_option maxRecDepth 100000 in
theorem fL_units_482 (Post : XPo) (cut : List Nat) (WW : XK) (n : Nat) (L : XLs) (st : List XV) (M : XM) : yru (xlk (pL_units Post)) cut WW (n + 1) 482 L st M = j_c 2 1 482 L st M (ykk (xlk (pL_units Post)) cut WW n) := yf rfl
set_option maxRecDepth 100000 in
theorem fL_units_483 (Post : XPo) (cut : List Nat) (WW : XK) (n : Nat) (L : XLs) (st : List XV) (M : XM) : yru (xlk (pL_units Post)) cut WW (n + 1) 483 L st M = j_add 483 L st M (ykk (xlk (pL_units Post)) cut WW n) := yf rfl
set_option maxRecDepth 100000 in
theorem fL_units_484 (Post : XPo) (cut : List Nat) (WW : XK) (n : Nat) (L : XLs) (st : List XV) (M : XM) : yru (xlk (pL_units Post)) cut WW (n + 1) 484 L st M = j_ild 8 2 484 L st M (ykk (xlk (pL_units Post)) cut WW n) := yf rfl
set_option maxRecDepth 100000 in
theorem fL_units_486 (Post : XPo) (cut : List Nat) (WW : XK) (n : Nat) (L : XLs) (st : List XV) (M : XM) : yru (xlk (pL_units Post)) cut WW (n + 1) 486 L st M = j_iast 486 L st M (ykk (xlk (pL_units Post)) cut WW n) := yf rfl
set_option maxRecDepth 100000 in
theorem fL_units_487 (Post : XPo) (cut : List Nat) (WW : XK) (n : Nat) (L : XLs) (st : List XV) (M : XM) : yru (xlk (pL_units Post)) cut WW (n + 1) 487 L st M = j_ald 4 2 487 L st M (ykk (xlk (pL_units Post)) cut WW n) := yf rfl
set_option maxRecDepth 100000 in
theorem fL_units_489 (Post : XPo) (cut : List Nat) (WW : XK) (n : Nat) (L : XLs) (st : List XV) (M : XM) : yru (xlk (pL_units Post)) cut WW (n + 1) 489 L st M = j_ild 10 2 489 L st M (ykk (xlk (pL_units Post)) cut WW n) := yf rfl
set_option maxRecDepth 100000 in
theorem fL_units_491 (Post : XPo) (cut : List Nat) (WW : XK) (n : Nat) (L : XLs) (st : List XV) (M : XM) : yru (xlk (pL_units Post)) cut WW (n + 1) 491 L st M = j_c 3 1 491 L st M (ykk (xlk (pL_units Post)) cut WW n) := yf rfl
set_option maxRecDepth 100000 in
theorem fL_units_492 (Post : XPo) (cut : List Nat) (WW : XK) (n : Nat) (L : XLs) (st : List XV) (M : XM) : yru (xlk (pL_units Post)) cut WW (n + 1) 492 L st M = j_add 492 L st M (ykk (xlk (pL_units Post)) cut WW n) := yf rfl
set_option maxRecDepth 100000 in
theorem fL_units_493 (Post : XPo) (cut : List Nat) (WW : XK) (n : Nat) (L : XLs) (st : List XV) (M : XM) : yru (xlk (pL_units Post)) cut WW (n + 1) 493 L st M = j_ild 9 2 493 L st M (ykk (xlk (pL_units Post)) cut WW n) := yf rfl
set_option maxRecDepth 100000 in
theorem fL_units_495 (Post : XPo) (cut : List Nat) (WW : XK) (n : Nat) (L : XLs) (st : List XV) (M : XM) : yru (xlk (pL_units Post)) cut WW (n + 1) 495 L st M = j_iast 495 L st M (ykk (xlk (pL_units Post)) cut WW n) := yf rfl
set_option maxRecDepth 100000 in
theorem fL_units_496 (Post : XPo) (cut : List Nat) (WW : XK) (n : Nat) (L : XLs) (st : List XV) (M : XM) : yru (xlk (pL_units Post)) cut WW (n + 1) 496 L st M = j_ald 4 2 496 L st M (ykk (xlk (pL_units Post)) cut WW n) := yf rfl
set_option maxRecDepth 100000 in
theorem fL_units_498 (Post : XPo) (cut : List Nat) (WW : XK) (n : Nat) (L : XLs) (st : List XV) (M : XM) : yru (xlk (pL_units Post)) cut WW (n + 1) 498 L st M = j_ild 10 2 498 L st M (ykk (xlk (pL_units Post)) cut WW n) := yf rfl
set_option maxRecDepth 100000 in
theorem fL_units_500 (Post : XPo) (cut : List Nat) (WW : XK) (n : Nat) (L : XLs) (st : List XV) (M : XM) : yru (xlk (pL_units Post)) cut WW (n + 1) 500 L st M = j_c 8 2 500 L st M (ykk (xlk (pL_units Post)) cut WW n) := yf rfl
set_option maxRecDepth 100000 in
theorem fL_units_502 (Post : XPo) (cut : List Nat) (WW : XK) (n : Nat) (L : XLs) (st : List XV) (M : XM) : yru (xlk (pL_units Post)) cut WW (n + 1) 502 L st M = j_add 502 L st M (ykk (xlk (pL_units Post)) cut WW n) := yf rfl
set_option maxRecDepth 100000 in
theorem fL_units_503 (Post : XPo) (cut : List Nat) (WW : XK) (n : Nat) (L : XLs) (st : List XV) (M : XM) : yru (xlk (pL_units Post)) cut WW (n + 1) 503 L st M = j_c (-1) 1 503 L st M (ykk (xlk (pL_units Post)) cut WW n) := yf rfl
set_option maxRecDepth 100000 in
theorem fL_units_504 (Post : XPo) (cut : List Nat) (WW : XK) (n : Nat) (L : XLs) (st : List XV) (M : XM) : yru (xlk (pL_units Post)) cut WW (n + 1) 504 L st M = j_iast 504 L st M (ykk (xlk (pL_units Post)) cut WW n) := yf rfl
set_option maxRecDepth 100000 in
theorem fL_units_505 (Post : XPo) (cut : List Nat) (WW : XK) (n : Nat) (L : XLs) (st : List XV) (M : XM) : yru (xlk (pL_units Post)) cut WW (n + 1) 505 L st M = j_ald 4 2 505 L st M (ykk (xlk (pL_units Post)) cut WW n) := yf rfl
set_option maxRecDepth 100000 in
theorem fL_units_507 (Post : XPo) (cut : List Nat) (WW : XK) (n : Nat) (L : XLs) (st : List XV) (M : XM) : yru (xlk (pL_units Post)) cut WW (n + 1) 507 L st M = j_ild 6 2 507 L st M (ykk (xlk (pL_units Post)) cut WW n) := yf rfl
set_option maxRecDepth 100000 in
theorem fL_units_509 (Post : XPo) (cut : List Nat) (WW : XK) (n : Nat) (L : XLs) (st : List XV) (M : XM) : yru (xlk (pL_units Post)) cut WW (n + 1) 509 L st M = j_c 2 1 509 L st M (ykk (xlk (pL_units Post)) cut WW n) := yf rfl
set_option maxRecDepth 100000 in
theorem fL_units_510 (Post : XPo) (cut : List Nat) (WW : XK) (n : Nat) (L : XLs) (st : List XV) (M : XM) : yru (xlk (pL_units Post)) cut WW (n + 1) 510 L st M = j_add 510 L st M (ykk (xlk (pL_units Post)) cut WW n) := yf rfl
set_option maxRecDepth 100000 in
theorem fL_units_511 (Post : XPo) (cut : List Nat) (WW : XK) (n : Nat) (L : XLs) (st : List XV) (M : XM) : yru (xlk (pL_units Post)) cut WW (n + 1) 511 L st M = j_dup2 511 L st M (ykk (xlk (pL_units Post)) cut WW n) := yf rfl
set_option maxRecDepth 100000 in
theorem fL_units_512 (Post : XPo) (cut : List Nat) (WW : XK) (n : Nat) (L : XLs) (st : List XV) (M : XM) : yru (xlk (pL_units Post)) cut WW (n + 1) 512 L st M = j_iald 512 L st M (ykk (xlk (pL_units Post)) cut WW n) := yf rfl
set_option maxRecDepth 100000 in
theorem fL_units_513 (Post : XPo) (cut : List Nat) (WW : XK) (n : Nat) (L : XLs) (st : List XV) (M : XM) : yru (xlk (pL_units Post)) cut WW (n + 1) 513 L st M = j_ild 8 2 513 L st M (ykk (xlk (pL_units Post)) cut WW n) := yf rfl
set_option maxRecDepth 100000 in
theorem fL_units_515 (Post : XPo) (cut : List Nat) (WW : XK) (n : Nat) (L : XLs) (st : List XV) (M : XM) : yru (xlk (pL_units Post)) cut WW (n + 1) 515 L st M = j_sub 515 L st M (ykk (xlk (pL_units Post)) cut WW n) := yf rfl
set_option maxRecDepth 100000 in
theorem fL_units_516 (Post : XPo) (cut : List Nat) (WW : XK) (n : Nat) (L : XLs) (st : List XV) (M : XM) : yru (xlk (pL_units Post)) cut WW (n + 1) 516 L st M = j_iast 516 L st M (ykk (xlk (pL_units Post)) cut WW n) := yf rfl
set_option maxRecDepth 100000 in
theorem fL_units_517 (Post : XPo) (cut : List Nat) (WW : XK) (n : Nat) (L : XLs) (st : List XV) (M : XM) : yru (xlk (pL_units Post)) cut WW (n + 1) 517 L st M = j_ald 4 2 517 L st M (ykk (xlk (pL_units Post)) cut WW n) := yf rfl
set_option maxRecDepth 100000 in
theorem fL_units_519 (Post : XPo) (cut : List Nat) (WW : XK) (n : Nat) (L : XLs) (st : List XV) (M : XM) : yru (xlk (pL_units Post)) cut WW (n + 1) 519 L st M = j_ild 6 2 519 L st M (ykk (xlk (pL_units Post)) cut WW n) := yf rfl
set_option maxRecDepth 100000 in
theorem fL_units_521 (Post : XPo) (cut : List Nat) (WW : XK) (n : Nat) (L : XLs) (st : List XV) (M : XM) : yru (xlk (pL_units Post)) cut WW (n + 1) 521 L st M = j_c 3 1 521 L st M (ykk (xlk (pL_units Post)) cut WW n) := yf rfl
set_option maxRecDepth 100000 in
theorem fL_units_522 (Post : XPo) (cut : List Nat) (WW : XK) (n : Nat) (L : XLs) (st : List XV) (M : XM) : yru (xlk (pL_units Post)) cut WW (n + 1) 522 L st M = j_add 522 L st M (ykk (xlk (pL_units Post)) cut WW n) := yf rfl
set_option maxRecDepth 100000 in
theorem fL_units_523 (Post : XPo) (cut : List Nat) (WW : XK) (n : Nat) (L : XLs) (st : List XV) (M : XM) : yru (xlk (pL_units Post)) cut WW (n + 1) 523 L st M = j_dup2 523 L st M (ykk (xlk (pL_units Post)) cut WW n) := yf rfl
set_option maxRecDepth 100000 in
theorem fL_units_524 (Post : XPo) (cut : List Nat) (WW : XK) (n : Nat) (L : XLs) (st : List XV) (M : XM) : yru (xlk (pL_units Post)) cut WW (n + 1) 524 L st M = j_iald 524 L st M (ykk (xlk (pL_units Post)) cut WW n) := yf rfl
set_option maxRecDepth 100000 in
theorem fL_units_525 (Post : XPo) (cut : List Nat) (WW : XK) (n : Nat) (L : XLs) (st : List XV) (M : XM) : yru (xlk (pL_units Post)) cut WW (n + 1) 525 L st M = j_ild 9 2 525 L st M (ykk (xlk (pL_units Post)) cut WW n) := yf rfl
set_option maxRecDepth 100000 in
theorem fL_units_527 (Post : XPo) (cut : List Nat) (WW : XK) (n : Nat) (L : XLs) (st : List XV) (M : XM) : yru (xlk (pL_units Post)) cut WW (n + 1) 527 L st M = j_sub 527 L st M (ykk (xlk (pL_units Post)) cut WW n) := yf rfl
set_option maxRecDepth 100000 in
theorem fL_units_528 (Post : XPo) (cut : List Nat) (WW : XK) (n : Nat) (L : XLs) (st : List XV) (M : XM) : yru (xlk (pL_units Post)) cut WW (n + 1) 528 L st M = j_iast 528 L st M (ykk (xlk (pL_units Post)) cut WW n) := yf rfl
set_option maxRecDepth 100000 in
theorem fL_units_529 (Post : XPo) (cut : List Nat) (WW : XK) (n : Nat) (L : XLs) (st : List XV) (M : XM) : yru (xlk (pL_units Post)) cut WW (n + 1) 529 L st M = j_ald 0 1 529 L st M (ykk (xlk (pL_units Post)) cut WW n) := yf rfl
set_option maxRecDepth 100000 in
theorem fL_units_530 (Post : XPo) (cut : List Nat) (WW : XK) (n : Nat) (L : XLs) (st : List XV) (M : XM) : yru (xlk (pL_units Post)) cut WW (n + 1) 530 L st M = j_ild 6 2 530 L st M (ykk (xlk (pL_units Post)) cut WW n) := yf rfl
set_option maxRecDepth 100000 in
theorem fL_units_532 (Post : XPo) (cut : List Nat) (WW : XK) (n : Nat) (L : XLs) (st : List XV) (M : XM) : yru (xlk (pL_units Post)) cut WW (n + 1) 532 L st M = j_c 12 2 532 L st M (ykk (xlk (pL_units Post)) cut WW n) := yf rfl
set_option maxRecDepth 100000 in
theorem fL_units_534 (Post : XPo) (cut : List Nat) (WW : XK) (n : Nat) (L : XLs) (st : List XV) (M : XM) : yru (xlk (pL_units Post)) cut WW (n + 1) 534 L st M = j_div 534 L st M (ykk (xlk (pL_units Post)) cut WW n) := yf rfl
set_option maxRecDepth 100000 in
theorem fL_units_535 (Post : XPo) (cut : List Nat) (WW : XK) (n : Nat) (L : XLs) (st : List XV) (M : XM) : yru (xlk (pL_units Post)) cut WW (n + 1) 535 L st M = j_ild 8 2 535 L st M (ykk (xlk (pL_units Post)) cut WW n) := yf rfl
set_option maxRecDepth 100000 in
theorem fL_units_537 (Post : XPo) (cut : List Nat) (WW : XK) (n : Nat) (L : XLs) (st : List XV) (M : XM) : yru (xlk (pL_units Post)) cut WW (n + 1) 537 L st M = j_ild 9 2 537 L st M (ykk (xlk (pL_units Post)) cut WW n) := yf rfl
set_option maxRecDepth 100000 in
theorem fL_units_539 (Post : XPo) (cut : List Nat) (WW : XK) (n : Nat) (L : XLs) (st : List XV) (M : XM) : yru (xlk (pL_units Post)) cut WW (n + 1) 539 L st M = j_V3 0 sX7_split 539 L st M (ykk (xlk (pL_units Post)) cut WW n) := yf rfl
set_option maxRecDepth 100000 in
theorem fL_units_542 (Post : XPo) (cut : List Nat) (WW : XK) (n : Nat) (L : XLs) (st : List XV) (M : XM) : yru (xlk (pL_units Post)) cut WW (n + 1) 542 L st M = j_ild 10 2 542 L st M (ykk (xlk (pL_units Post)) cut WW n) := yf rfl
set_option maxRecDepth 100000 in
theorem fL_units_544 (Post : XPo) (cut : List Nat) (WW : XK) (n : Nat) (L : XLs) (st : List XV) (M : XM) : yru (xlk (pL_units Post)) cut WW (n + 1) 544 L st M = j_c 12 2 544 L st M (ykk (xlk (pL_units Post)) cut WW n) := yf rfl
set_option maxRecDepth 100000 in
theorem fL_units_546 (Post : XPo) (cut : List Nat) (WW : XK) (n : Nat) (L : XLs) (st : List XV) (M : XM) : yru (xlk (pL_units Post)) cut WW (n + 1) 546 L st M = j_div 546 L st M (ykk (xlk (pL_units Post)) cut WW n) := yf rfl
set_option maxRecDepth 100000 in
theorem fL_units_547 (Post : XPo) (cut : List Nat) (WW : XK) (n : Nat) (L : XLs) (st : List XV) (M : XM) : yru (xlk (pL_units Post)) cut WW (n + 1) 547 L st M = j_ine 554 547 L st M (ykk (xlk (pL_units Post)) cut WW n) := yf rfl
set_option maxRecDepth 100000 in
theorem fL_units_550 (Post : XPo) (cut : List Nat) (WW : XK) (n : Nat) (L : XLs) (st : List XV) (M : XM) : yru (xlk (pL_units Post)) cut WW (n + 1) 550 L st M = j_c 1 1 550 L st M (ykk (xlk (pL_units Post)) cut WW n) := yf rfl
set_option maxRecDepth 100000 in
theorem fL_units_551 (Post : XPo) (cut : List Nat) (WW : XK) (n : Nat) (L : XLs) (st : List XV) (M : XM) : yru (xlk (pL_units Post)) cut WW (n + 1) 551 L st M = j_goto 555 551 L st M (ykk (xlk (pL_units Post)) cut WW n) := yf rfl
set_option maxRecDepth 100000 in
theorem fL_units_554 (Post : XPo) (cut : List Nat) (WW : XK) (n : Nat) (L : XLs) (st : List XV) (M : XM) : yru (xlk (pL_units Post)) cut WW (n + 1) 554 L st M = j_c 0 1 554 L st M (ykk (xlk (pL_units Post)) cut WW n) := yf rfl
set_option maxRecDepth 100000 in
theorem fL_units_555 (Post : XPo) (cut : List Nat) (WW : XK) (n : Nat) (L : XLs) (st : List XV) (M : XM) : yru (xlk (pL_units Post)) cut WW (n + 1) 555 L st M = j_zret Post 555 L st M (ykk (xlk (pL_units Post)) cut WW n) := yf rfl
set_option maxRecDepth 100000 in
theorem fL_units_556 (Post : XPo) (cut : List Nat) (WW : XK) (n : Nat) (L : XLs) (st : List XV) (M : XM) : yru (xlk (pL_units Post)) cut WW (n + 1) 556 L st M = j_ild 5 2 556 L st M (ykk (xlk (pL_units Post)) cut WW n) := yf rfl
set_option maxRecDepth 100000 in
theorem fL_units_558 (Post : XPo) (cut : List Nat) (WW : XK) (n : Nat) (L : XLs) (st : List XV) (M : XM) : yru (xlk (pL_units Post)) cut WW (n + 1) 558 L st M = j_c 8 2 558 L st M (ykk (xlk (pL_units Post)) cut WW n) := yf rfl
set_option maxRecDepth 100000 in
theorem fL_units_560 (Post : XPo) (cut : List Nat) (WW : XK) (n : Nat) (L : XLs) (st : List XV) (M : XM) : yru (xlk (pL_units Post)) cut WW (n + 1) 560 L st M = j_ige 775 560 L st M (ykk (xlk (pL_units Post)) cut WW n) := yf rfl
set_option maxRecDepth 100000 in
theorem fL_units_563 (Post : XPo) (cut : List Nat) (WW : XK) (n : Nat) (L : XLs) (st : List XV) (M : XM) : yru (xlk (pL_units Post)) cut WW (n + 1) 563 L st M = j_ild 6 2 563 L st M (ykk (xlk (pL_units Post)) cut WW n) := yf rfl
set_option maxRecDepth 100000 in
theorem fL_units_565 (Post : XPo) (cut : List Nat) (WW : XK) (n : Nat) (L : XLs) (st : List XV) (M : XM) : yru (xlk (pL_units Post)) cut WW (n + 1) 565 L st M = j_ild 7 2 565 L st M (ykk (xlk (pL_units Post)) cut WW n) := yf rfl
set_option maxRecDepth 100000 in
theorem fL_units_567 (Post : XPo) (cut : List Nat) (WW : XK) (n : Nat) (L : XLs) (st : List XV) (M : XM) : yru (xlk (pL_units Post)) cut WW (n + 1) 567 L st M = j_ieq 616 567 L st M (ykk (xlk (pL_units Post)) cut WW n) := yf rfl
set_option maxRecDepth 100000 in
theorem fL_units_570 (Post : XPo) (cut : List Nat) (WW : XK) (n : Nat) (L : XLs) (st : List XV) (M : XM) : yru (xlk (pL_units Post)) cut WW (n + 1) 570 L st M = j_ald 4 2 570 L st M (ykk (xlk (pL_units Post)) cut WW n) := yf rfl
set_option maxRecDepth 100000 in
theorem fL_units_572 (Post : XPo) (cut : List Nat) (WW : XK) (n : Nat) (L : XLs) (st : List XV) (M : XM) : yru (xlk (pL_units Post)) cut WW (n + 1) 572 L st M = j_ild 7 2 572 L st M (ykk (xlk (pL_units Post)) cut WW n) := yf rfl
set_option maxRecDepth 100000 in
theorem fL_units_574 (Post : XPo) (cut : List Nat) (WW : XK) (n : Nat) (L : XLs) (st : List XV) (M : XM) : yru (xlk (pL_units Post)) cut WW (n + 1) 574 L st M = j_iald 574 L st M (ykk (xlk (pL_units Post)) cut WW n) := yf rfl
set_option maxRecDepth 100000 in
theorem fL_units_575 (Post : XPo) (cut : List Nat) (WW : XK) (n : Nat) (L : XLs) (st : List XV) (M : XM) : yru (xlk (pL_units Post)) cut WW (n + 1) 575 L st M = j_ne 616 575 L st M (ykk (xlk (pL_units Post)) cut WW n) := yf rfl
set_option maxRecDepth 100000 in
theorem fL_units_578 (Post : XPo) (cut : List Nat) (WW : XK) (n : Nat) (L : XLs) (st : List XV) (M : XM) : yru (xlk (pL_units Post)) cut WW (n + 1) 578 L st M = j_ald 4 2 578 L st M (ykk (xlk (pL_units Post)) cut WW n) := yf rfl
set_option maxRecDepth 100000 in
theorem fL_units_580 (Post : XPo) (cut : List Nat) (WW : XK) (n : Nat) (L : XLs) (st : List XV) (M : XM) : yru (xlk (pL_units Post)) cut WW (n + 1) 580 L st M = j_ild 6 2 580 L st M (ykk (xlk (pL_units Post)) cut WW n) := yf rfl
set_option maxRecDepth 100000 in
theorem fL_units_582 (Post : XPo) (cut : List Nat) (WW : XK) (n : Nat) (L : XLs) (st : List XV) (M : XM) : yru (xlk (pL_units Post)) cut WW (n + 1) 582 L st M = j_c 1 1 582 L st M (ykk (xlk (pL_units Post)) cut WW n) := yf rfl
set_option maxRecDepth 100000 in
theorem fL_units_583 (Post : XPo) (cut : List Nat) (WW : XK) (n : Nat) (L : XLs) (st : List XV) (M : XM) : yru (xlk (pL_units Post)) cut WW (n + 1) 583 L st M = j_add 583 L st M (ykk (xlk (pL_units Post)) cut WW n) := yf rfl
set_option maxRecDepth 100000 in
theorem fL_units_584 (Post : XPo) (cut : List Nat) (WW : XK) (n : Nat) (L : XLs) (st : List XV) (M : XM) : yru (xlk (pL_units Post)) cut WW (n + 1) 584 L st M = j_iald 584 L st M (ykk (xlk (pL_units Post)) cut WW n) := yf rfl
set_option maxRecDepth 100000 in
theorem fL_units_585 (Post : XPo) (cut : List Nat) (WW : XK) (n : Nat) (L : XLs) (st : List XV) (M : XM) : yru (xlk (pL_units Post)) cut WW (n + 1) 585 L st M = j_ald 4 2 585 L st M (ykk (xlk (pL_units Post)) cut WW n) := yf rfl
set_option maxRecDepth 100000 in
theorem fL_units_587 (Post : XPo) (cut : List Nat) (WW : XK) (n : Nat) (L : XLs) (st : List XV) (M : XM) : yru (xlk (pL_units Post)) cut WW (n + 1) 587 L st M = j_ild 7 2 587 L st M (ykk (xlk (pL_units Post)) cut WW n) := yf rfl
set_option maxRecDepth 100000 in
theorem fL_units_589 (Post : XPo) (cut : List Nat) (WW : XK) (n : Nat) (L : XLs) (st : List XV) (M : XM) : yru (xlk (pL_units Post)) cut WW (n + 1) 589 L st M = j_c 1 1 589 L st M (ykk (xlk (pL_units Post)) cut WW n) := yf rfl
set_option maxRecDepth 100000 in
theorem fL_units_590 (Post : XPo) (cut : List Nat) (WW : XK) (n : Nat) (L : XLs) (st : List XV) (M : XM) : yru (xlk (pL_units Post)) cut WW (n + 1) 590 L st M = j_add 590 L st M (ykk (xlk (pL_units Post)) cut WW n) := yf rfl
set_option maxRecDepth 100000 in
theorem fL_units_591 (Post : XPo) (cut : List Nat) (WW : XK) (n : Nat) (L : XLs) (st : List XV) (M : XM) : yru (xlk (pL_units Post)) cut WW (n + 1) 591 L st M = j_iald 591 L st M (ykk (xlk (pL_units Post)) cut WW n) := yf rfl
set_option maxRecDepth 100000 in
theorem fL_units_592 (Post : XPo) (cut : List Nat) (WW : XK) (n : Nat) (L : XLs) (st : List XV) (M : XM) : yru (xlk (pL_units Post)) cut WW (n + 1) 592 L st M = j_ine 616 592 L st M (ykk (xlk (pL_units Post)) cut WW n) := yf rfl
set_option maxRecDepth 100000 in
theorem fL_units_595 (Post : XPo) (cut : List Nat) (WW : XK) (n : Nat) (L : XLs) (st : List XV) (M : XM) : yru (xlk (pL_units Post)) cut WW (n + 1) 595 L st M = j_ald 4 2 595 L st M (ykk (xlk (pL_units Post)) cut WW n) := yf rfl
set_option maxRecDepth 100000 in
theorem fL_units_597 (Post : XPo) (cut : List Nat) (WW : XK) (n : Nat) (L : XLs) (st : List XV) (M : XM) : yru (xlk (pL_units Post)) cut WW (n + 1) 597 L st M = j_ild 6 2 597 L st M (ykk (xlk (pL_units Post)) cut WW n) := yf rfl
set_option maxRecDepth 100000 in
theorem fL_units_599 (Post : XPo) (cut : List Nat) (WW : XK) (n : Nat) (L : XLs) (st : List XV) (M : XM) : yru (xlk (pL_units Post)) cut WW (n + 1) 599 L st M = j_c 2 1 599 L st M (ykk (xlk (pL_units Post)) cut WW n) := yf rfl
set_option maxRecDepth 100000 in
theorem fL_units_600 (Post : XPo) (cut : List Nat) (WW : XK) (n : Nat) (L : XLs) (st : List XV) (M : XM) : yru (xlk (pL_units Post)) cut WW (n + 1) 600 L st M = j_add 600 L st M (ykk (xlk (pL_units Post)) cut WW n) := yf rfl
set_option maxRecDepth 100000 in
theorem fL_units_601 (Post : XPo) (cut : List Nat) (WW : XK) (n : Nat) (L : XLs) (st : List XV) (M : XM) : yru (xlk (pL_units Post)) cut WW (n + 1) 601 L st M = j_iald 601 L st M (ykk (xlk (pL_units Post)) cut WW n) := yf rfl
set_option maxRecDepth 100000 in
theorem fL_units_602 (Post : XPo) (cut : List Nat) (WW : XK) (n : Nat) (L : XLs) (st : List XV) (M : XM) : yru (xlk (pL_units Post)) cut WW (n + 1) 602 L st M = j_ald 4 2 602 L st M (ykk (xlk (pL_units Post)) cut WW n) := yf rfl
set_option maxRecDepth 100000 in
theorem fL_units_604 (Post : XPo) (cut : List Nat) (WW : XK) (n : Nat) (L : XLs) (st : List XV) (M : XM) : yru (xlk (pL_units Post)) cut WW (n + 1) 604 L st M = j_ild 7 2 604 L st M (ykk (xlk (pL_units Post)) cut WW n) := yf rfl
set_option maxRecDepth 100000 in
theorem fL_units_606 (Post : XPo) (cut : List Nat) (WW : XK) (n : Nat) (L : XLs) (st : List XV) (M : XM) : yru (xlk (pL_units Post)) cut WW (n + 1) 606 L st M = j_c 2 1 606 L st M (ykk (xlk (pL_units Post)) cut WW n) := yf rfl
set_option maxRecDepth 100000 in
theorem fL_units_607 (Post : XPo) (cut : List Nat) (WW : XK) (n : Nat) (L : XLs) (st : List XV) (M : XM) : yru (xlk (pL_units Post)) cut WW (n + 1) 607 L st M = j_add 607 L st M (ykk (xlk (pL_units Post)) cut WW n) := yf rfl
set_option maxRecDepth 100000 in
theorem fL_units_608 (Post : XPo) (cut : List Nat) (WW : XK) (n : Nat) (L : XLs) (st : List XV) (M : XM) : yru (xlk (pL_units Post)) cut WW (n + 1) 608 L st M = j_iald 608 L st M (ykk (xlk (pL_units Post)) cut WW n) := yf rfl
set_option maxRecDepth 100000 in
theorem fL_units_609 (Post : XPo) (cut : List Nat) (WW : XK) (n : Nat) (L : XLs) (st : List XV) (M : XM) : yru (xlk (pL_units Post)) cut WW (n + 1) 609 L st M = j_add 609 L st M (ykk (xlk (pL_units Post)) cut WW n) := yf rfl
set_option maxRecDepth 100000 in
theorem fL_units_610 (Post : XPo) (cut : List Nat) (WW : XK) (n : Nat) (L : XLs) (st : List XV) (M : XM) : yru (xlk (pL_units Post)) cut WW (n + 1) 610 L st M = j_c 300 3 610 L st M (ykk (xlk (pL_units Post)) cut WW n) := yf rfl
set_option maxRecDepth 100000 in
theorem fL_units_613 (Post : XPo) (cut : List Nat) (WW : XK) (n : Nat) (L : XLs) (st : List XV) (M : XM) : yru (xlk (pL_units Post)) cut WW (n + 1) 613 L st M = j_ile 618 613 L st M (ykk (xlk (pL_units Post)) cut WW n) := yf rfl
set_option maxRecDepth 100000 in
theorem fL_units_616 (Post : XPo) (cut : List Nat) (WW : XK) (n : Nat) (L : XLs) (st : List XV) (M : XM) : yru (xlk (pL_units Post)) cut WW (n + 1) 616 L st M = j_c 1 1 616 L st M (ykk (xlk (pL_units Post)) cut WW n) := yf rfl
set_option maxRecDepth 100000 in
theorem fL_units_617 (Post : XPo) (cut : List Nat) (WW : XK) (n : Nat) (L : XLs) (st : List XV) (M : XM) : yru (xlk (pL_units Post)) cut WW (n + 1) 617 L st M = j_zret Post 617 L st M (ykk (xlk (pL_units Post)) cut WW n) := yf rfl
set_option maxRecDepth 100000 in
theorem fL_units_618 (Post : XPo) (cut : List Nat) (WW : XK) (n : Nat) (L : XLs) (st : List XV) (M : XM) : yru (xlk (pL_units Post)) cut WW (n + 1) 618 L st M = j_ald 4 2 618 L st M (ykk (xlk (pL_units Post)) cut WW n) := yf rfl
set_option maxRecDepth 100000 in
theorem fL_units_620 (Post : XPo) (cut : List Nat) (WW : XK) (n : Nat) (L : XLs) (st : List XV) (M : XM) : yru (xlk (pL_units Post)) cut WW (n + 1) 620 L st M = j_ild 7 2 620 L st M (ykk (xlk (pL_units Post)) cut WW n) := yf rfl
set_option maxRecDepth 100000 in
theorem fL_units_622 (Post : XPo) (cut : List Nat) (WW : XK) (n : Nat) (L : XLs) (st : List XV) (M : XM) : yru (xlk (pL_units Post)) cut WW (n + 1) 622 L st M = j_c 8 2 622 L st M (ykk (xlk (pL_units Post)) cut WW n) := yf rfl
set_option maxRecDepth 100000 in
theorem fL_units_624 (Post : XPo) (cut : List Nat) (WW : XK) (n : Nat) (L : XLs) (st : List XV) (M : XM) : yru (xlk (pL_units Post)) cut WW (n + 1) 624 L st M = j_add 624 L st M (ykk (xlk (pL_units Post)) cut WW n) := yf rfl
set_option maxRecDepth 100000 in
theorem fL_units_625 (Post : XPo) (cut : List Nat) (WW : XK) (n : Nat) (L : XLs) (st : List XV) (M : XM) : yru (xlk (pL_units Post)) cut WW (n + 1) 625 L st M = j_iald 625 L st M (ykk (xlk (pL_units Post)) cut WW n) := yf rfl
set_option maxRecDepth 100000 in
theorem fL_units_626 (Post : XPo) (cut : List Nat) (WW : XK) (n : Nat) (L : XLs) (st : List XV) (M : XM) : yru (xlk (pL_units Post)) cut WW (n + 1) 626 L st M = j_lt 659 626 L st M (ykk (xlk (pL_units Post)) cut WW n) := yf rfl
set_option maxRecDepth 100000 in
theorem fL_units_629 (Post : XPo) (cut : List Nat) (WW : XK) (n : Nat) (L : XLs) (st : List XV) (M : XM) : yru (xlk (pL_units Post)) cut WW (n + 1) 629 L st M = j_ald 4 2 629 L st M (ykk (xlk (pL_units Post)) cut WW n) := yf rfl
set_option maxRecDepth 100000 in
theorem fL_units_631 (Post : XPo) (cut : List Nat) (WW : XK) (n : Nat) (L : XLs) (st : List XV) (M : XM) : yru (xlk (pL_units Post)) cut WW (n + 1) 631 L st M = j_ild 6 2 631 L st M (ykk (xlk (pL_units Post)) cut WW n) := yf rfl
set_option maxRecDepth 100000 in
theorem fL_units_633 (Post : XPo) (cut : List Nat) (WW : XK) (n : Nat) (L : XLs) (st : List XV) (M : XM) : yru (xlk (pL_units Post)) cut WW (n + 1) 633 L st M = j_c 8 2 633 L st M (ykk (xlk (pL_units Post)) cut WW n) := yf rfl
set_option maxRecDepth 100000 in
theorem fL_units_635 (Post : XPo) (cut : List Nat) (WW : XK) (n : Nat) (L : XLs) (st : List XV) (M : XM) : yru (xlk (pL_units Post)) cut WW (n + 1) 635 L st M = j_add 635 L st M (ykk (xlk (pL_units Post)) cut WW n) := yf rfl
set_option maxRecDepth 100000 in
theorem fL_units_636 (Post : XPo) (cut : List Nat) (WW : XK) (n : Nat) (L : XLs) (st : List XV) (M : XM) : yru (xlk (pL_units Post)) cut WW (n + 1) 636 L st M = j_iald 636 L st M (ykk (xlk (pL_units Post)) cut WW n) := yf rfl
set_option maxRecDepth 100000 in
theorem fL_units_637 (Post : XPo) (cut : List Nat) (WW : XK) (n : Nat) (L : XLs) (st : List XV) (M : XM) : yru (xlk (pL_units Post)) cut WW (n + 1) 637 L st M = j_lt 675 637 L st M (ykk (xlk (pL_units Post)) cut WW n) := yf rfl
set_option maxRecDepth 100000 in
theorem fL_units_640 (Post : XPo) (cut : List Nat) (WW : XK) (n : Nat) (L : XLs) (st : List XV) (M : XM) : yru (xlk (pL_units Post)) cut WW (n + 1) 640 L st M = j_ald 4 2 640 L st M (ykk (xlk (pL_units Post)) cut WW n) := yf rfl
set_option maxRecDepth 100000 in
theorem fL_units_642 (Post : XPo) (cut : List Nat) (WW : XK) (n : Nat) (L : XLs) (st : List XV) (M : XM) : yru (xlk (pL_units Post)) cut WW (n + 1) 642 L st M = j_ild 6 2 642 L st M (ykk (xlk (pL_units Post)) cut WW n) := yf rfl
set_option maxRecDepth 100000 in
theorem fL_units_644 (Post : XPo) (cut : List Nat) (WW : XK) (n : Nat) (L : XLs) (st : List XV) (M : XM) : yru (xlk (pL_units Post)) cut WW (n + 1) 644 L st M = j_c 8 2 644 L st M (ykk (xlk (pL_units Post)) cut WW n) := yf rfl
set_option maxRecDepth 100000 in
theorem fL_units_646 (Post : XPo) (cut : List Nat) (WW : XK) (n : Nat) (L : XLs) (st : List XV) (M : XM) : yru (xlk (pL_units Post)) cut WW (n + 1) 646 L st M = j_add 646 L st M (ykk (xlk (pL_units Post)) cut WW n) := yf rfl
set_option maxRecDepth 100000 in
theorem fL_units_647 (Post : XPo) (cut : List Nat) (WW : XK) (n : Nat) (L : XLs) (st : List XV) (M : XM) : yru (xlk (pL_units Post)) cut WW (n + 1) 647 L st M = j_iald 647 L st M (ykk (xlk (pL_units Post)) cut WW n) := yf rfl
set_option maxRecDepth 100000 in
theorem fL_units_648 (Post : XPo) (cut : List Nat) (WW : XK) (n : Nat) (L : XLs) (st : List XV) (M : XM) : yru (xlk (pL_units Post)) cut WW (n + 1) 648 L st M = j_ald 4 2 648 L st M (ykk (xlk (pL_units Post)) cut WW n) := yf rfl
set_option maxRecDepth 100000 in
theorem fL_units_650 (Post : XPo) (cut : List Nat) (WW : XK) (n : Nat) (L : XLs) (st : List XV) (M : XM) : yru (xlk (pL_units Post)) cut WW (n + 1) 650 L st M = j_ild 7 2 650 L st M (ykk (xlk (pL_units Post)) cut WW n) := yf rfl
set_option maxRecDepth 100000 in
theorem fL_units_652 (Post : XPo) (cut : List Nat) (WW : XK) (n : Nat) (L : XLs) (st : List XV) (M : XM) : yru (xlk (pL_units Post)) cut WW (n + 1) 652 L st M = j_c 8 2 652 L st M (ykk (xlk (pL_units Post)) cut WW n) := yf rfl
set_option maxRecDepth 100000 in
theorem fL_units_654 (Post : XPo) (cut : List Nat) (WW : XK) (n : Nat) (L : XLs) (st : List XV) (M : XM) : yru (xlk (pL_units Post)) cut WW (n + 1) 654 L st M = j_add 654 L st M (ykk (xlk (pL_units Post)) cut WW n) := yf rfl
set_option maxRecDepth 100000 in
theorem fL_units_655 (Post : XPo) (cut : List Nat) (WW : XK) (n : Nat) (L : XLs) (st : List XV) (M : XM) : yru (xlk (pL_units Post)) cut WW (n + 1) 655 L st M = j_iald 655 L st M (ykk (xlk (pL_units Post)) cut WW n) := yf rfl
set_option maxRecDepth 100000 in
theorem fL_units_656 (Post : XPo) (cut : List Nat) (WW : XK) (n : Nat) (L : XLs) (st : List XV) (M : XM) : yru (xlk (pL_units Post)) cut WW (n + 1) 656 L st M = j_ige 675 656 L st M (ykk (xlk (pL_units Post)) cut WW n) := yf rfl
set_option maxRecDepth 100000 in
theorem fL_units_659 (Post : XPo) (cut : List Nat) (WW : XK) (n : Nat) (L : XLs) (st : List XV) (M : XM) : yru (xlk (pL_units Post)) cut WW (n + 1) 659 L st M = j_ald 4 2 659 L st M (ykk (xlk (pL_units Post)) cut WW n) := yf rfl
set_option maxRecDepth 100000 in
theorem fL_units_661 (Post : XPo) (cut : List Nat) (WW : XK) (n : Nat) (L : XLs) (st : List XV) (M : XM) : yru (xlk (pL_units Post)) cut WW (n + 1) 661 L st M = j_ild 7 2 661 L st M (ykk (xlk (pL_units Post)) cut WW n) := yf rfl
set_option maxRecDepth 100000 in
theorem fL_units_663 (Post : XPo) (cut : List Nat) (WW : XK) (n : Nat) (L : XLs) (st : List XV) (M : XM) : yru (xlk (pL_units Post)) cut WW (n + 1) 663 L st M = j_c 8 2 663 L st M (ykk (xlk (pL_units Post)) cut WW n) := yf rfl
set_option maxRecDepth 100000 in
theorem fL_units_665 (Post : XPo) (cut : List Nat) (WW : XK) (n : Nat) (L : XLs) (st : List XV) (M : XM) : yru (xlk (pL_units Post)) cut WW (n + 1) 665 L st M = j_add 665 L st M (ykk (xlk (pL_units Post)) cut WW n) := yf rfl
set_option maxRecDepth 100000 in
theorem fL_units_666 (Post : XPo) (cut : List Nat) (WW : XK) (n : Nat) (L : XLs) (st : List XV) (M : XM) : yru (xlk (pL_units Post)) cut WW (n + 1) 666 L st M = j_ald 4 2 666 L st M (ykk (xlk (pL_units Post)) cut WW n) := yf rfl
set_option maxRecDepth 100000 in
theorem fL_units_668 (Post : XPo) (cut : List Nat) (WW : XK) (n : Nat) (L : XLs) (st : List XV) (M : XM) : yru (xlk (pL_units Post)) cut WW (n + 1) 668 L st M = j_ild 6 2 668 L st M (ykk (xlk (pL_units Post)) cut WW n) := yf rfl
set_option maxRecDepth 100000 in
theorem fL_units_670 (Post : XPo) (cut : List Nat) (WW : XK) (n : Nat) (L : XLs) (st : List XV) (M : XM) : yru (xlk (pL_units Post)) cut WW (n + 1) 670 L st M = j_c 8 2 670 L st M (ykk (xlk (pL_units Post)) cut WW n) := yf rfl
set_option maxRecDepth 100000 in
theorem fL_units_672 (Post : XPo) (cut : List Nat) (WW : XK) (n : Nat) (L : XLs) (st : List XV) (M : XM) : yru (xlk (pL_units Post)) cut WW (n + 1) 672 L st M = j_add 672 L st M (ykk (xlk (pL_units Post)) cut WW n) := yf rfl
set_option maxRecDepth 100000 in
theorem fL_units_673 (Post : XPo) (cut : List Nat) (WW : XK) (n : Nat) (L : XLs) (st : List XV) (M : XM) : yru (xlk (pL_units Post)) cut WW (n + 1) 673 L st M = j_iald 673 L st M (ykk (xlk (pL_units Post)) cut WW n) := yf rfl
set_option maxRecDepth 100000 in
theorem fL_units_674 (Post : XPo) (cut : List Nat) (WW : XK) (n : Nat) (L : XLs) (st : List XV) (M : XM) : yru (xlk (pL_units Post)) cut WW (n + 1) 674 L st M = j_iast 674 L st M (ykk (xlk (pL_units Post)) cut WW n) := yf rfl
set_option maxRecDepth 100000 in
theorem fL_units_675 (Post : XPo) (cut : List Nat) (WW : XK) (n : Nat) (L : XLs) (st : List XV) (M : XM) : yru (xlk (pL_units Post)) cut WW (n + 1) 675 L st M = j_c 0 1 675 L st M (ykk (xlk (pL_units Post)) cut WW n) := yf rfl
set_option maxRecDepth 100000 in
theorem fL_units_676 (Post : XPo) (cut : List Nat) (WW : XK) (n : Nat) (L : XLs) (st : List XV) (M : XM) : yru (xlk (pL_units Post)) cut WW (n + 1) 676 L st M = j_ist 8 2 676 L st M (ykk (xlk (pL_units Post)) cut WW n) := yf rfl
set_option maxRecDepth 100000 in
theorem fL_units_678 (Post : XPo) (cut : List Nat) (WW : XK) (n : Nat) (L : XLs) (st : List XV) (M : XM) : yru (xlk (pL_units Post)) cut WW (n + 1) 678 L st M = j_ild 8 2 678 L st M (ykk (xlk (pL_units Post)) cut WW n) := yf rfl
set_option maxRecDepth 100000 in
theorem fL_units_680 (Post : XPo) (cut : List Nat) (WW : XK) (n : Nat) (L : XLs) (st : List XV) (M : XM) : yru (xlk (pL_units Post)) cut WW (n + 1) 680 L st M = j_c 4 1 680 L st M (ykk (xlk (pL_units Post)) cut WW n) := yf rfl
set_option maxRecDepth 100000 in
theorem fL_units_681 (Post : XPo) (cut : List Nat) (WW : XK) (n : Nat) (L : XLs) (st : List XV) (M : XM) : yru (xlk (pL_units Post)) cut WW (n + 1) 681 L st M = j_ige 739 681 L st M (ykk (xlk (pL_units Post)) cut WW n) := yf rfl
set_option maxRecDepth 100000 in
theorem fL_units_684 (Post : XPo) (cut : List Nat) (WW : XK) (n : Nat) (L : XLs) (st : List XV) (M : XM) : yru (xlk (pL_units Post)) cut WW (n + 1) 684 L st M = j_ald 4 2 684 L st M (ykk (xlk (pL_units Post)) cut WW n) := yf rfl
set_option maxRecDepth 100000 in
theorem fL_units_686 (Post : XPo) (cut : List Nat) (WW : XK) (n : Nat) (L : XLs) (st : List XV) (M : XM) : yru (xlk (pL_units Post)) cut WW (n + 1) 686 L st M = j_ild 7 2 686 L st M (ykk (xlk (pL_units Post)) cut WW n) := yf rfl
set_option maxRecDepth 100000 in
theorem fL_units_688 (Post : XPo) (cut : List Nat) (WW : XK) (n : Nat) (L : XLs) (st : List XV) (M : XM) : yru (xlk (pL_units Post)) cut WW (n + 1) 688 L st M = j_ild 8 2 688 L st M (ykk (xlk (pL_units Post)) cut WW n) := yf rfl
set_option maxRecDepth 100000 in
theorem fL_units_690 (Post : XPo) (cut : List Nat) (WW : XK) (n : Nat) (L : XLs) (st : List XV) (M : XM) : yru (xlk (pL_units Post)) cut WW (n + 1) 690 L st M = j_c 2 1 690 L st M (ykk (xlk (pL_units Post)) cut WW n) := yf rfl
set_option maxRecDepth 100000 in
theorem fL_units_691 (Post : XPo) (cut : List Nat) (WW : XK) (n : Nat) (L : XLs) (st : List XV) (M : XM) : yru (xlk (pL_units Post)) cut WW (n + 1) 691 L st M = j_ige 701 691 L st M (ykk (xlk (pL_units Post)) cut WW n) := yf rfl
set_option maxRecDepth 100000 in
theorem fL_units_694 (Post : XPo) (cut : List Nat) (WW : XK) (n : Nat) (L : XLs) (st : List XV) (M : XM) : yru (xlk (pL_units Post)) cut WW (n + 1) 694 L st M = j_c 2 1 694 L st M (ykk (xlk (pL_units Post)) cut WW n) := yf rfl
set_option maxRecDepth 100000 in
theorem fL_units_695 (Post : XPo) (cut : List Nat) (WW : XK) (n : Nat) (L : XLs) (st : List XV) (M : XM) : yru (xlk (pL_units Post)) cut WW (n + 1) 695 L st M = j_ild 8 2 695 L st M (ykk (xlk (pL_units Post)) cut WW n) := yf rfl
set_option maxRecDepth 100000 in
theorem fL_units_697 (Post : XPo) (cut : List Nat) (WW : XK) (n : Nat) (L : XLs) (st : List XV) (M : XM) : yru (xlk (pL_units Post)) cut WW (n + 1) 697 L st M = j_add 697 L st M (ykk (xlk (pL_units Post)) cut WW n) := yf rfl
set_option maxRecDepth 100000 in
theorem fL_units_698 (Post : XPo) (cut : List Nat) (WW : XK) (n : Nat) (L : XLs) (st : List XV) (M : XM) : yru (xlk (pL_units Post)) cut WW (n + 1) 698 L st M = j_goto 705 698 L st M (ykk (xlk (pL_units Post)) cut WW n) := yf rfl
set_option maxRecDepth 100000 in
theorem fL_units_701 (Post : XPo) (cut : List Nat) (WW : XK) (n : Nat) (L : XLs) (st : List XV) (M : XM) : yru (xlk (pL_units Post)) cut WW (n + 1) 701 L st M = j_c 4 1 701 L st M (ykk (xlk (pL_units Post)) cut WW n) := yf rfl
set_option maxRecDepth 100000 in
theorem fL_units_702 (Post : XPo) (cut : List Nat) (WW : XK) (n : Nat) (L : XLs) (st : List XV) (M : XM) : yru (xlk (pL_units Post)) cut WW (n + 1) 702 L st M = j_ild 8 2 702 L st M (ykk (xlk (pL_units Post)) cut WW n) := yf rfl
set_option maxRecDepth 100000 in
theorem fL_units_704 (Post : XPo) (cut : List Nat) (WW : XK) (n : Nat) (L : XLs) (st : List XV) (M : XM) : yru (xlk (pL_units Post)) cut WW (n + 1) 704 L st M = j_add 704 L st M (ykk (xlk (pL_units Post)) cut WW n) := yf rfl
set_option maxRecDepth 100000 in
theorem fL_units_705 (Post : XPo) (cut : List Nat) (WW : XK) (n : Nat) (L : XLs) (st : List XV) (M : XM) : yru (xlk (pL_units Post)) cut WW (n + 1) 705 L st M = j_add 705 L st M (ykk (xlk (pL_units Post)) cut WW n) := yf rfl
set_option maxRecDepth 100000 in
theorem fL_units_706 (Post : XPo) (cut : List Nat) (WW : XK) (n : Nat) (L : XLs) (st : List XV) (M : XM) : yru (xlk (pL_units Post)) cut WW (n + 1) 706 L st M = j_dup2 706 L st M (ykk (xlk (pL_units Post)) cut WW n) := yf rfl
set_option maxRecDepth 100000 in
theorem fL_units_707 (Post : XPo) (cut : List Nat) (WW : XK) (n : Nat) (L : XLs) (st : List XV) (M : XM) : yru (xlk (pL_units Post)) cut WW (n + 1) 707 L st M = j_iald 707 L st M (ykk (xlk (pL_units Post)) cut WW n) := yf rfl
set_option maxRecDepth 100000 in
theorem fL_units_708 (Post : XPo) (cut : List Nat) (WW : XK) (n : Nat) (L : XLs) (st : List XV) (M : XM) : yru (xlk (pL_units Post)) cut WW (n + 1) 708 L st M = j_ald 4 2 708 L st M (ykk (xlk (pL_units Post)) cut WW n) := yf rfl
set_option maxRecDepth 100000 in
theorem fL_units_710 (Post : XPo) (cut : List Nat) (WW : XK) (n : Nat) (L : XLs) (st : List XV) (M : XM) : yru (xlk (pL_units Post)) cut WW (n + 1) 710 L st M = j_ild 6 2 710 L st M (ykk (xlk (pL_units Post)) cut WW n) := yf rfl
set_option maxRecDepth 100000 in
theorem fL_units_712 (Post : XPo) (cut : List Nat) (WW : XK) (n : Nat) (L : XLs) (st : List XV) (M : XM) : yru (xlk (pL_units Post)) cut WW (n + 1) 712 L st M = j_ild 8 2 712 L st M (ykk (xlk (pL_units Post)) cut WW n) := yf rfl
set_option maxRecDepth 100000 in
theorem fL_units_714 (Post : XPo) (cut : List Nat) (WW : XK) (n : Nat) (L : XLs) (st : List XV) (M : XM) : yru (xlk (pL_units Post)) cut WW (n + 1) 714 L st M = j_c 2 1 714 L st M (ykk (xlk (pL_units Post)) cut WW n) := yf rfl
set_option maxRecDepth 100000 in
theorem fL_units_715 (Post : XPo) (cut : List Nat) (WW : XK) (n : Nat) (L : XLs) (st : List XV) (M : XM) : yru (xlk (pL_units Post)) cut WW (n + 1) 715 L st M = j_ige 725 715 L st M (ykk (xlk (pL_units Post)) cut WW n) := yf rfl
set_option maxRecDepth 100000 in
theorem fL_units_718 (Post : XPo) (cut : List Nat) (WW : XK) (n : Nat) (L : XLs) (st : List XV) (M : XM) : yru (xlk (pL_units Post)) cut WW (n + 1) 718 L st M = j_c 2 1 718 L st M (ykk (xlk (pL_units Post)) cut WW n) := yf rfl
set_option maxRecDepth 100000 in
theorem fL_units_719 (Post : XPo) (cut : List Nat) (WW : XK) (n : Nat) (L : XLs) (st : List XV) (M : XM) : yru (xlk (pL_units Post)) cut WW (n + 1) 719 L st M = j_ild 8 2 719 L st M (ykk (xlk (pL_units Post)) cut WW n) := yf rfl
set_option maxRecDepth 100000 in
theorem fL_units_721 (Post : XPo) (cut : List Nat) (WW : XK) (n : Nat) (L : XLs) (st : List XV) (M : XM) : yru (xlk (pL_units Post)) cut WW (n + 1) 721 L st M = j_add 721 L st M (ykk (xlk (pL_units Post)) cut WW n) := yf rfl
set_option maxRecDepth 100000 in
theorem fL_units_722 (Post : XPo) (cut : List Nat) (WW : XK) (n : Nat) (L : XLs) (st : List XV) (M : XM) : yru (xlk (pL_units Post)) cut WW (n + 1) 722 L st M = j_goto 729 722 L st M (ykk (xlk (pL_units Post)) cut WW n) := yf rfl
set_option maxRecDepth 100000 in
theorem fL_units_725 (Post : XPo) (cut : List Nat) (WW : XK) (n : Nat) (L : XLs) (st : List XV) (M : XM) : yru (xlk (pL_units Post)) cut WW (n + 1) 725 L st M = j_c 4 1 725 L st M (ykk (xlk (pL_units Post)) cut WW n) := yf rfl
set_option maxRecDepth 100000 in
theorem fL_units_726 (Post : XPo) (cut : List Nat) (WW : XK) (n : Nat) (L : XLs) (st : List XV) (M : XM) : yru (xlk (pL_units Post)) cut WW (n + 1) 726 L st M = j_ild 8 2 726 L st M (ykk (xlk (pL_units Post)) cut WW n) := yf rfl
set_option maxRecDepth 100000 in
theorem fL_units_728 (Post : XPo) (cut : List Nat) (WW : XK) (n : Nat) (L : XLs) (st : List XV) (M : XM) : yru (xlk (pL_units Post)) cut WW (n + 1) 728 L st M = j_add 728 L st M (ykk (xlk (pL_units Post)) cut WW n) := yf rfl
set_option maxRecDepth 100000 in
theorem fL_units_729 (Post : XPo) (cut : List Nat) (WW : XK) (n : Nat) (L : XLs) (st : List XV) (M : XM) : yru (xlk (pL_units Post)) cut WW (n + 1) 729 L st M = j_add 729 L st M (ykk (xlk (pL_units Post)) cut WW n) := yf rfl
set_option maxRecDepth 100000 in
theorem fL_units_730 (Post : XPo) (cut : List Nat) (WW : XK) (n : Nat) (L : XLs) (st : List XV) (M : XM) : yru (xlk (pL_units Post)) cut WW (n + 1) 730 L st M = j_iald 730 L st M (ykk (xlk (pL_units Post)) cut WW n) := yf rfl
set_option maxRecDepth 100000 in
theorem fL_units_731 (Post : XPo) (cut : List Nat) (WW : XK) (n : Nat) (L : XLs) (st : List XV) (M : XM) : yru (xlk (pL_units Post)) cut WW (n + 1) 731 L st M = j_add 731 L st M (ykk (xlk (pL_units Post)) cut WW n) := yf rfl
set_option maxRecDepth 100000 in
theorem fL_units_732 (Post : XPo) (cut : List Nat) (WW : XK) (n : Nat) (L : XLs) (st : List XV) (M : XM) : yru (xlk (pL_units Post)) cut WW (n + 1) 732 L st M = j_iast 732 L st M (ykk (xlk (pL_units Post)) cut WW n) := yf rfl
set_option maxRecDepth 100000 in
theorem fL_units_733 (Post : XPo) (cut : List Nat) (WW : XK) (n : Nat) (L : XLs) (st : List XV) (M : XM) : yru (xlk (pL_units Post)) cut WW (n + 1) 733 L st M = j_inc 8 1 733 L st M (ykk (xlk (pL_units Post)) cut WW n) := yf rfl
set_option maxRecDepth 100000 in
theorem fL_units_736 (Post : XPo) (cut : List Nat) (WW : XK) (n : Nat) (L : XLs) (st : List XV) (M : XM) : yru (xlk (pL_units Post)) cut WW (n + 1) 736 L st M = j_goto 678 736 L st M (ykk (xlk (pL_units Post)) cut WW n) := yf rfl
set_option maxRecDepth 100000 in
theorem fL_units_739 (Post : XPo) (cut : List Nat) (WW : XK) (n : Nat) (L : XLs) (st : List XV) (M : XM) : yru (xlk (pL_units Post)) cut WW (n + 1) 739 L st M = j_ald 4 2 739 L st M (ykk (xlk (pL_units Post)) cut WW n) := yf rfl
set_option maxRecDepth 100000 in
theorem fL_units_741 (Post : XPo) (cut : List Nat) (WW : XK) (n : Nat) (L : XLs) (st : List XV) (M : XM) : yru (xlk (pL_units Post)) cut WW (n + 1) 741 L st M = j_ild 6 2 741 L st M (ykk (xlk (pL_units Post)) cut WW n) := yf rfl
set_option maxRecDepth 100000 in
theorem fL_units_743 (Post : XPo) (cut : List Nat) (WW : XK) (n : Nat) (L : XLs) (st : List XV) (M : XM) : yru (xlk (pL_units Post)) cut WW (n + 1) 743 L st M = j_c 2 1 743 L st M (ykk (xlk (pL_units Post)) cut WW n) := yf rfl
set_option maxRecDepth 100000 in
theorem fL_units_744 (Post : XPo) (cut : List Nat) (WW : XK) (n : Nat) (L : XLs) (st : List XV) (M : XM) : yru (xlk (pL_units Post)) cut WW (n + 1) 744 L st M = j_iast 744 L st M (ykk (xlk (pL_units Post)) cut WW n) := yf rfl
set_option maxRecDepth 100000 in
theorem fL_units_745 (Post : XPo) (cut : List Nat) (WW : XK) (n : Nat) (L : XLs) (st : List XV) (M : XM) : yru (xlk (pL_units Post)) cut WW (n + 1) 745 L st M = j_ald 0 1 745 L st M (ykk (xlk (pL_units Post)) cut WW n) := yf rfl
set_option maxRecDepth 100000 in
theorem fL_units_746 (Post : XPo) (cut : List Nat) (WW : XK) (n : Nat) (L : XLs) (st : List XV) (M : XM) : yru (xlk (pL_units Post)) cut WW (n + 1) 746 L st M = j_ild 6 2 746 L st M (ykk (xlk (pL_units Post)) cut WW n) := yf rfl
set_option maxRecDepth 100000 in
theorem fL_units_748 (Post : XPo) (cut : List Nat) (WW : XK) (n : Nat) (L : XLs) (st : List XV) (M : XM) : yru (xlk (pL_units Post)) cut WW (n + 1) 748 L st M = j_c 12 2 748 L st M (ykk (xlk (pL_units Post)) cut WW n) := yf rfl
set_option maxRecDepth 100000 in
theorem fL_units_750 (Post : XPo) (cut : List Nat) (WW : XK) (n : Nat) (L : XLs) (st : List XV) (M : XM) : yru (xlk (pL_units Post)) cut WW (n + 1) 750 L st M = j_div 750 L st M (ykk (xlk (pL_units Post)) cut WW n) := yf rfl
set_option maxRecDepth 100000 in
theorem fL_units_751 (Post : XPo) (cut : List Nat) (WW : XK) (n : Nat) (L : XLs) (st : List XV) (M : XM) : yru (xlk (pL_units Post)) cut WW (n + 1) 751 L st M = j_ild 7 2 751 L st M (ykk (xlk (pL_units Post)) cut WW n) := yf rfl
set_option maxRecDepth 100000 in
theorem fL_units_753 (Post : XPo) (cut : List Nat) (WW : XK) (n : Nat) (L : XLs) (st : List XV) (M : XM) : yru (xlk (pL_units Post)) cut WW (n + 1) 753 L st M = j_c 12 2 753 L st M (ykk (xlk (pL_units Post)) cut WW n) := yf rfl
set_option maxRecDepth 100000 in
theorem fL_units_755 (Post : XPo) (cut : List Nat) (WW : XK) (n : Nat) (L : XLs) (st : List XV) (M : XM) : yru (xlk (pL_units Post)) cut WW (n + 1) 755 L st M = j_div 755 L st M (ykk (xlk (pL_units Post)) cut WW n) := yf rfl
set_option maxRecDepth 100000 in
theorem fL_units_756 (Post : XPo) (cut : List Nat) (WW : XK) (n : Nat) (L : XLs) (st : List XV) (M : XM) : yru (xlk (pL_units Post)) cut WW (n + 1) 756 L st M = j_V2 0 sX7_join 756 L st M (ykk (xlk (pL_units Post)) cut WW n) := yf rfl
set_option maxRecDepth 100000 in
theorem fL_units_759 (Post : XPo) (cut : List Nat) (WW : XK) (n : Nat) (L : XLs) (st : List XV) (M : XM) : yru (xlk (pL_units Post)) cut WW (n + 1) 759 L st M = j_ald 4 2 759 L st M (ykk (xlk (pL_units Post)) cut WW n) := yf rfl
set_option maxRecDepth 100000 in
theorem fL_units_761 (Post : XPo) (cut : List Nat) (WW : XK) (n : Nat) (L : XLs) (st : List XV) (M : XM) : yru (xlk (pL_units Post)) cut WW (n + 1) 761 L st M = j_ild 7 2 761 L st M (ykk (xlk (pL_units Post)) cut WW n) := yf rfl
set_option maxRecDepth 100000 in
theorem fL_units_763 (Post : XPo) (cut : List Nat) (WW : XK) (n : Nat) (L : XLs) (st : List XV) (M : XM) : yru (xlk (pL_units Post)) cut WW (n + 1) 763 L st M = j_c 2 1 763 L st M (ykk (xlk (pL_units Post)) cut WW n) := yf rfl
set_option maxRecDepth 100000 in
theorem fL_units_764 (Post : XPo) (cut : List Nat) (WW : XK) (n : Nat) (L : XLs) (st : List XV) (M : XM) : yru (xlk (pL_units Post)) cut WW (n + 1) 764 L st M = j_add 764 L st M (ykk (xlk (pL_units Post)) cut WW n) := yf rfl
set_option maxRecDepth 100000 in
theorem fL_units_765 (Post : XPo) (cut : List Nat) (WW : XK) (n : Nat) (L : XLs) (st : List XV) (M : XM) : yru (xlk (pL_units Post)) cut WW (n + 1) 765 L st M = j_iald 765 L st M (ykk (xlk (pL_units Post)) cut WW n) := yf rfl
set_option maxRecDepth 100000 in
theorem fL_units_766 (Post : XPo) (cut : List Nat) (WW : XK) (n : Nat) (L : XLs) (st : List XV) (M : XM) : yru (xlk (pL_units Post)) cut WW (n + 1) 766 L st M = j_ine 773 766 L st M (ykk (xlk (pL_units Post)) cut WW n) := yf rfl
set_option maxRecDepth 100000 in
theorem fL_units_769 (Post : XPo) (cut : List Nat) (WW : XK) (n : Nat) (L : XLs) (st : List XV) (M : XM) : yru (xlk (pL_units Post)) cut WW (n + 1) 769 L st M = j_c 1 1 769 L st M (ykk (xlk (pL_units Post)) cut WW n) := yf rfl
set_option maxRecDepth 100000 in
theorem fL_units_770 (Post : XPo) (cut : List Nat) (WW : XK) (n : Nat) (L : XLs) (st : List XV) (M : XM) : yru (xlk (pL_units Post)) cut WW (n + 1) 770 L st M = j_goto 774 770 L st M (ykk (xlk (pL_units Post)) cut WW n) := yf rfl
set_option maxRecDepth 100000 in
theorem fL_units_773 (Post : XPo) (cut : List Nat) (WW : XK) (n : Nat) (L : XLs) (st : List XV) (M : XM) : yru (xlk (pL_units Post)) cut WW (n + 1) 773 L st M = j_c 0 1 773 L st M (ykk (xlk (pL_units Post)) cut WW n) := yf rfl
set_option maxRecDepth 100000 in
theorem fL_units_774 (Post : XPo) (cut : List Nat) (WW : XK) (n : Nat) (L : XLs) (st : List XV) (M : XM) : yru (xlk (pL_units Post)) cut WW (n + 1) 774 L st M = j_zret Post 774 L st M (ykk (xlk (pL_units Post)) cut WW n) := yf rfl
set_option maxRecDepth 100000 in
theorem fL_units_775 (Post : XPo) (cut : List Nat) (WW : XK) (n : Nat) (L : XLs) (st : List XV) (M : XM) : yru (xlk (pL_units Post)) cut WW (n + 1) 775 L st M = j_ald 4 2 775 L st M (ykk (xlk (pL_units Post)) cut WW n) := yf rfl
set_option maxRecDepth 100000 in
theorem fL_units_777 (Post : XPo) (cut : List Nat) (WW : XK) (n : Nat) (L : XLs) (st : List XV) (M : XM) : yru (xlk (pL_units Post)) cut WW (n + 1) 777 L st M = j_ild 6 2 777 L st M (ykk (xlk (pL_units Post)) cut WW n) := yf rfl
set_option maxRecDepth 100000 in
theorem fL_units_779 (Post : XPo) (cut : List Nat) (WW : XK) (n : Nat) (L : XLs) (st : List XV) (M : XM) : yru (xlk (pL_units Post)) cut WW (n + 1) 779 L st M = j_c 6 2 779 L st M (ykk (xlk (pL_units Post)) cut WW n) := yf rfl
set_option maxRecDepth 100000 in
theorem fL_units_781 (Post : XPo) (cut : List Nat) (WW : XK) (n : Nat) (L : XLs) (st : List XV) (M : XM) : yru (xlk (pL_units Post)) cut WW (n + 1) 781 L st M = j_add 781 L st M (ykk (xlk (pL_units Post)) cut WW n) := yf rfl
set_option maxRecDepth 100000 in
theorem fL_units_782 (Post : XPo) (cut : List Nat) (WW : XK) (n : Nat) (L : XLs) (st : List XV) (M : XM) : yru (xlk (pL_units Post)) cut WW (n + 1) 782 L st M = j_iald 782 L st M (ykk (xlk (pL_units Post)) cut WW n) := yf rfl
set_option maxRecDepth 100000 in
theorem fL_units_783 (Post : XPo) (cut : List Nat) (WW : XK) (n : Nat) (L : XLs) (st : List XV) (M : XM) : yru (xlk (pL_units Post)) cut WW (n + 1) 783 L st M = j_ald 4 2 783 L st M (ykk (xlk (pL_units Post)) cut WW n) := yf rfl
set_option maxRecDepth 100000 in
theorem fL_units_785 (Post : XPo) (cut : List Nat) (WW : XK) (n : Nat) (L : XLs) (st : List XV) (M : XM) : yru (xlk (pL_units Post)) cut WW (n + 1) 785 L st M = j_ild 6 2 785 L st M (ykk (xlk (pL_units Post)) cut WW n) := yf rfl
set_option maxRecDepth 100000 in
theorem fL_units_787 (Post : XPo) (cut : List Nat) (WW : XK) (n : Nat) (L : XLs) (st : List XV) (M : XM) : yru (xlk (pL_units Post)) cut WW (n + 1) 787 L st M = j_c 7 2 787 L st M (ykk (xlk (pL_units Post)) cut WW n) := yf rfl
set_option maxRecDepth 100000 in
theorem fL_units_789 (Post : XPo) (cut : List Nat) (WW : XK) (n : Nat) (L : XLs) (st : List XV) (M : XM) : yru (xlk (pL_units Post)) cut WW (n + 1) 789 L st M = j_add 789 L st M (ykk (xlk (pL_units Post)) cut WW n) := yf rfl
set_option maxRecDepth 100000 in
theorem fL_units_790 (Post : XPo) (cut : List Nat) (WW : XK) (n : Nat) (L : XLs) (st : List XV) (M : XM) : yru (xlk (pL_units Post)) cut WW (n + 1) 790 L st M = j_iald 790 L st M (ykk (xlk (pL_units Post)) cut WW n) := yf rfl
set_option maxRecDepth 100000 in
theorem fL_units_791 (Post : XPo) (cut : List Nat) (WW : XK) (n : Nat) (L : XLs) (st : List XV) (M : XM) : yru (xlk (pL_units Post)) cut WW (n + 1) 791 L st M = j_add 791 L st M (ykk (xlk (pL_units Post)) cut WW n) := yf rfl
set_option maxRecDepth 100000 in
theorem fL_units_792 (Post : XPo) (cut : List Nat) (WW : XK) (n : Nat) (L : XLs) (st : List XV) (M : XM) : yru (xlk (pL_units Post)) cut WW (n + 1) 792 L st M = j_ist 8 2 792 L st M (ykk (xlk (pL_units Post)) cut WW n) := yf rfl
set_option maxRecDepth 100000 in
theorem fL_units_794 (Post : XPo) (cut : List Nat) (WW : XK) (n : Nat) (L : XLs) (st : List XV) (M : XM) : yru (xlk (pL_units Post)) cut WW (n + 1) 794 L st M = j_ald 4 2 794 L st M (ykk (xlk (pL_units Post)) cut WW n) := yf rfl
set_option maxRecDepth 100000 in
theorem fL_units_796 (Post : XPo) (cut : List Nat) (WW : XK) (n : Nat) (L : XLs) (st : List XV) (M : XM) : yru (xlk (pL_units Post)) cut WW (n + 1) 796 L st M = j_ild 6 2 796 L st M (ykk (xlk (pL_units Post)) cut WW n) := yf rfl
set_option maxRecDepth 100000 in
theorem fL_units_798 (Post : XPo) (cut : List Nat) (WW : XK) (n : Nat) (L : XLs) (st : List XV) (M : XM) : yru (xlk (pL_units Post)) cut WW (n + 1) 798 L st M = j_c 1 1 798 L st M (ykk (xlk (pL_units Post)) cut WW n) := yf rfl
set_option maxRecDepth 100000 in
theorem fL_units_799 (Post : XPo) (cut : List Nat) (WW : XK) (n : Nat) (L : XLs) (st : List XV) (M : XM) : yru (xlk (pL_units Post)) cut WW (n + 1) 799 L st M = j_iast 799 L st M (ykk (xlk (pL_units Post)) cut WW n) := yf rfl
set_option maxRecDepth 100000 in
theorem fL_units_800 (Post : XPo) (cut : List Nat) (WW : XK) (n : Nat) (L : XLs) (st : List XV) (M : XM) : yru (xlk (pL_units Post)) cut WW (n + 1) 800 L st M = j_ald 4 2 800 L st M (ykk (xlk (pL_units Post)) cut WW n) := yf rfl
set_option maxRecDepth 100000 in
theorem fL_units_802 (Post : XPo) (cut : List Nat) (WW : XK) (n : Nat) (L : XLs) (st : List XV) (M : XM) : yru (xlk (pL_units Post)) cut WW (n + 1) 802 L st M = j_ild 6 2 802 L st M (ykk (xlk (pL_units Post)) cut WW n) := yf rfl
set_option maxRecDepth 100000 in
theorem fL_units_804 (Post : XPo) (cut : List Nat) (WW : XK) (n : Nat) (L : XLs) (st : List XV) (M : XM) : yru (xlk (pL_units Post)) cut WW (n + 1) 804 L st M = j_c 11 2 804 L st M (ykk (xlk (pL_units Post)) cut WW n) := yf rfl
set_option maxRecDepth 100000 in
theorem fL_units_806 (Post : XPo) (cut : List Nat) (WW : XK) (n : Nat) (L : XLs) (st : List XV) (M : XM) : yru (xlk (pL_units Post)) cut WW (n + 1) 806 L st M = j_add 806 L st M (ykk (xlk (pL_units Post)) cut WW n) := yf rfl
set_option maxRecDepth 100000 in
theorem fL_units_807 (Post : XPo) (cut : List Nat) (WW : XK) (n : Nat) (L : XLs) (st : List XV) (M : XM) : yru (xlk (pL_units Post)) cut WW (n + 1) 807 L st M = j_ild 8 2 807 L st M (ykk (xlk (pL_units Post)) cut WW n) := yf rfl
set_option maxRecDepth 100000 in
theorem fL_units_809 (Post : XPo) (cut : List Nat) (WW : XK) (n : Nat) (L : XLs) (st : List XV) (M : XM) : yru (xlk (pL_units Post)) cut WW (n + 1) 809 L st M = j_iast 809 L st M (ykk (xlk (pL_units Post)) cut WW n) := yf rfl
set_option maxRecDepth 100000 in
theorem fL_units_810 (Post : XPo) (cut : List Nat) (WW : XK) (n : Nat) (L : XLs) (st : List XV) (M : XM) : yru (xlk (pL_units Post)) cut WW (n + 1) 810 L st M = j_ald 3 1 810 L st M (ykk (xlk (pL_units Post)) cut WW n) := yf rfl
set_option maxRecDepth 100000 in
theorem fL_units_811 (Post : XPo) (cut : List Nat) (WW : XK) (n : Nat) (L : XLs) (st : List XV) (M : XM) : yru (xlk (pL_units Post)) cut WW (n + 1) 811 L st M = j_c 17 2 811 L st M (ykk (xlk (pL_units Post)) cut WW n) := yf rfl
set_option maxRecDepth 100000 in
theorem fL_units_813 (Post : XPo) (cut : List Nat) (WW : XK) (n : Nat) (L : XLs) (st : List XV) (M : XM) : yru (xlk (pL_units Post)) cut WW (n + 1) 813 L st M = j_dup2 813 L st M (ykk (xlk (pL_units Post)) cut WW n) := yf rfl
set_option maxRecDepth 100000 in
theorem fL_units_814 (Post : XPo) (cut : List Nat) (WW : XK) (n : Nat) (L : XLs) (st : List XV) (M : XM) : yru (xlk (pL_units Post)) cut WW (n + 1) 814 L st M = j_iald 814 L st M (ykk (xlk (pL_units Post)) cut WW n) := yf rfl
set_option maxRecDepth 100000 in
theorem fL_units_815 (Post : XPo) (cut : List Nat) (WW : XK) (n : Nat) (L : XLs) (st : List XV) (M : XM) : yru (xlk (pL_units Post)) cut WW (n + 1) 815 L st M = j_ild 8 2 815 L st M (ykk (xlk (pL_units Post)) cut WW n) := yf rfl
set_option maxRecDepth 100000 in
theorem fL_units_817 (Post : XPo) (cut : List Nat) (WW : XK) (n : Nat) (L : XLs) (st : List XV) (M : XM) : yru (xlk (pL_units Post)) cut WW (n + 1) 817 L st M = j_add 817 L st M (ykk (xlk (pL_units Post)) cut WW n) := yf rfl
set_option maxRecDepth 100000 in
theorem fL_units_818 (Post : XPo) (cut : List Nat) (WW : XK) (n : Nat) (L : XLs) (st : List XV) (M : XM) : yru (xlk (pL_units Post)) cut WW (n + 1) 818 L st M = j_iast 818 L st M (ykk (xlk (pL_units Post)) cut WW n) := yf rfl
set_option maxRecDepth 100000 in
theorem fL_units_819 (Post : XPo) (cut : List Nat) (WW : XK) (n : Nat) (L : XLs) (st : List XV) (M : XM) : yru (xlk (pL_units Post)) cut WW (n + 1) 819 L st M = j_ald 0 1 819 L st M (ykk (xlk (pL_units Post)) cut WW n) := yf rfl
set_option maxRecDepth 100000 in
theorem fL_units_820 (Post : XPo) (cut : List Nat) (WW : XK) (n : Nat) (L : XLs) (st : List XV) (M : XM) : yru (xlk (pL_units Post)) cut WW (n + 1) 820 L st M = j_ild 6 2 820 L st M (ykk (xlk (pL_units Post)) cut WW n) := yf rfl
set_option maxRecDepth 100000 in
theorem fL_units_822 (Post : XPo) (cut : List Nat) (WW : XK) (n : Nat) (L : XLs) (st : List XV) (M : XM) : yru (xlk (pL_units Post)) cut WW (n + 1) 822 L st M = j_c 12 2 822 L st M (ykk (xlk (pL_units Post)) cut WW n) := yf rfl
set_option maxRecDepth 100000 in
theorem fL_units_824 (Post : XPo) (cut : List Nat) (WW : XK) (n : Nat) (L : XLs) (st : List XV) (M : XM) : yru (xlk (pL_units Post)) cut WW (n + 1) 824 L st M = j_div 824 L st M (ykk (xlk (pL_units Post)) cut WW n) := yf rfl
set_option maxRecDepth 100000 in
theorem fL_units_825 (Post : XPo) (cut : List Nat) (WW : XK) (n : Nat) (L : XLs) (st : List XV) (M : XM) : yru (xlk (pL_units Post)) cut WW (n + 1) 825 L st M = j_V1 0 sX7_wrap 825 L st M (ykk (xlk (pL_units Post)) cut WW n) := yf rfl
set_option maxRecDepth 100000 in
theorem fL_units_828 (Post : XPo) (cut : List Nat) (WW : XK) (n : Nat) (L : XLs) (st : List XV) (M : XM) : yru (xlk (pL_units Post)) cut WW (n + 1) 828 L st M = j_ild 8 2 828 L st M (ykk (xlk (pL_units Post)) cut WW n) := yf rfl
set_option maxRecDepth 100000 in
theorem fL_units_830 (Post : XPo) (cut : List Nat) (WW : XK) (n : Nat) (L : XLs) (st : List XV) (M : XM) : yru (xlk (pL_units Post)) cut WW (n + 1) 830 L st M = j_ine 837 830 L st M (ykk (xlk (pL_units Post)) cut WW n) := yf rfl
set_option maxRecDepth 100000 in
theorem fL_units_833 (Post : XPo) (cut : List Nat) (WW : XK) (n : Nat) (L : XLs) (st : List XV) (M : XM) : yru (xlk (pL_units Post)) cut WW (n + 1) 833 L st M = j_c 1 1 833 L st M (ykk (xlk (pL_units Post)) cut WW n) := yf rfl
set_option maxRecDepth 100000 in
theorem fL_units_834 (Post : XPo) (cut : List Nat) (WW : XK) (n : Nat) (L : XLs) (st : List XV) (M : XM) : yru (xlk (pL_units Post)) cut WW (n + 1) 834 L st M = j_goto 838 834 L st M (ykk (xlk (pL_units Post)) cut WW n) := yf rfl
set_option maxRecDepth 100000 in
theorem fL_units_837 (Post : XPo) (cut : List Nat) (WW : XK) (n : Nat) (L : XLs) (st : List XV) (M : XM) : yru (xlk (pL_units Post)) cut WW (n + 1) 837 L st M = j_c 0 1 837 L st M (ykk (xlk (pL_units Post)) cut WW n) := yf rfl
set_option maxRecDepth 100000 in
theorem fL_units_838 (Post : XPo) (cut : List Nat) (WW : XK) (n : Nat) (L : XLs) (st : List XV) (M : XM) : yru (xlk (pL_units Post)) cut WW (n + 1) 838 L st M = j_zret Post 838 L st M (ykk (xlk (pL_units Post)) cut WW n) := yf rfl
def sL_units : XSp := fun av M Q => match av with
  | [.inr (.inl (some oo)), .inl x, .inl y, .inr (.inl (some o0)), .inr (.inl (some o1))] => (oo = (0, 0, 0) ∧ o0 = (20, 0, 0) ∧ o1 = (28, 0, 0)) ∧ (XInR x ∧ XInR y) ∧ ∃ a : Int, a + 1 ≤ 45 ∧ Full a M ∧ ∀ M' : XM, Full (a + 1) M' → Q [xI 1] M'
  | _ => False
set_option maxRecDepth 100000 in
theorem kL_uz {Post : XPo} {WW : XK} (hC : XCl (xlk (pL_units Post)) WW) {x y act m : Int} (hm : 0 ≤ m ∧ m < 5) {M : XM} (h : ∀ M' : XM, (∀ t : Nat, ¬ t = 28 → M' t = M t) → (∀ n : Int, M' 28 0 0 n = if 12 * m ≤ n ∧ n < 12 * m + 12 then 0 else M 28 0 0 n) → WW 66 [some (xR 0 0 0), some (xI x), some (xI y), some (xR 20 0 0), some (xR 28 0 0), some (xI act), some (xI (12 * m)), some (xI 12), none, none, none, none] [] M') : ∀ (n : Nat) (j : Int) (N : XM), 0 ≤ j → j + n = 12 → (∀ t : Nat, ¬ t = 28 → N t = M t) → (∀ i : Int, N 28 0 0 i = if 12 * m ≤ i ∧ i < 12 * m + j then 0 else M 28 0 0 i) → WW 44 [some (xR 0 0 0), some (xI x), some (xI y), some (xR 20 0 0), some (xR 28 0 0), some (xI act), some (xI (12 * m)), some (xI j), none, none, none, none] [] N := by
  intro n
  induction n with
  | zero =>
    intro j N h0 hj hN h28
    have e : j = 12 := by omega
    subst e
    have hb := h N hN h28
    refine yru_ok hC [66, 51] 5 _ _ _ _ ?_
    simp only [ykk_ap, Int.reduceEq, Int.reduceLT, Int.reduceLE, Int.reduceNeg, Int.reduceAdd, Int.reduceSub, Int.reduceMul, and_self, false_and, and_false, not_true_eq_false, not_false_eq_true, true_implies, false_implies, xq0, xq1, xq2, xq3, xq4, xq5, xqR, xq1R, xq3R, xt1, xt2, xt3, List.mem_cons, List.not_mem_nil, or_false, false_or, or_self, if_false, if_true, reduceIte, reduceCtorEq, xent, xen, List.length_cons, List.length_nil, List.replicate, j_c, j_cJ, j_ild, j_ald, j_lld, j_ist, j_ast, j_lst, j_inc, j_add, j_sub, j_mul, j_neg, j_div, j_rem, j_and, j_shr, j_shl1, j_or, j_ladd, j_lsub, j_lmul, j_i2l, j_lcmp, j_i2c, j_dup, j_dup2, j_pop, j_goto, j_ieq, j_ine, j_ilt, j_ige, j_igt, j_ile, j_eq, j_ne, j_lt, j_ge, j_gt, j_le, xsw, j_tsw, j_gI, j_gJ, j_gR, j_pI, j_pJ, j_gs, j_iald, j_iast, j_cald, j_cast, j_aald, j_cpy, j_min, j_max, j_abs, j_iret, j_zret, j_lret, j_dret, j_ret0, j_V0, j_V1, j_V2, j_V3, j_V4, j_V5, j_S1, j_S2, j_S3, xget, xset, xset2, xclr, xc1, xcat, Nat.reduceAdd, Nat.reduceEqDiff, Nat.reduceLT, Nat.reduceLeDiff, Nat.reduceMul, List.cons_append, List.nil_append, true_and, and_true, List.singleton_append, j_lsw2, j_Sn, j_ush, j_dupx2, List.take_succ_cons, List.take_zero, List.drop_succ_cons, List.drop_zero, List.reverse_cons, List.reverse_nil, Nat.le_refl, fL_units_44, fL_units_46, fL_units_48, xvz_20, xvz_21, xvz_22, xvz_23, xvz_24, xvz_25, xvz_26, xvz_27, xvz_28, xvz_29, xrz_20, xrz_21, xrz_22, xrz_23, xrz_24, xrz_25, xrz_26, xrz_27, xrz_28, xrz_29, xdz_20, xdz_21, xdz_22, xdz_23, xdz_24, xdz_25, xdz_26, xdz_27, xdz_28, xdz_29, xlen, xcat, xc1, Nat.zero_le, Nat.reduceLeDiff, List.length_cons, List.length_nil, xvz_0, xr_c (n := 0) rfl, xr_c (n := 1) rfl, xr_c (n := 12) rfl]
    exact hb
  | succ n ih =>
    intro j N h0 hj hN h28
    have rj : XInR j := ⟨by omega, by omega⟩
    have hlt : ¬ (12 : Int) ≤ j := by omega
    have i0 : 0 ≤ 12 * m + j := by omega
    have i1 : 12 * m + j < 60 := by omega
    have hb := ih (j + 1) (xup N 28 0 0 (12 * m + j) 0) (by omega) (by omega) (fun t ht => by rw [xup_tag ht]; exact hN t ht) (fun i => by
      rw [xup_row]
      simp only [sup_at]
      by_cases e : i = 12 * m + j
      · rw [if_pos e, if_pos (by omega)]
      · rw [if_neg e, h28]
        by_cases c : 12 * m ≤ i ∧ i < 12 * m + j
        · rw [if_pos c, if_pos (by omega)]
        · rw [if_neg c, if_neg (by omega)])
    refine yru_ok hC [66, 51] 5 _ _ _ _ ?_
    simp only [ykk_ap, Int.reduceEq, Int.reduceLT, Int.reduceLE, Int.reduceNeg, Int.reduceAdd, Int.reduceSub, Int.reduceMul, and_self, false_and, and_false, not_true_eq_false, not_false_eq_true, true_implies, false_implies, xq0, xq1, xq2, xq3, xq4, xq5, xqR, xq1R, xq3R, xt1, xt2, xt3, List.mem_cons, List.not_mem_nil, or_false, false_or, or_self, if_false, if_true, reduceIte, reduceCtorEq, xent, xen, List.length_cons, List.length_nil, List.replicate, j_c, j_cJ, j_ild, j_ald, j_lld, j_ist, j_ast, j_lst, j_inc, j_add, j_sub, j_mul, j_neg, j_div, j_rem, j_and, j_shr, j_shl1, j_or, j_ladd, j_lsub, j_lmul, j_i2l, j_lcmp, j_i2c, j_dup, j_dup2, j_pop, j_goto, j_ieq, j_ine, j_ilt, j_ige, j_igt, j_ile, j_eq, j_ne, j_lt, j_ge, j_gt, j_le, xsw, j_tsw, j_gI, j_gJ, j_gR, j_pI, j_pJ, j_gs, j_iald, j_iast, j_cald, j_cast, j_aald, j_cpy, j_min, j_max, j_abs, j_iret, j_zret, j_lret, j_dret, j_ret0, j_V0, j_V1, j_V2, j_V3, j_V4, j_V5, j_S1, j_S2, j_S3, xget, xset, xset2, xclr, xc1, xcat, Nat.reduceAdd, Nat.reduceEqDiff, Nat.reduceLT, Nat.reduceLeDiff, Nat.reduceMul, List.cons_append, List.nil_append, true_and, and_true, List.singleton_append, j_lsw2, j_Sn, j_ush, j_dupx2, List.take_succ_cons, List.take_zero, List.drop_succ_cons, List.drop_zero, List.reverse_cons, List.reverse_nil, Nat.le_refl, fL_units_44, fL_units_46, fL_units_48, xvz_20, xvz_21, xvz_22, xvz_23, xvz_24, xvz_25, xvz_26, xvz_27, xvz_28, xvz_29, xrz_20, xrz_21, xrz_22, xrz_23, xrz_24, xrz_25, xrz_26, xrz_27, xrz_28, xrz_29, xdz_20, xdz_21, xdz_22, xdz_23, xdz_24, xdz_25, xdz_26, xdz_27, xdz_28, xdz_29, xlen, xcat, xc1, Nat.zero_le, Nat.reduceLeDiff, List.length_cons, List.length_nil, xvz_0, rj, hlt, i0, i1, xr_c (n := 0) rfl, xr_c (n := 1) rfl, xr_c (n := 12) rfl]
    refine yru_ok hC [44] 10 _ _ _ _ ?_
    simp only [ykk_ap, Int.reduceEq, Int.reduceLT, Int.reduceLE, Int.reduceNeg, Int.reduceAdd, Int.reduceSub, Int.reduceMul, and_self, false_and, and_false, not_true_eq_false, not_false_eq_true, true_implies, false_implies, xq0, xq1, xq2, xq3, xq4, xq5, xqR, xq1R, xq3R, xt1, xt2, xt3, List.mem_cons, List.not_mem_nil, or_false, false_or, or_self, if_false, if_true, reduceIte, reduceCtorEq, xent, xen, List.length_cons, List.length_nil, List.replicate, j_c, j_cJ, j_ild, j_ald, j_lld, j_ist, j_ast, j_lst, j_inc, j_add, j_sub, j_mul, j_neg, j_div, j_rem, j_and, j_shr, j_shl1, j_or, j_ladd, j_lsub, j_lmul, j_i2l, j_lcmp, j_i2c, j_dup, j_dup2, j_pop, j_goto, j_ieq, j_ine, j_ilt, j_ige, j_igt, j_ile, j_eq, j_ne, j_lt, j_ge, j_gt, j_le, xsw, j_tsw, j_gI, j_gJ, j_gR, j_pI, j_pJ, j_gs, j_iald, j_iast, j_cald, j_cast, j_aald, j_cpy, j_min, j_max, j_abs, j_iret, j_zret, j_lret, j_dret, j_ret0, j_V0, j_V1, j_V2, j_V3, j_V4, j_V5, j_S1, j_S2, j_S3, xget, xset, xset2, xclr, xc1, xcat, Nat.reduceAdd, Nat.reduceEqDiff, Nat.reduceLT, Nat.reduceLeDiff, Nat.reduceMul, List.cons_append, List.nil_append, true_and, and_true, List.singleton_append, j_lsw2, j_Sn, j_ush, j_dupx2, List.take_succ_cons, List.take_zero, List.drop_succ_cons, List.drop_zero, List.reverse_cons, List.reverse_nil, Nat.le_refl, fL_units_51, fL_units_53, fL_units_55, fL_units_57, fL_units_58, fL_units_59, fL_units_60, fL_units_63, xvz_20, xvz_21, xvz_22, xvz_23, xvz_24, xvz_25, xvz_26, xvz_27, xvz_28, xvz_29, xrz_20, xrz_21, xrz_22, xrz_23, xrz_24, xrz_25, xrz_26, xrz_27, xrz_28, xrz_29, xdz_20, xdz_21, xdz_22, xdz_23, xdz_24, xdz_25, xdz_26, xdz_27, xdz_28, xdz_29, xlen, xcat, xc1, Nat.zero_le, Nat.reduceLeDiff, List.length_cons, List.length_nil, xvz_0, rj, hlt, i0, i1, xr_c (n := 0) rfl, xr_c (n := 1) rfl, xr_c (n := 12) rfl]
    exact hb
set_option maxRecDepth 100000 in
theorem kL_uadd {Post : XPo} {WW : XK} (hC : XCl (xlk (pL_units Post)) WW) {a x y act : Int} {M : XM} (ry : XInR y) (ha : a + 1 ≤ 45) (hF : Full a M) (h5 : M 20 0 0 3 < 5) (h : ∀ M' : XM, Full (a + 1) M' → Post [xI 1] M') : WW 28 [some (xR 0 0 0), some (xI x), some (xI y), some (xR 20 0 0), some (xR 28 0 0), some (xI act), none, none, none, none, none, none] [] M := by
  obtain ⟨hK, hX, F, T, hR⟩ := hF
  obtain ⟨c1, c2, c3, c4, c5', c6, c7, c8⟩ := hR.1
  obtain ⟨m, hm⟩ : ∃ m : Int, m = M 20 0 0 3 := ⟨_, rfl⟩
  rw [← hm] at h5 c5'
  have m5 : 0 ≤ m ∧ m < 5 := by omega
  have rm : XInR m := ⟨by omega, by omega⟩
  have e3 : M 20 0 0 3 = m := hm.symm
  refine yru_ok hC [44] 15 _ _ _ _ ?_
  simp only [ykk_ap, Int.reduceEq, Int.reduceLT, Int.reduceLE, Int.reduceNeg, Int.reduceAdd, Int.reduceSub, Int.reduceMul, and_self, false_and, and_false, not_true_eq_false, not_false_eq_true, true_implies, false_implies, xq0, xq1, xq2, xq3, xq4, xq5, xqR, xq1R, xq3R, xt1, xt2, xt3, List.mem_cons, List.not_mem_nil, or_false, false_or, or_self, if_false, if_true, reduceIte, reduceCtorEq, xent, xen, List.length_cons, List.length_nil, List.replicate, j_c, j_cJ, j_ild, j_ald, j_lld, j_ist, j_ast, j_lst, j_inc, j_add, j_sub, j_mul, j_neg, j_div, j_rem, j_and, j_shr, j_shl1, j_or, j_ladd, j_lsub, j_lmul, j_i2l, j_lcmp, j_i2c, j_dup, j_dup2, j_pop, j_goto, j_ieq, j_ine, j_ilt, j_ige, j_igt, j_ile, j_eq, j_ne, j_lt, j_ge, j_gt, j_le, xsw, j_tsw, j_gI, j_gJ, j_gR, j_pI, j_pJ, j_gs, j_iald, j_iast, j_cald, j_cast, j_aald, j_cpy, j_min, j_max, j_abs, j_iret, j_zret, j_lret, j_dret, j_ret0, j_V0, j_V1, j_V2, j_V3, j_V4, j_V5, j_S1, j_S2, j_S3, xget, xset, xset2, xclr, xc1, xcat, Nat.reduceAdd, Nat.reduceEqDiff, Nat.reduceLT, Nat.reduceLeDiff, Nat.reduceMul, List.cons_append, List.nil_append, true_and, and_true, List.singleton_append, j_lsw2, j_Sn, j_ush, j_dupx2, List.take_succ_cons, List.take_zero, List.drop_succ_cons, List.drop_zero, List.reverse_cons, List.reverse_nil, Nat.le_refl, fL_units_28, fL_units_30, fL_units_31, fL_units_32, fL_units_33, fL_units_34, fL_units_35, fL_units_36, fL_units_37, fL_units_38, fL_units_39, fL_units_41, fL_units_42, xvz_20, xvz_21, xvz_22, xvz_23, xvz_24, xvz_25, xvz_26, xvz_27, xvz_28, xvz_29, xrz_20, xrz_21, xrz_22, xrz_23, xrz_24, xrz_25, xrz_26, xrz_27, xrz_28, xrz_29, xdz_20, xdz_21, xdz_22, xdz_23, xdz_24, xdz_25, xdz_26, xdz_27, xdz_28, xdz_29, xlen, xcat, xc1, Nat.zero_le, Nat.reduceLeDiff, List.length_cons, List.length_nil, xvz_0, e3, xup_app]
  obtain ⟨M0, hM0⟩ : ∃ M0 : XM, M0 = xup M 20 0 0 3 (m + 1) := ⟨_, rfl⟩
  rw [← hM0]
  refine kL_uz hC m5 (fun M1 u1 u2 => ?_) 12 0 M0 (by decide) (by decide) (fun _ _ => rfl) (fun i => by rw [if_neg (by omega)])
  have q20 : ∀ s : Int, M1 20 0 0 s = if s = 3 then m + 1 else M 20 0 0 s := fun s => by rw [u1 20 (by decide), hM0, xup_row]; rfl
  have E1 : EQ M1 M := fun t ht => by rw [u1 t (by omega), hM0, xup_tag (by omega)]
  have e28 : M0 28 = M 28 := by rw [hM0, xup_tag (by decide)]
  have n0 : M1 20 0 0 0 = M 20 0 0 0 := by rw [q20, if_neg (by decide)]
  have n4 : M1 20 0 0 4 = M 20 0 0 4 := by rw [q20, if_neg (by decide)]
  obtain ⟨p, hp⟩ : ∃ p : Int, aT y (M 20 0 0 0) = p := ⟨_, rfl⟩
  obtain ⟨n, hn⟩ : ∃ n : Int, 1 + aT (y / 8) 30 = n := ⟨_, rfl⟩
  obtain ⟨g, hg⟩ : ∃ g : Int, aT (y / 256) (n + 1) = g := ⟨_, rfl⟩
  obtain ⟨c, hc⟩ : ∃ c : Int, M 20 0 0 4 + 1 + aT (y / 8192) 20 = c := ⟨_, rfl⟩
  obtain ⟨v, hv⟩ : ∃ v : Int, 30 + aT (y / 131072) 20 = v := ⟨_, rfl⟩
  have tp := aT_in (x := y) (n := M 20 0 0 0) (by omega)
  have tn := aT_in (x := y / 8) (n := 30) (by decide)
  have tg := aT_in (x := y / 256) (n := n + 1) (by omega)
  have tc := aT_in (x := y / 8192) (n := 20) (by decide)
  have tv := aT_in (x := y / 131072) (n := 20) (by decide)
  rw [hp] at tp
  rw [hg] at tg
  have p3 : y / 2 ^ (3 : Int).toNat = y / 8 := rfl
  have p8 : y / 2 ^ (8 : Int).toNat = y / 256 := rfl
  have p13 : y / 2 ^ (13 : Int).toNat = y / 8192 := rfl
  have p17 : y / 2 ^ (17 : Int).toNat = y / 131072 := rfl
  have k0 : 0 < M 20 0 0 0 := by omega
  have k1 : M 20 0 0 0 ≤ 1000000 := by omega
  have k2 : 0 < n + 1 := by omega
  have k3 : n + 1 ≤ 1000000 := by omega
  have q : ∀ s s' : Int, (12 * m + s = 12 * m + s') = (s = s') := fun s s' => by simp only [eq_iff_iff]; omega
  have jj : ∀ s : Int, 0 ≤ s → s < 12 → (0 ≤ 12 * m + s ∧ 12 * m + s < 60) := fun s s0 s1 => by omega
  have j1 := jj 1 (by decide) (by decide)
  have j2 := jj 2 (by decide) (by decide)
  have j3 := jj 3 (by decide) (by decide)
  have j4 := jj 4 (by decide) (by decide)
  have j5 := jj 5 (by decide) (by decide)
  have j8 := jj 8 (by decide) (by decide)
  refine yru_ok hC [213] 105 _ _ _ _ ?_
  simp only [ykk_ap, Int.reduceEq, Int.reduceLT, Int.reduceLE, Int.reduceNeg, Int.reduceAdd, Int.reduceSub, Int.reduceMul, and_self, false_and, and_false, not_true_eq_false, not_false_eq_true, true_implies, false_implies, xq0, xq1, xq2, xq3, xq4, xq5, xqR, xq1R, xq3R, xt1, xt2, xt3, List.mem_cons, List.not_mem_nil, or_false, false_or, or_self, if_false, if_true, reduceIte, reduceCtorEq, xent, xen, List.length_cons, List.length_nil, List.replicate, j_c, j_cJ, j_ild, j_ald, j_lld, j_ist, j_ast, j_lst, j_inc, j_add, j_sub, j_mul, j_neg, j_div, j_rem, j_and, j_shr, j_shl1, j_or, j_ladd, j_lsub, j_lmul, j_i2l, j_lcmp, j_i2c, j_dup, j_dup2, j_pop, j_goto, j_ieq, j_ine, j_ilt, j_ige, j_igt, j_ile, j_eq, j_ne, j_lt, j_ge, j_gt, j_le, xsw, j_tsw, j_gI, j_gJ, j_gR, j_pI, j_pJ, j_gs, j_iald, j_iast, j_cald, j_cast, j_aald, j_cpy, j_min, j_max, j_abs, j_iret, j_zret, j_lret, j_dret, j_ret0, j_V0, j_V1, j_V2, j_V3, j_V4, j_V5, j_S1, j_S2, j_S3, xget, xset, xset2, xclr, xc1, xcat, Nat.reduceAdd, Nat.reduceEqDiff, Nat.reduceLT, Nat.reduceLeDiff, Nat.reduceMul, List.cons_append, List.nil_append, true_and, and_true, List.singleton_append, j_lsw2, j_Sn, j_ush, j_dupx2, List.take_succ_cons, List.take_zero, List.drop_succ_cons, List.drop_zero, List.reverse_cons, List.reverse_nil, Nat.le_refl, fL_units_66, fL_units_68, fL_units_70, fL_units_71, fL_units_72, fL_units_73, fL_units_74, fL_units_75, fL_units_76, fL_units_79, fL_units_80, fL_units_82, fL_units_84, fL_units_85, fL_units_86, fL_units_87, fL_units_88, fL_units_89, fL_units_90, fL_units_92, fL_units_95, fL_units_96, fL_units_97, fL_units_99, fL_units_101, fL_units_102, fL_units_103, fL_units_104, fL_units_106, fL_units_107, fL_units_109, fL_units_111, fL_units_112, fL_units_113, fL_units_114, fL_units_115, fL_units_116, fL_units_119, fL_units_120, fL_units_122, fL_units_124, fL_units_125, fL_units_126, fL_units_127, fL_units_128, fL_units_129, fL_units_130, fL_units_131, fL_units_132, fL_units_134, fL_units_135, fL_units_137, fL_units_140, fL_units_141, fL_units_142, fL_units_144, fL_units_146, fL_units_147, fL_units_148, fL_units_150, fL_units_151, fL_units_153, fL_units_154, fL_units_156, fL_units_159, fL_units_160, fL_units_161, fL_units_163, fL_units_165, fL_units_167, fL_units_168, fL_units_169, fL_units_170, fL_units_171, fL_units_173, fL_units_175, fL_units_176, fL_units_177, fL_units_178, fL_units_180, fL_units_182, fL_units_183, fL_units_184, fL_units_185, fL_units_187, fL_units_189, fL_units_190, fL_units_191, fL_units_192, fL_units_194, fL_units_196, fL_units_197, fL_units_198, fL_units_199, fL_units_200, fL_units_201, fL_units_202, fL_units_203, fL_units_205, fL_units_207, fL_units_208, fL_units_209, fL_units_210, sL_at, xvz_20, xvz_21, xvz_22, xvz_23, xvz_24, xvz_25, xvz_26, xvz_27, xvz_28, xvz_29, xrz_20, xrz_21, xrz_22, xrz_23, xrz_24, xrz_25, xrz_26, xrz_27, xrz_28, xrz_29, xdz_20, xdz_21, xdz_22, xdz_23, xdz_24, xdz_25, xdz_26, xdz_27, xdz_28, xdz_29, xlen, xcat, xc1, Nat.zero_le, Nat.reduceLeDiff, List.length_cons, List.length_nil, xvz_0, xup_app, q, n0, n4, p3, p8, p13, p17, hp, hn, hg, hc, hv, ry, k0, k1, k2, k3, j1, j2, j3, j4, j5, j8, Nat.reduceEqDiff]
  obtain ⟨M3, hM3⟩ : ∃ M3 : XM, M3 = xup (xup (xup (xup (xup (xup M1 28 0 0 (12 * m + 1) p) 28 0 0 (12 * m + 2) n) 28 0 0 (12 * m + 3) g) 28 0 0 (12 * m + 4) c) 28 0 0 (12 * m + 5) v) 28 0 0 (12 * m + 8) (-1) := ⟨_, rfl⟩
  rw [← hM3]
  have v1 : ∀ t : Nat, ¬ t = 28 → M3 t = M1 t := fun t ht => by rw [hM3, xup_tag ht, xup_tag ht, xup_tag ht, xup_tag ht, xup_tag ht, xup_tag ht]
  have E3 : EQ M3 M := fun t ht => by rw [v1 t (by omega)]; exact E1 t ht
  have K3 := KI_EQ hK E3
  have f3 : M3 1 0 0 3 = M 20 0 0 0 := by rw [E3 1 (by decide)]; exact c6.1
  have f10 : M3 1 0 0 10 = m := by rw [E3 1 (by decide), c6.2.2.2.1]; exact e3
  have f0 : M3 1 0 0 0 + (c - M 20 0 0 4) = c := by rw [E3 1 (by decide), c6.2.2.2.2]; omega
  refine uv_addUnit K3 (by rw [f3]; exact tp) (by omega) ⟨by omega, by omega⟩ ⟨tg.1, by omega⟩ ⟨by omega, by omega⟩ ⟨by omega, by omega⟩ (by omega) ?_
  rw [f10, f0]
  obtain ⟨M2, hM2⟩ : ∃ M2 : XM, M2 = fNewU (fKeep M3) 0 p n g c v := ⟨_, rfl⟩
  rw [← hM2]
  have kf10 : fKeep M3 1 0 0 10 = m := by rw [fKeep_0' K3 _ _ (by decide)]; exact f10
  have fo : ∀ t : Nat, ¬ t = 14 → ¬ t = 1 → M2 t = fKeep M3 t := fun t a b => by rw [hM2, fNewU_o a b]
  have fh : ∀ t : Nat, 20 ≤ t → M2 t = M3 t := fun t ht => by rw [fo t (by omega) (by omega), fKeep_hi ht]
  have z0 := (hR.2.2.2.2.1 m m5.1 m5.2).2 (by omega)
  unfold rU0 at z0
  have m28 : ∀ i : Int, M2 28 0 0 i = if i = 12 * m + 8 then -1 else if i = 12 * m + 5 then v else if i = 12 * m + 4 then c else if i = 12 * m + 3 then g else if i = 12 * m + 2 then n else if i = 12 * m + 1 then p else if 12 * m ≤ i ∧ i < 12 * m + 12 then 0 else M 28 0 0 i := fun i => by
    rw [fh 28 (by decide), hM3, xup_row, xup_row, xup_row, xup_row, xup_row, xup_row]
    simp only [sup_at]
    rw [u2, e28]
  have hq2 := h M2 (Full_R ⟨hK, hX, F, T, hR⟩ ha (KI_op K3 (fo 15 (by decide) (by decide)) (by rw [hM2, fNewU_1 kf10, if_neg (by omega)]) (fun c' b hI => by
      rw [hM2]
      refine fI_newU hI (by rw [kf10]; omega) ⟨tp.1, by omega⟩ (by omega) ⟨tg.1, by omega⟩ ⟨by omega, by have := hX.1; omega⟩ ⟨by omega, by omega⟩)) (by rw [fh 20 (by decide), v1 20 (by decide), n4]) (by rw [fh 20 (by decide), v1 20 (by decide), q20, if_neg (by decide)]) (rY_new (u := -1) (dn := 0) (dg := 0) (p := p) (n := n) (g := g) (c := c) (v := v) (RY_a hR (by omega) ha) (by omega) tp ⟨by omega, by omega⟩ ⟨tg.1, by omega⟩ ⟨by omega, by omega⟩ ⟨by omega, by omega⟩ (Or.inl ⟨rfl, rfl, by omega⟩) (fun t j s ht h15 h14 => by
      by_cases t1 : t = 1
      · subst t1
        rw [hM2, fNewU_1 kf10, e3]
        by_cases c9 : j = 0 ∧ s = 10
        · rw [if_pos c9, if_pos ⟨rfl, c9⟩]
        · rw [if_neg c9, if_neg (fun z => c9 z.2), fKeep_0' K3 _ _ (by decide), E3 1 (by decide)]
      · rw [fo t h14 t1, if_neg (fun z => t1 z.1), fKeep_0' K3 j s h15, E3 t ht]) (by rw [fo 15 (by decide) (by decide), fKeep_15 (by rw [E3 15 (by decide)]; exact c8.2), c8.2]) (fun t ht n20 n28 => by rw [fh t ht, v1 t n28, u1 t n28, hM0, xup_tag n20]) (fun s => by rw [fh 20 (by decide), v1 20 (by decide), q20, e3]) (fun w s s0 s1 => by
      rw [hM2, fNewU_at kf10, fKeep_0' K3 _ _ (by decide), E3 14 (by decide), e3]
      by_cases e : w = m
      · rw [if_pos e, e]
        by_cases c9 : 1 ≤ s ∧ s ≤ 5
        · rw [if_pos ⟨rfl, c9⟩]
        · rw [if_neg (fun z => c9 z.2)]
          rcases (show s = 0 ∨ s = 6 ∨ s = 7 ∨ s = 8 ∨ s = 9 ∨ s = 10 ∨ s = 11 by omega) with rfl | rfl | rfl | rfl | rfl | rfl | rfl <;> simp only [nv, Int.reduceEq, if_true, if_false] <;> omega
      · rw [if_neg (fun z => e z.1), if_neg e]
        by_cases c2 : w = -1 ∧ s = 2
        · rw [if_pos c2, c2.1, c2.2]; omega
        · rw [if_neg c2]
          by_cases c3 : w = -1 ∧ s = 3
          · rw [if_pos c3, c3.1, c3.2]; omega
          · rw [if_neg c3]) (fun w s s0 s1 => by
      rw [show xU M2 w s = M2 28 0 0 (12 * w + s) from rfl, m28, e3]
      by_cases e : w = m
      · subst e
        rw [if_pos rfl]
        rcases (show s = 0 ∨ s = 1 ∨ s = 2 ∨ s = 3 ∨ s = 4 ∨ s = 5 ∨ s = 6 ∨ s = 7 ∨ s = 8 ∨ s = 9 ∨ s = 10 ∨ s = 11 by omega) with rfl | rfl | rfl | rfl | rfl | rfl | rfl | rfl | rfl | rfl | rfl | rfl <;> simp only [nv, q, Int.reduceEq, if_true, if_false] <;> rw [if_pos (by omega)]
      · rw [if_neg (by omega), if_neg (by omega), if_neg (by omega), if_neg (by omega), if_neg (by omega), if_neg (by omega), if_neg (by omega), if_neg e]
        by_cases c2 : w = -1 ∧ s = 2
        · rw [if_pos c2, c2.1, c2.2]; unfold xU; omega
        · rw [if_neg c2]
          by_cases c3 : w = -1 ∧ s = 3
          · rw [if_pos c3, c3.1, c3.2]; unfold xU; omega
          · rw [if_neg c3]
            rfl)))
  have d12 : 12 * m / 12 = m := by omega
  have d0 : 0 ≤ 12 * m := by omega
  have d9 : 12 * m ≤ 2147483647 := by omega
  refine yru_ok hC [225, 221] 6 _ _ _ _ ?_
  simp only [ykk_ap, Int.reduceEq, Int.reduceLT, Int.reduceLE, Int.reduceNeg, Int.reduceAdd, Int.reduceSub, Int.reduceMul, and_self, false_and, and_false, not_true_eq_false, not_false_eq_true, true_implies, false_implies, xq0, xq1, xq2, xq3, xq4, xq5, xqR, xq1R, xq3R, xt1, xt2, xt3, List.mem_cons, List.not_mem_nil, or_false, false_or, or_self, if_false, if_true, reduceIte, reduceCtorEq, xent, xen, List.length_cons, List.length_nil, List.replicate, j_c, j_cJ, j_ild, j_ald, j_lld, j_ist, j_ast, j_lst, j_inc, j_add, j_sub, j_mul, j_neg, j_div, j_rem, j_and, j_shr, j_shl1, j_or, j_ladd, j_lsub, j_lmul, j_i2l, j_lcmp, j_i2c, j_dup, j_dup2, j_pop, j_goto, j_ieq, j_ine, j_ilt, j_ige, j_igt, j_ile, j_eq, j_ne, j_lt, j_ge, j_gt, j_le, xsw, j_tsw, j_gI, j_gJ, j_gR, j_pI, j_pJ, j_gs, j_iald, j_iast, j_cald, j_cast, j_aald, j_cpy, j_min, j_max, j_abs, j_iret, j_zret, j_lret, j_dret, j_ret0, j_V0, j_V1, j_V2, j_V3, j_V4, j_V5, j_S1, j_S2, j_S3, xget, xset, xset2, xclr, xc1, xcat, Nat.reduceAdd, Nat.reduceEqDiff, Nat.reduceLT, Nat.reduceLeDiff, Nat.reduceMul, List.cons_append, List.nil_append, true_and, and_true, List.singleton_append, j_lsw2, j_Sn, j_ush, j_dupx2, List.take_succ_cons, List.take_zero, List.drop_succ_cons, List.drop_zero, List.reverse_cons, List.reverse_nil, Nat.le_refl, fL_units_213, fL_units_215, fL_units_217, fL_units_218, xvz_20, xvz_21, xvz_22, xvz_23, xvz_24, xvz_25, xvz_26, xvz_27, xvz_28, xvz_29, xrz_20, xrz_21, xrz_22, xrz_23, xrz_24, xrz_25, xrz_26, xrz_27, xrz_28, xrz_29, xdz_20, xdz_21, xdz_22, xdz_23, xdz_24, xdz_25, xdz_26, xdz_27, xdz_28, xdz_29, xlen, xcat, xc1, Nat.zero_le, Nat.reduceLeDiff, List.length_cons, List.length_nil, xvz_0, d12, d0, d9, rm, true_or, or_true, xr_c (n := 0) rfl, xr_c (n := 1) rfl, xr_c (n := 12) rfl]
  refine yru_ok hC [226] 4 _ _ _ _ ?_
  simp only [ykk_ap, Int.reduceEq, Int.reduceLT, Int.reduceLE, Int.reduceNeg, Int.reduceAdd, Int.reduceSub, Int.reduceMul, and_self, false_and, and_false, not_true_eq_false, not_false_eq_true, true_implies, false_implies, xq0, xq1, xq2, xq3, xq4, xq5, xqR, xq1R, xq3R, xt1, xt2, xt3, List.mem_cons, List.not_mem_nil, or_false, false_or, or_self, if_false, if_true, reduceIte, reduceCtorEq, xent, xen, List.length_cons, List.length_nil, List.replicate, j_c, j_cJ, j_ild, j_ald, j_lld, j_ist, j_ast, j_lst, j_inc, j_add, j_sub, j_mul, j_neg, j_div, j_rem, j_and, j_shr, j_shl1, j_or, j_ladd, j_lsub, j_lmul, j_i2l, j_lcmp, j_i2c, j_dup, j_dup2, j_pop, j_goto, j_ieq, j_ine, j_ilt, j_ige, j_igt, j_ile, j_eq, j_ne, j_lt, j_ge, j_gt, j_le, xsw, j_tsw, j_gI, j_gJ, j_gR, j_pI, j_pJ, j_gs, j_iald, j_iast, j_cald, j_cast, j_aald, j_cpy, j_min, j_max, j_abs, j_iret, j_zret, j_lret, j_dret, j_ret0, j_V0, j_V1, j_V2, j_V3, j_V4, j_V5, j_S1, j_S2, j_S3, xget, xset, xset2, xclr, xc1, xcat, Nat.reduceAdd, Nat.reduceEqDiff, Nat.reduceLT, Nat.reduceLeDiff, Nat.reduceMul, List.cons_append, List.nil_append, true_and, and_true, List.singleton_append, j_lsw2, j_Sn, j_ush, j_dupx2, List.take_succ_cons, List.take_zero, List.drop_succ_cons, List.drop_zero, List.reverse_cons, List.reverse_nil, Nat.le_refl, fL_units_221, fL_units_222, xvz_20, xvz_21, xvz_22, xvz_23, xvz_24, xvz_25, xvz_26, xvz_27, xvz_28, xvz_29, xrz_20, xrz_21, xrz_22, xrz_23, xrz_24, xrz_25, xrz_26, xrz_27, xrz_28, xrz_29, xdz_20, xdz_21, xdz_22, xdz_23, xdz_24, xdz_25, xdz_26, xdz_27, xdz_28, xdz_29, xlen, xcat, xc1, Nat.zero_le, Nat.reduceLeDiff, List.length_cons, List.length_nil, xvz_0, d12, d0, d9, rm, true_or, or_true, xr_c (n := 0) rfl, xr_c (n := 1) rfl, xr_c (n := 12) rfl]
  refine yru_ok hC [] 3 _ _ _ _ ?_
  simp only [ykk_ap, Int.reduceEq, Int.reduceLT, Int.reduceLE, Int.reduceNeg, Int.reduceAdd, Int.reduceSub, Int.reduceMul, and_self, false_and, and_false, not_true_eq_false, not_false_eq_true, true_implies, false_implies, xq0, xq1, xq2, xq3, xq4, xq5, xqR, xq1R, xq3R, xt1, xt2, xt3, List.mem_cons, List.not_mem_nil, or_false, false_or, or_self, if_false, if_true, reduceIte, reduceCtorEq, xent, xen, List.length_cons, List.length_nil, List.replicate, j_c, j_cJ, j_ild, j_ald, j_lld, j_ist, j_ast, j_lst, j_inc, j_add, j_sub, j_mul, j_neg, j_div, j_rem, j_and, j_shr, j_shl1, j_or, j_ladd, j_lsub, j_lmul, j_i2l, j_lcmp, j_i2c, j_dup, j_dup2, j_pop, j_goto, j_ieq, j_ine, j_ilt, j_ige, j_igt, j_ile, j_eq, j_ne, j_lt, j_ge, j_gt, j_le, xsw, j_tsw, j_gI, j_gJ, j_gR, j_pI, j_pJ, j_gs, j_iald, j_iast, j_cald, j_cast, j_aald, j_cpy, j_min, j_max, j_abs, j_iret, j_zret, j_lret, j_dret, j_ret0, j_V0, j_V1, j_V2, j_V3, j_V4, j_V5, j_S1, j_S2, j_S3, xget, xset, xset2, xclr, xc1, xcat, Nat.reduceAdd, Nat.reduceEqDiff, Nat.reduceLT, Nat.reduceLeDiff, Nat.reduceMul, List.cons_append, List.nil_append, true_and, and_true, List.singleton_append, j_lsw2, j_Sn, j_ush, j_dupx2, List.take_succ_cons, List.take_zero, List.drop_succ_cons, List.drop_zero, List.reverse_cons, List.reverse_nil, Nat.le_refl, fL_units_226, xvz_20, xvz_21, xvz_22, xvz_23, xvz_24, xvz_25, xvz_26, xvz_27, xvz_28, xvz_29, xrz_20, xrz_21, xrz_22, xrz_23, xrz_24, xrz_25, xrz_26, xrz_27, xrz_28, xrz_29, xdz_20, xdz_21, xdz_22, xdz_23, xdz_24, xdz_25, xdz_26, xdz_27, xdz_28, xdz_29, xlen, xcat, xc1, Nat.zero_le, Nat.reduceLeDiff, List.length_cons, List.length_nil, xvz_0, d12, d0, d9, rm, true_or, or_true, xr_c (n := 0) rfl, xr_c (n := 1) rfl, xr_c (n := 12) rfl]
  exact hq2
set_option maxRecDepth 100000 in
theorem kL_umove {Post : XPo} {WW : XK} (hC : XCl (xlk (pL_units Post)) WW) {a x y act u v : Int} {M : XM} (ry : XInR y) (ha : a + 1 ≤ 45) (hF : Full a M) (hu : 0 ≤ u ∧ u < M 20 0 0 3) (hv : 0 ≤ v ∧ v < M 20 0 0 3) (hz : xU M u 0 = 0) (h : ∀ M' : XM, Full (a + 1) M' → Post [xI 1] M') : WW 269 [some (xR 0 0 0), some (xI x), some (xI y), some (xR 20 0 0), some (xR 28 0 0), some (xI act), some (xI (12 * u)), some (xI (12 * v)), none, none, none, none] [] M := by
  obtain ⟨hK, hX, F, T, hR⟩ := hF
  have c8 := hR.1.2.2.2.2.2.2.2
  have c7 := hR.1.2.2.2.2.2.2.1
  have c6 := hR.1.2.2.2.2.2.1
  have c5' := hR.1.2.2.2.2.1
  have c3 := hR.1.2.2.1
  have u5 : u < 5 := by omega
  have v5 : v < 5 := by omega
  obtain ⟨⟨a0, a9, a10, a11⟩, b, cc, dd, e', f⟩ := (hR.2.2.2.2.1 u hu.1 u5).1 hu.2
  obtain ⟨f1, f2, f3, f4, f5, f6, f7, f8, f9⟩ := e' hz
  have q : ∀ s s' : Int, (12 * u + s = 12 * u + s') = (s = s') := fun s s' => by simp only [eq_iff_iff]; omega
  have zz : ∀ s : Int, M 28 0 0 (12 * u + s) = xU M u s := fun s => rfl
  have jj : ∀ s : Int, 0 ≤ s → s < 12 → (0 ≤ 12 * u + s ∧ 12 * u + s < 60) := fun s s0 s1 => by omega
  have d12 : 12 * u / 12 = u := by omega
  have d0 : 0 ≤ 12 * u := by omega
  have d9 : 12 * u ≤ 2147483647 := by omega
  have d60 : 12 * u < 60 := by omega
  obtain ⟨p, hp⟩ : ∃ p : Int, aT (y / 64) (M 20 0 0 0) = p := ⟨_, rfl⟩
  have tp := aT_in (x := y / 64) (n := M 20 0 0 0) (by omega)
  rw [hp] at tp
  have p6 : y / 2 ^ (6 : Int).toNat = y / 64 := rfl
  have k0 : 0 < M 20 0 0 0 := by omega
  have k1 : M 20 0 0 0 ≤ 1000000 := by omega
  have j1 := jj 1 (by decide) (by decide)
  have rw1 : XInR (xU M u 1) := ⟨by omega, by omega⟩
  refine yru_ok hC [311] 30 _ _ _ _ ?_
  simp only [ykk_ap, Int.reduceEq, Int.reduceLT, Int.reduceLE, Int.reduceNeg, Int.reduceAdd, Int.reduceSub, Int.reduceMul, and_self, false_and, and_false, not_true_eq_false, not_false_eq_true, true_implies, false_implies, xq0, xq1, xq2, xq3, xq4, xq5, xqR, xq1R, xq3R, xt1, xt2, xt3, List.mem_cons, List.not_mem_nil, or_false, false_or, or_self, if_false, if_true, reduceIte, reduceCtorEq, xent, xen, List.length_cons, List.length_nil, List.replicate, j_c, j_cJ, j_ild, j_ald, j_lld, j_ist, j_ast, j_lst, j_inc, j_add, j_sub, j_mul, j_neg, j_div, j_rem, j_and, j_shr, j_shl1, j_or, j_ladd, j_lsub, j_lmul, j_i2l, j_lcmp, j_i2c, j_dup, j_dup2, j_pop, j_goto, j_ieq, j_ine, j_ilt, j_ige, j_igt, j_ile, j_eq, j_ne, j_lt, j_ge, j_gt, j_le, xsw, j_tsw, j_gI, j_gJ, j_gR, j_pI, j_pJ, j_gs, j_iald, j_iast, j_cald, j_cast, j_aald, j_cpy, j_min, j_max, j_abs, j_iret, j_zret, j_lret, j_dret, j_ret0, j_V0, j_V1, j_V2, j_V3, j_V4, j_V5, j_S1, j_S2, j_S3, xget, xset, xset2, xclr, xc1, xcat, Nat.reduceAdd, Nat.reduceEqDiff, Nat.reduceLT, Nat.reduceLeDiff, Nat.reduceMul, List.cons_append, List.nil_append, true_and, and_true, List.singleton_append, j_lsw2, j_Sn, j_ush, j_dupx2, List.take_succ_cons, List.take_zero, List.drop_succ_cons, List.drop_zero, List.reverse_cons, List.reverse_nil, Nat.le_refl, fL_units_269, fL_units_271, fL_units_273, fL_units_274, fL_units_275, fL_units_276, fL_units_278, fL_units_280, fL_units_282, fL_units_283, fL_units_284, fL_units_285, fL_units_287, fL_units_288, fL_units_289, fL_units_290, fL_units_291, fL_units_294, fL_units_295, fL_units_296, fL_units_298, fL_units_300, fL_units_301, fL_units_303, fL_units_305, fL_units_306, fL_units_307, fL_units_308, sL_at, xvz_20, xvz_21, xvz_22, xvz_23, xvz_24, xvz_25, xvz_26, xvz_27, xvz_28, xvz_29, xrz_20, xrz_21, xrz_22, xrz_23, xrz_24, xrz_25, xrz_26, xrz_27, xrz_28, xrz_29, xdz_20, xdz_21, xdz_22, xdz_23, xdz_24, xdz_25, xdz_26, xdz_27, xdz_28, xdz_29, xlen, xcat, xc1, Nat.zero_le, Nat.reduceLeDiff, List.length_cons, List.length_nil, xvz_0, xup_app, zz, p6, hp, ry, k0, k1, j1, d12, d0, d9, Nat.reduceEqDiff]
  obtain ⟨M1, hM1⟩ : ∃ M1 : XM, M1 = xup M 28 0 0 (12 * u + 1) p := ⟨_, rfl⟩
  rw [← hM1]
  have E1 : EQ M1 M := fun t ht => by rw [hM1, xup_tag (by omega)]
  have K1 := KI_EQ hK E1
  have g1 : M1 14 0 u 1 = xU M u 1 := by rw [E1 14 (by decide)]; exact f1 1 (by decide) (by decide)
  refine uv_move K1 ⟨hu.1, by rw [E1 1 (by decide), c6.2.2.2.1]; exact hu.2⟩ (by omega) ⟨tp.1, by rw [E1 1 (by decide), c6.1]; exact tp.2⟩ (by omega) (by rw [E1 14 (by decide), a0]; exact hz) ?_
  rw [g1]
  obtain ⟨M2, hM2⟩ : ∃ M2 : XM, M2 = xup (fKeep M1) 14 0 u 1 p := ⟨_, rfl⟩
  rw [← hM2]
  have fo : ∀ t : Nat, ¬ t = 14 → M2 t = fKeep M1 t := fun t z => by rw [hM2, xup_tag z]
  have fh : ∀ t : Nat, 20 ≤ t → M2 t = M1 t := fun t ht => by rw [fo t (by omega), fKeep_hi ht]
  have hq2 := h M2 (Full_R ⟨hK, hX, F, T, hR⟩ ha (KI_op K1 (fo 15 (by decide)) (by rw [fo 1 (by decide)]) (fun c b hI => by rw [hM2]; exact fI_move hI hu.1 (by omega) ⟨tp.1, by omega⟩)) (by rw [fh 20 (by decide), hM1, xup_tag (by decide)]) (by rw [fh 20 (by decide), hM1, xup_tag (by decide)]) (rY_move (u := u) (p := p) (RY_a hR (by omega) ha) tp hu (fun t j s ht h15 h14 => by rw [fo t h14, fKeep_0' K1 j s h15, E1 t ht]) (by rw [fo 15 (by decide), fKeep_15 (by rw [E1 15 (by decide)]; exact c8.2), c8.2]) (fun t ht n28 => by rw [fh t ht, hM1, xup_tag n28]) (fun w s => by
    rw [hM2]
    simp only [xup_app, true_and]
    rw [fKeep_0' K1 _ _ (by decide), E1 14 (by decide)]) (fun w s s0 s1 => by
    rw [show xU M2 w s = M2 28 0 0 (12 * w + s) from rfl, fh 28 (by decide), hM1, xup_row]
    simp only [sup_at]
    by_cases e : w = u ∧ s = 1
    · rw [if_pos e, if_pos (by rw [e.1, e.2])]
    · rw [if_neg e, if_neg (by omega)]
      rfl)))
  refine yru_ok hC [320, 316] 4 _ _ _ _ ?_
  simp only [ykk_ap, Int.reduceEq, Int.reduceLT, Int.reduceLE, Int.reduceNeg, Int.reduceAdd, Int.reduceSub, Int.reduceMul, and_self, false_and, and_false, not_true_eq_false, not_false_eq_true, true_implies, false_implies, xq0, xq1, xq2, xq3, xq4, xq5, xqR, xq1R, xq3R, xt1, xt2, xt3, List.mem_cons, List.not_mem_nil, or_false, false_or, or_self, if_false, if_true, reduceIte, reduceCtorEq, xent, xen, List.length_cons, List.length_nil, List.replicate, j_c, j_cJ, j_ild, j_ald, j_lld, j_ist, j_ast, j_lst, j_inc, j_add, j_sub, j_mul, j_neg, j_div, j_rem, j_and, j_shr, j_shl1, j_or, j_ladd, j_lsub, j_lmul, j_i2l, j_lcmp, j_i2c, j_dup, j_dup2, j_pop, j_goto, j_ieq, j_ine, j_ilt, j_ige, j_igt, j_ile, j_eq, j_ne, j_lt, j_ge, j_gt, j_le, xsw, j_tsw, j_gI, j_gJ, j_gR, j_pI, j_pJ, j_gs, j_iald, j_iast, j_cald, j_cast, j_aald, j_cpy, j_min, j_max, j_abs, j_iret, j_zret, j_lret, j_dret, j_ret0, j_V0, j_V1, j_V2, j_V3, j_V4, j_V5, j_S1, j_S2, j_S3, xget, xset, xset2, xclr, xc1, xcat, Nat.reduceAdd, Nat.reduceEqDiff, Nat.reduceLT, Nat.reduceLeDiff, Nat.reduceMul, List.cons_append, List.nil_append, true_and, and_true, List.singleton_append, j_lsw2, j_Sn, j_ush, j_dupx2, List.take_succ_cons, List.take_zero, List.drop_succ_cons, List.drop_zero, List.reverse_cons, List.reverse_nil, Nat.le_refl, fL_units_311, fL_units_313, xvz_20, xvz_21, xvz_22, xvz_23, xvz_24, xvz_25, xvz_26, xvz_27, xvz_28, xvz_29, xrz_20, xrz_21, xrz_22, xrz_23, xrz_24, xrz_25, xrz_26, xrz_27, xrz_28, xrz_29, xdz_20, xdz_21, xdz_22, xdz_23, xdz_24, xdz_25, xdz_26, xdz_27, xdz_28, xdz_29, xlen, xcat, xc1, Nat.zero_le, Nat.reduceLeDiff, List.length_cons, List.length_nil, xvz_0, rw1, true_or, or_true, xr_c (n := 0) rfl, xr_c (n := 1) rfl]
  refine yru_ok hC [321] 4 _ _ _ _ ?_
  simp only [ykk_ap, Int.reduceEq, Int.reduceLT, Int.reduceLE, Int.reduceNeg, Int.reduceAdd, Int.reduceSub, Int.reduceMul, and_self, false_and, and_false, not_true_eq_false, not_false_eq_true, true_implies, false_implies, xq0, xq1, xq2, xq3, xq4, xq5, xqR, xq1R, xq3R, xt1, xt2, xt3, List.mem_cons, List.not_mem_nil, or_false, false_or, or_self, if_false, if_true, reduceIte, reduceCtorEq, xent, xen, List.length_cons, List.length_nil, List.replicate, j_c, j_cJ, j_ild, j_ald, j_lld, j_ist, j_ast, j_lst, j_inc, j_add, j_sub, j_mul, j_neg, j_div, j_rem, j_and, j_shr, j_shl1, j_or, j_ladd, j_lsub, j_lmul, j_i2l, j_lcmp, j_i2c, j_dup, j_dup2, j_pop, j_goto, j_ieq, j_ine, j_ilt, j_ige, j_igt, j_ile, j_eq, j_ne, j_lt, j_ge, j_gt, j_le, xsw, j_tsw, j_gI, j_gJ, j_gR, j_pI, j_pJ, j_gs, j_iald, j_iast, j_cald, j_cast, j_aald, j_cpy, j_min, j_max, j_abs, j_iret, j_zret, j_lret, j_dret, j_ret0, j_V0, j_V1, j_V2, j_V3, j_V4, j_V5, j_S1, j_S2, j_S3, xget, xset, xset2, xclr, xc1, xcat, Nat.reduceAdd, Nat.reduceEqDiff, Nat.reduceLT, Nat.reduceLeDiff, Nat.reduceMul, List.cons_append, List.nil_append, true_and, and_true, List.singleton_append, j_lsw2, j_Sn, j_ush, j_dupx2, List.take_succ_cons, List.take_zero, List.drop_succ_cons, List.drop_zero, List.reverse_cons, List.reverse_nil, Nat.le_refl, fL_units_316, fL_units_317, xvz_20, xvz_21, xvz_22, xvz_23, xvz_24, xvz_25, xvz_26, xvz_27, xvz_28, xvz_29, xrz_20, xrz_21, xrz_22, xrz_23, xrz_24, xrz_25, xrz_26, xrz_27, xrz_28, xrz_29, xdz_20, xdz_21, xdz_22, xdz_23, xdz_24, xdz_25, xdz_26, xdz_27, xdz_28, xdz_29, xlen, xcat, xc1, Nat.zero_le, Nat.reduceLeDiff, List.length_cons, List.length_nil, xvz_0, rw1, true_or, or_true, xr_c (n := 0) rfl, xr_c (n := 1) rfl]
  refine yru_ok hC [] 3 _ _ _ _ ?_
  simp only [ykk_ap, Int.reduceEq, Int.reduceLT, Int.reduceLE, Int.reduceNeg, Int.reduceAdd, Int.reduceSub, Int.reduceMul, and_self, false_and, and_false, not_true_eq_false, not_false_eq_true, true_implies, false_implies, xq0, xq1, xq2, xq3, xq4, xq5, xqR, xq1R, xq3R, xt1, xt2, xt3, List.mem_cons, List.not_mem_nil, or_false, false_or, or_self, if_false, if_true, reduceIte, reduceCtorEq, xent, xen, List.length_cons, List.length_nil, List.replicate, j_c, j_cJ, j_ild, j_ald, j_lld, j_ist, j_ast, j_lst, j_inc, j_add, j_sub, j_mul, j_neg, j_div, j_rem, j_and, j_shr, j_shl1, j_or, j_ladd, j_lsub, j_lmul, j_i2l, j_lcmp, j_i2c, j_dup, j_dup2, j_pop, j_goto, j_ieq, j_ine, j_ilt, j_ige, j_igt, j_ile, j_eq, j_ne, j_lt, j_ge, j_gt, j_le, xsw, j_tsw, j_gI, j_gJ, j_gR, j_pI, j_pJ, j_gs, j_iald, j_iast, j_cald, j_cast, j_aald, j_cpy, j_min, j_max, j_abs, j_iret, j_zret, j_lret, j_dret, j_ret0, j_V0, j_V1, j_V2, j_V3, j_V4, j_V5, j_S1, j_S2, j_S3, xget, xset, xset2, xclr, xc1, xcat, Nat.reduceAdd, Nat.reduceEqDiff, Nat.reduceLT, Nat.reduceLeDiff, Nat.reduceMul, List.cons_append, List.nil_append, true_and, and_true, List.singleton_append, j_lsw2, j_Sn, j_ush, j_dupx2, List.take_succ_cons, List.take_zero, List.drop_succ_cons, List.drop_zero, List.reverse_cons, List.reverse_nil, Nat.le_refl, fL_units_321, xvz_20, xvz_21, xvz_22, xvz_23, xvz_24, xvz_25, xvz_26, xvz_27, xvz_28, xvz_29, xrz_20, xrz_21, xrz_22, xrz_23, xrz_24, xrz_25, xrz_26, xrz_27, xrz_28, xrz_29, xdz_20, xdz_21, xdz_22, xdz_23, xdz_24, xdz_25, xdz_26, xdz_27, xdz_28, xdz_29, xlen, xcat, xc1, Nat.zero_le, Nat.reduceLeDiff, List.length_cons, List.length_nil, xvz_0, rw1, true_or, or_true, xr_c (n := 0) rfl, xr_c (n := 1) rfl]
  exact hq2
set_option maxRecDepth 100000 in
theorem kL_uwrap {Post : XPo} {WW : XK} (hC : XCl (xlk (pL_units Post)) WW) {a x y act u v : Int} {M : XM} (ry : XInR y) (ha : a + 1 ≤ 45) (hF : Full a M) (hu : 0 ≤ u ∧ u < M 20 0 0 3) (hv : 0 ≤ v ∧ v < M 20 0 0 3) (hz : xU M u 0 = 0) (h : ∀ M' : XM, Full (a + 1) M' → Post [xI 1] M') : WW 775 [some (xR 0 0 0), some (xI x), some (xI y), some (xR 20 0 0), some (xR 28 0 0), some (xI act), some (xI (12 * u)), some (xI (12 * v)), none, none, none, none] [] M := by
  obtain ⟨hK, hX, F, T, hR⟩ := hF
  have c8 := hR.1.2.2.2.2.2.2.2
  have c7 := hR.1.2.2.2.2.2.2.1
  have c6 := hR.1.2.2.2.2.2.1
  have c5' := hR.1.2.2.2.2.1
  have c3 := hR.1.2.2.1
  have u5 : u < 5 := by omega
  have v5 : v < 5 := by omega
  obtain ⟨⟨a0, a9, a10, a11⟩, b, cc, dd, e', f⟩ := (hR.2.2.2.2.1 u hu.1 u5).1 hu.2
  obtain ⟨f1, f2, f3, f4, f5, f6, f7, f8, f9⟩ := e' hz
  have q : ∀ s s' : Int, (12 * u + s = 12 * u + s') = (s = s') := fun s s' => by simp only [eq_iff_iff]; omega
  have zz : ∀ s : Int, M 28 0 0 (12 * u + s) = xU M u s := fun s => rfl
  have jj : ∀ s : Int, 0 ≤ s → s < 12 → (0 ≤ 12 * u + s ∧ 12 * u + s < 60) := fun s s0 s1 => by omega
  have d12 : 12 * u / 12 = u := by omega
  have d0 : 0 ≤ 12 * u := by omega
  have d9 : 12 * u ≤ 2147483647 := by omega
  have d60 : 12 * u < 60 := by omega
  have j6 := jj 6 (by decide) (by decide)
  have j7 := jj 7 (by decide) (by decide)
  have j11 := jj 11 (by decide) (by decide)
  have hg := rY_uG hR hu.1 u5
  have h16 := rY_16 hR
  have hpp := rU_p hR.2.2.2.2.1 hu.1 u5
  have w6 := f1 6 (by decide) (by decide)
  have w7 := f1 7 (by decide) (by decide)
  unfold uG at hg
  have ro : XInR (xU M u 6 + xU M u 7) := ⟨by omega, by have := hX.1; omega⟩
  refine yru_ok hC [828] 36 _ _ _ _ ?_
  simp only [ykk_ap, Int.reduceEq, Int.reduceLT, Int.reduceLE, Int.reduceNeg, Int.reduceAdd, Int.reduceSub, Int.reduceMul, and_self, false_and, and_false, not_true_eq_false, not_false_eq_true, true_implies, false_implies, xq0, xq1, xq2, xq3, xq4, xq5, xqR, xq1R, xq3R, xt1, xt2, xt3, List.mem_cons, List.not_mem_nil, or_false, false_or, or_self, if_false, if_true, reduceIte, reduceCtorEq, xent, xen, List.length_cons, List.length_nil, List.replicate, j_c, j_cJ, j_ild, j_ald, j_lld, j_ist, j_ast, j_lst, j_inc, j_add, j_sub, j_mul, j_neg, j_div, j_rem, j_and, j_shr, j_shl1, j_or, j_ladd, j_lsub, j_lmul, j_i2l, j_lcmp, j_i2c, j_dup, j_dup2, j_pop, j_goto, j_ieq, j_ine, j_ilt, j_ige, j_igt, j_ile, j_eq, j_ne, j_lt, j_ge, j_gt, j_le, xsw, j_tsw, j_gI, j_gJ, j_gR, j_pI, j_pJ, j_gs, j_iald, j_iast, j_cald, j_cast, j_aald, j_cpy, j_min, j_max, j_abs, j_iret, j_zret, j_lret, j_dret, j_ret0, j_V0, j_V1, j_V2, j_V3, j_V4, j_V5, j_S1, j_S2, j_S3, xget, xset, xset2, xclr, xc1, xcat, Nat.reduceAdd, Nat.reduceEqDiff, Nat.reduceLT, Nat.reduceLeDiff, Nat.reduceMul, List.cons_append, List.nil_append, true_and, and_true, List.singleton_append, j_lsw2, j_Sn, j_ush, j_dupx2, List.take_succ_cons, List.take_zero, List.drop_succ_cons, List.drop_zero, List.reverse_cons, List.reverse_nil, Nat.le_refl, fL_units_775, fL_units_777, fL_units_779, fL_units_781, fL_units_782, fL_units_783, fL_units_785, fL_units_787, fL_units_789, fL_units_790, fL_units_791, fL_units_792, fL_units_794, fL_units_796, fL_units_798, fL_units_799, fL_units_800, fL_units_802, fL_units_804, fL_units_806, fL_units_807, fL_units_809, fL_units_810, fL_units_811, fL_units_813, fL_units_814, fL_units_815, fL_units_817, fL_units_818, fL_units_819, fL_units_820, fL_units_822, fL_units_824, fL_units_825, xvz_20, xvz_21, xvz_22, xvz_23, xvz_24, xvz_25, xvz_26, xvz_27, xvz_28, xvz_29, xrz_20, xrz_21, xrz_22, xrz_23, xrz_24, xrz_25, xrz_26, xrz_27, xrz_28, xrz_29, xdz_20, xdz_21, xdz_22, xdz_23, xdz_24, xdz_25, xdz_26, xdz_27, xdz_28, xdz_29, xlen, xcat, xc1, Nat.zero_le, Nat.reduceLeDiff, List.length_cons, List.length_nil, xvz_0, xup_app, zz, j6, j7, j11, d12, d0, d9, d60, Nat.reduceEqDiff]
  obtain ⟨M1, hM1⟩ : ∃ M1 : XM, M1 = xup (xup (xup M 28 0 0 (12 * u) 1) 28 0 0 (12 * u + 11) (xU M u 6 + xU M u 7)) 20 0 0 17 (M 20 0 0 17 + (xU M u 6 + xU M u 7)) := ⟨_, rfl⟩
  rw [← hM1]
  have E1 : EQ M1 M := fun t ht => by rw [hM1, xup_tag (by omega), xup_tag (by omega), xup_tag (by omega)]
  have K1 := KI_EQ hK E1
  have g6 : M1 14 0 u 6 = xU M u 6 := by rw [E1 14 (by decide)]; exact w6
  have g7 : M1 14 0 u 7 = xU M u 7 := by rw [E1 14 (by decide)]; exact w7
  refine uv_wrap K1 ⟨hu.1, by rw [E1 1 (by decide), c6.2.2.2.1]; exact hu.2⟩ (by omega) (by rw [E1 14 (by decide), a0]; exact hz) ?_
  rw [g6, g7]
  obtain ⟨M2, hM2⟩ : ∃ M2 : XM, M2 = uLeave (xup (fKeep M1) 14 0 u 11 (xU M u 6 + xU M u 7)) 0 u 1 := ⟨_, rfl⟩
  rw [← hM2]
  have fo : ∀ t : Nat, ¬ t = 14 → M2 t = fKeep M1 t := fun t z => by rw [hM2, uLeave_o z, xup_tag z]
  have fh : ∀ t : Nat, 20 ≤ t → M2 t = M1 t := fun t ht => by rw [fo t (by omega), fKeep_hi ht]
  have k6 : fKeep M1 14 0 u 6 = xU M u 6 := by rw [fKeep_0' K1 _ _ (by decide)]; exact g6
  have k7 : fKeep M1 14 0 u 7 = xU M u 7 := by rw [fKeep_0' K1 _ _ (by decide)]; exact g7
  have k11 : fKeep M1 14 0 u 11 = 0 := by rw [fKeep_0' K1 _ _ (by decide), E1 14 (by decide), a11]; exact f9
  have q20 : ∀ s : Int, M2 20 0 0 s = if s = 17 then M 20 0 0 17 + (xU M u 6 + xU M u 7) else M 20 0 0 s := fun s => by
    rw [fh 20 (by decide), hM1, xup_row, xup_tag (by decide), xup_tag (by decide)]
    rfl
  have hq2 := h M2 (Full_R ⟨hK, hX, F, T, hR⟩ ha (KI_op K1 (fo 15 (by decide)) (by rw [fo 1 (by decide)]) (fun c b hI => by
    have := fI_wrap hI hu.1 (by omega) (st := 1) (by decide) k11
    rw [k6, k7] at this
    rw [hM2]
    exact this)) (by rw [q20, if_neg (by decide)]) (by rw [q20, if_neg (by decide)]) (rY_wrap (u := u) (RY_a hR (by omega) ha) hu hz (fun t j s ht h15 h14 => by rw [fo t h14, fKeep_0' K1 j s h15, E1 t ht]) (by rw [fo 15 (by decide), fKeep_15 (by rw [E1 15 (by decide)]; exact c8.2), c8.2]) (fun t ht n20 n28 => by rw [fh t ht, hM1, xup_tag n20, xup_tag n28, xup_tag n28]) q20 (fun w s => by
    rw [hM2, uLeave_at]
    by_cases e : w = u
    · rw [if_pos e, if_pos e]
      by_cases s0 : s = 0
      · rw [if_pos s0, if_pos s0]
      · rw [if_neg s0, if_neg s0]
        by_cases s11 : s = 11
        · rw [if_neg (by omega), if_neg (by omega), if_pos s11, s11, xup_app, if_pos ⟨rfl, rfl, rfl, rfl⟩]
        · have xs : xup (fKeep M1) 14 0 u 11 (xU M u 6 + xU M u 7) 14 0 u s = M 14 0 u s := by rw [xup_app, if_neg (fun z => s11 z.2.2.2), fKeep_0' K1 _ _ (by decide), E1 14 (by decide)]
          rw [if_neg s11, xs]
    · rw [if_neg e, if_neg e, xup_app, if_neg (fun z => e z.2.2.1), fKeep_0' K1 _ _ (by decide), E1 14 (by decide)]) (fun w s s0 s1 => by
    rw [show xU M2 w s = M2 28 0 0 (12 * w + s) from rfl, fh 28 (by decide), hM1, xup_tag (by decide), xup_row, xup_row]
    simp only [sup_at]
    by_cases e : w = u ∧ s = 0
    · rw [if_pos e, if_neg (by omega), if_pos (by omega)]
    · rw [if_neg e]
      by_cases e2 : w = u ∧ s = 11
      · rw [if_pos e2, if_pos (by omega)]
      · rw [if_neg e2, if_neg (by omega), if_neg (by omega)]
        rfl)))
  refine yru_ok hC [837, 833] 4 _ _ _ _ ?_
  simp only [ykk_ap, Int.reduceEq, Int.reduceLT, Int.reduceLE, Int.reduceNeg, Int.reduceAdd, Int.reduceSub, Int.reduceMul, and_self, false_and, and_false, not_true_eq_false, not_false_eq_true, true_implies, false_implies, xq0, xq1, xq2, xq3, xq4, xq5, xqR, xq1R, xq3R, xt1, xt2, xt3, List.mem_cons, List.not_mem_nil, or_false, false_or, or_self, if_false, if_true, reduceIte, reduceCtorEq, xent, xen, List.length_cons, List.length_nil, List.replicate, j_c, j_cJ, j_ild, j_ald, j_lld, j_ist, j_ast, j_lst, j_inc, j_add, j_sub, j_mul, j_neg, j_div, j_rem, j_and, j_shr, j_shl1, j_or, j_ladd, j_lsub, j_lmul, j_i2l, j_lcmp, j_i2c, j_dup, j_dup2, j_pop, j_goto, j_ieq, j_ine, j_ilt, j_ige, j_igt, j_ile, j_eq, j_ne, j_lt, j_ge, j_gt, j_le, xsw, j_tsw, j_gI, j_gJ, j_gR, j_pI, j_pJ, j_gs, j_iald, j_iast, j_cald, j_cast, j_aald, j_cpy, j_min, j_max, j_abs, j_iret, j_zret, j_lret, j_dret, j_ret0, j_V0, j_V1, j_V2, j_V3, j_V4, j_V5, j_S1, j_S2, j_S3, xget, xset, xset2, xclr, xc1, xcat, Nat.reduceAdd, Nat.reduceEqDiff, Nat.reduceLT, Nat.reduceLeDiff, Nat.reduceMul, List.cons_append, List.nil_append, true_and, and_true, List.singleton_append, j_lsw2, j_Sn, j_ush, j_dupx2, List.take_succ_cons, List.take_zero, List.drop_succ_cons, List.drop_zero, List.reverse_cons, List.reverse_nil, Nat.le_refl, fL_units_828, fL_units_830, xvz_20, xvz_21, xvz_22, xvz_23, xvz_24, xvz_25, xvz_26, xvz_27, xvz_28, xvz_29, xrz_20, xrz_21, xrz_22, xrz_23, xrz_24, xrz_25, xrz_26, xrz_27, xrz_28, xrz_29, xdz_20, xdz_21, xdz_22, xdz_23, xdz_24, xdz_25, xdz_26, xdz_27, xdz_28, xdz_29, xlen, xcat, xc1, Nat.zero_le, Nat.reduceLeDiff, List.length_cons, List.length_nil, xvz_0, ro, true_or, or_true, xr_c (n := 0) rfl, xr_c (n := 1) rfl]
  refine yru_ok hC [838] 4 _ _ _ _ ?_
  simp only [ykk_ap, Int.reduceEq, Int.reduceLT, Int.reduceLE, Int.reduceNeg, Int.reduceAdd, Int.reduceSub, Int.reduceMul, and_self, false_and, and_false, not_true_eq_false, not_false_eq_true, true_implies, false_implies, xq0, xq1, xq2, xq3, xq4, xq5, xqR, xq1R, xq3R, xt1, xt2, xt3, List.mem_cons, List.not_mem_nil, or_false, false_or, or_self, if_false, if_true, reduceIte, reduceCtorEq, xent, xen, List.length_cons, List.length_nil, List.replicate, j_c, j_cJ, j_ild, j_ald, j_lld, j_ist, j_ast, j_lst, j_inc, j_add, j_sub, j_mul, j_neg, j_div, j_rem, j_and, j_shr, j_shl1, j_or, j_ladd, j_lsub, j_lmul, j_i2l, j_lcmp, j_i2c, j_dup, j_dup2, j_pop, j_goto, j_ieq, j_ine, j_ilt, j_ige, j_igt, j_ile, j_eq, j_ne, j_lt, j_ge, j_gt, j_le, xsw, j_tsw, j_gI, j_gJ, j_gR, j_pI, j_pJ, j_gs, j_iald, j_iast, j_cald, j_cast, j_aald, j_cpy, j_min, j_max, j_abs, j_iret, j_zret, j_lret, j_dret, j_ret0, j_V0, j_V1, j_V2, j_V3, j_V4, j_V5, j_S1, j_S2, j_S3, xget, xset, xset2, xclr, xc1, xcat, Nat.reduceAdd, Nat.reduceEqDiff, Nat.reduceLT, Nat.reduceLeDiff, Nat.reduceMul, List.cons_append, List.nil_append, true_and, and_true, List.singleton_append, j_lsw2, j_Sn, j_ush, j_dupx2, List.take_succ_cons, List.take_zero, List.drop_succ_cons, List.drop_zero, List.reverse_cons, List.reverse_nil, Nat.le_refl, fL_units_833, fL_units_834, xvz_20, xvz_21, xvz_22, xvz_23, xvz_24, xvz_25, xvz_26, xvz_27, xvz_28, xvz_29, xrz_20, xrz_21, xrz_22, xrz_23, xrz_24, xrz_25, xrz_26, xrz_27, xrz_28, xrz_29, xdz_20, xdz_21, xdz_22, xdz_23, xdz_24, xdz_25, xdz_26, xdz_27, xdz_28, xdz_29, xlen, xcat, xc1, Nat.zero_le, Nat.reduceLeDiff, List.length_cons, List.length_nil, xvz_0, ro, true_or, or_true, xr_c (n := 0) rfl, xr_c (n := 1) rfl]
  refine yru_ok hC [] 3 _ _ _ _ ?_
  simp only [ykk_ap, Int.reduceEq, Int.reduceLT, Int.reduceLE, Int.reduceNeg, Int.reduceAdd, Int.reduceSub, Int.reduceMul, and_self, false_and, and_false, not_true_eq_false, not_false_eq_true, true_implies, false_implies, xq0, xq1, xq2, xq3, xq4, xq5, xqR, xq1R, xq3R, xt1, xt2, xt3, List.mem_cons, List.not_mem_nil, or_false, false_or, or_self, if_false, if_true, reduceIte, reduceCtorEq, xent, xen, List.length_cons, List.length_nil, List.replicate, j_c, j_cJ, j_ild, j_ald, j_lld, j_ist, j_ast, j_lst, j_inc, j_add, j_sub, j_mul, j_neg, j_div, j_rem, j_and, j_shr, j_shl1, j_or, j_ladd, j_lsub, j_lmul, j_i2l, j_lcmp, j_i2c, j_dup, j_dup2, j_pop, j_goto, j_ieq, j_ine, j_ilt, j_ige, j_igt, j_ile, j_eq, j_ne, j_lt, j_ge, j_gt, j_le, xsw, j_tsw, j_gI, j_gJ, j_gR, j_pI, j_pJ, j_gs, j_iald, j_iast, j_cald, j_cast, j_aald, j_cpy, j_min, j_max, j_abs, j_iret, j_zret, j_lret, j_dret, j_ret0, j_V0, j_V1, j_V2, j_V3, j_V4, j_V5, j_S1, j_S2, j_S3, xget, xset, xset2, xclr, xc1, xcat, Nat.reduceAdd, Nat.reduceEqDiff, Nat.reduceLT, Nat.reduceLeDiff, Nat.reduceMul, List.cons_append, List.nil_append, true_and, and_true, List.singleton_append, j_lsw2, j_Sn, j_ush, j_dupx2, List.take_succ_cons, List.take_zero, List.drop_succ_cons, List.drop_zero, List.reverse_cons, List.reverse_nil, Nat.le_refl, fL_units_838, xvz_20, xvz_21, xvz_22, xvz_23, xvz_24, xvz_25, xvz_26, xvz_27, xvz_28, xvz_29, xrz_20, xrz_21, xrz_22, xrz_23, xrz_24, xrz_25, xrz_26, xrz_27, xrz_28, xrz_29, xdz_20, xdz_21, xdz_22, xdz_23, xdz_24, xdz_25, xdz_26, xdz_27, xdz_28, xdz_29, xlen, xcat, xc1, Nat.zero_le, Nat.reduceLeDiff, List.length_cons, List.length_nil, xvz_0, ro, true_or, or_true, xr_c (n := 0) rfl, xr_c (n := 1) rfl]
  exact hq2
end XUv

