section XLd
/-! slots of one dish, by their minutes -/
theorem cy_mem {d t : Int} : ∀ (n : Nat) (x : Int), x ∈ agL (cyF d) t n ↔ ∃ m : Int, t - n < m ∧ m ≤ t ∧ x = mS d m
  | 0, x => by
    simp only [agL]
    constructor
    · intro h
      exact absurd h List.not_mem_nil
    · rintro ⟨m, a, b, -⟩
      omega
  | n + 1, x => by
    simp only [agL, List.mem_append, cyF, List.mem_cons, List.not_mem_nil, or_false]
    rw [cy_mem n x]
    constructor
    · rintro (e | ⟨m, a, b, e⟩)
      · exact ⟨t - n, by omega, by omega, e⟩
      · exact ⟨m, by omega, b, e⟩
    · rintro ⟨m, a, b, e⟩
      by_cases em : m = t - n
      · left
        rw [e, em]
      · exact Or.inr ⟨m, by omega, b, e⟩
theorem cy_in {d t x : Int} (hd : 0 ≤ d ∧ d < 3) (h : x ∈ agL (cyF d) t 64) : (0 ≤ x ∧ x < 192) ∧ x / 64 = d := by
  obtain ⟨m, -, -, e⟩ := (cy_mem 64 x).mp h
  have := mS_192 (m := m) hd.1 hd.2
  unfold mS at e this
  omega
theorem cy_all {d t x : Int} (hd : 0 ≤ d ∧ d < 3) (h0 : 64 * d ≤ x) (h1 : x < 64 * d + 64) : x ∈ agL (cyF d) t 64 := by
  refine (cy_mem 64 x).mpr ⟨t - (t - x) % 64, by omega, by omega, ?_⟩
  unfold mS
  omega
theorem cy_sorted {d t st : Int} (hd : 0 ≤ d ∧ d < 3) (hs : 0 ≤ st ∧ st < 8) : ∀ n : Nat, n ≤ 64 → (agL (cyF d) t n).Pairwise (fun x y => kx t st x < kx t st y)
  | 0, _ => List.Pairwise.nil
  | n + 1, hn => by
    simp only [agL, cyF, List.singleton_append]
    refine List.Pairwise.cons (fun y hy => ?_) (cy_sorted hd hs n (by omega))
    obtain ⟨m, a, b, e⟩ := (cy_mem n y).mp hy
    rw [e, kx_mS hs hd.1 hd.2 (by omega) (by omega), kx_mS hs hd.1 hd.2 (by omega) (by omega)]
    omega
theorem fMt_one {d st q : Int} (hd : d = 0 ∨ d = 1 ∨ d = 2) : fMt st (2 ^ d.toNat) q ↔ q % 8 = st ∧ q / 8 % 4 = d := by
  unfold fMt bD
  have hq : q / 8 % 4 = 0 ∨ q / 8 % 4 = 1 ∨ q / 8 % 4 = 2 ∨ q / 8 % 4 = 3 := by omega
  rcases hd with rfl | rfl | rfl <;> rcases hq with e | e | e | e <;> rw [e] <;> simp
theorem cy_cov {d t st w : Int} {F : Int → Int} (hd : d = 0 ∨ d = 1 ∨ d = 2) (hs : 0 ≤ st ∧ st < 8) (hw : SRw w t F) (hw63 : w ≤ 63) : ∀ q : Int, fMt st (2 ^ d.toNat) q → ¬ F q = 0 → ∃ x ∈ agL (cyF d) t 64, kx t st x = q := fun q hq hF => by
  obtain ⟨q1, q2⟩ := (fMt_one hd).mp hq
  obtain ⟨-, -, q3, q4⟩ := hw q hF
  refine ⟨mS d (q / 32), (cy_mem 64 _).mpr ⟨q / 32, by omega, q4, rfl⟩, ?_⟩
  rw [kx_mS hs (by omega) (by omega) (by omega) q4]
  omega
/-- meals go from one store of the law's to another one -/
def lMv (M M' : XM) : Prop := bSame M M' ∧ M' 20 0 0 12 ≤ M 20 0 0 12 + 1
def lEnd (t st st2 : Int) (M M' : XM) (F F' : Int → Int) (T T' : Int) (S' R' : Int → Int) : Prop :=
  lMv M M' ∧ BM M' F' T' ∧ T' = T ∧ (∀ x : Int, 0 ≤ x → x < 192 → S' x = F' (kx t st x)) ∧ (∀ x : Int, 0 ≤ x → x < 192 → R' x = F' (kx t st2 x)) ∧ (∀ q : Int, ¬ q % 8 = st → ¬ q % 8 = st2 → F' q = F q) ∧ SRw 40 t F'
/-- one batch moves -/
theorem mv_F {t st st2 x v : Int} {S R F : Int → Int} (hs : 0 ≤ st ∧ st < 8) (hs2 : 0 ≤ st2 ∧ st2 < 8) (hne : ¬ st = st2) (hst : st2 = 0 ∨ st2 = 1 ∨ st2 = 4 ∨ st2 = 5) (hx0 : 0 ≤ x) (hx1 : x < 192) (hw : SRw 40 t F) (hF : ¬ F (kx t st x) = 0)
    (hS : ∀ y : Int, 0 ≤ y → y < 192 → S y = F (kx t st y)) (hR : ∀ y : Int, 0 ≤ y → y < 192 → R y = F (kx t st2 y)) {F1 F2 : Int → Int} (h1 : F1 = sup F (kx t st x) (F (kx t st x) - v)) (h2 : F2 = sup F1 (kx t st2 x) (F1 (kx t st2 x) + v)) :
    (∀ y : Int, 0 ≤ y → y < 192 → sup S x (S x - v) y = F2 (kx t st y)) ∧ (∀ y : Int, 0 ≤ y → y < 192 → sup R x (R x + v) y = F2 (kx t st2 y)) ∧ (∀ q : Int, ¬ q % 8 = st → ¬ q % 8 = st2 → F2 q = F q) ∧ SRw 40 t F2 := by
  have kd : ∀ y z : Int, 0 ≤ y → y < 192 → 0 ≤ z → z < 192 → ¬ kx t st y = kx t st2 z := fun y z y0 y1 z0 z1 e => by
    have a := (kx_st (t := t) hs y0 y1).1
    have b := (kx_st (t := t) hs2 z0 z1).1
    rw [e] at a
    omega
  have kk := kx_st (t := t) hs hx0 hx1
  have kk2 := kx_st (t := t) hs2 hx0 hx1
  have e1 : F1 (kx t st2 x) = F (kx t st2 x) := by
    rw [h1]
    simp only [sup_at]
    rw [if_neg (fun z => kd x x hx0 hx1 hx0 hx1 z.symm)]
  refine ⟨fun y y0 y1 => ?_, fun y y0 y1 => ?_, fun q q1 q2 => ?_, fun q hq => ?_⟩
  · rw [h2]
    simp only [sup_at]
    rw [if_neg (kd y x y0 y1 hx0 hx1), h1]
    have := SR_sup (v := S x - v) hs hS hx0 hx1 y y0 y1
    rw [hS x hx0 hx1] at this
    simp only [sup_at] at this
    rw [hS x hx0 hx1]
    exact this
  · rw [h2, e1]
    simp only [sup_at]
    by_cases e : y = x
    · rw [if_pos e, if_pos (by rw [e]), hR x hx0 hx1]
    · rw [if_neg e, if_neg (fun z => e (kx_inj hs2 y0 y1 hx0 hx1 z)), h1]
      simp only [sup_at]
      rw [if_neg (fun z => kd x y hx0 hx1 y0 y1 z.symm)]
      exact hR y y0 y1
  · rw [h2, h1]
    simp only [sup_at]
    rw [if_neg (fun z => q2 (by rw [z]; exact kk2.1)), if_neg (fun z => q1 (by rw [z]; exact kk.1))]
  · have g := hw _ hF
    rw [h2, h1] at hq
    simp only [sup_at] at hq
    by_cases e : q = kx t st2 x
    · rw [e]
      omega
    · rw [if_neg e] at hq
      by_cases e2 : q = kx t st x
      · rw [e2]
        exact g
      · rw [if_neg e2] at hq
        exact hw q hq
/-- UnitKitchensLaw.lorries(LUnitKitchens;II[I[I[I[I[I[I)Z -/
abbrev wL_lorries : List Cond := Cond.code yL_lorries cL_lorries 18 (some .boolean) :: xT
abbrev rL_lorries : Room := { frames := 6, cells := 0, slots := 0, locals := 151 }
def pL_lorries (Post : XPo) : List (Nat × XStp) := [(0, j_ild 2 1), (1, j_ald 3 1), (2, j_c 2 1), (3, j_iald), (4, j_Sn 2 sL_at), (7, j_ist 9 2), (9, j_ild 2 1), (10, j_c 3 1), (11, j_shr), (12, j_ald 3 1), (13, j_c 1 1), (14, j_iald), (15, j_Sn 2 sL_at), (18, j_ist 10 2), (20, j_ild 1 1), (21, j_c 4 1), (22, j_Sn 2 sL_at), (25, j_ist 11 2), (27, j_ild 11 2), (29, j_c 2 1), (30, j_ige 125), (33, j_ild 11 2), (35, j_ne 46), (38, j_ald 5 2), (40, j_ild 10 2), (42, j_iald), (43, j_goto 55), (46, j_ild 2 1), (47, j_c 5 1), (48, j_shr), (49, j_ald 3 1), (50, j_c 0 1), (51, j_iald), (52, j_Sn 2 sL_at), (55, j_ist 12 2), (57, j_ald 7 2), (59, j_ild 9 2), (61, j_iald), (62, j_gt 75), (65, j_ald 6 2), (67, j_ild 9 2), (69, j_iald), (70, j_ild 12 2), (72, j_ine 77), (75, j_c 1 1), (76, j_zret Post), (77, j_ald 3 1), (78, j_ald 4 2), (80, j_ald 6 2), (82, j_ild 9 2), (84, j_iald), (85, j_ild 12 2), (87, j_Sn 4 sL_drive), (90, j_ist 13 2), (92, j_ald 6 2), (94, j_ild 9 2), (96, j_ild 12 2), (98, j_iast), (99, j_ald 7 2), (101, j_ild 9 2), (103, j_ild 13 2), (105, j_iast), (106, j_ald 0 1), (107, j_ild 9 2), (109, j_ild 12 2), (111, j_V2 0 sX7_drive), (114, j_ild 13 2), (116, j_ine 123), (119, j_c 1 1), (120, j_goto 124), (123, j_c 0 1), (124, j_zret Post), (125, j_ald 7 2), (127, j_ild 9 2), (129, j_iald), (130, j_gt 146), (133, j_ald 6 2), (135, j_ild 9 2), (137, j_iald), (138, j_ald 5 2), (140, j_ild 10 2), (142, j_iald), (143, j_ieq 148), (146, j_c 1 1), (147, j_zret Post), (148, j_ild 11 2), (150, j_c 2 1), (151, j_ine 352), (154, j_ild 2 1), (155, j_c 5 1), (156, j_shr), (157, j_c 3 1), (158, j_Sn 2 sL_at), (161, j_ist 12 2), (163, j_c 1 1), (164, j_ild 2 1), (165, j_c 7 2), (167, j_shr), (168, j_c 30 2), (170, j_Sn 2 sL_at), (173, j_add), (174, j_ist 13 2), (176, j_ald 3 1), (177, j_ald 8 2), (179, j_ild 10 2), (181, j_ild 12 2), (183, j_Sn 4 sL_meals), (186, j_ild 13 2), (188, j_ilt 220), (191, j_ald 3 1), (192, j_ald 8 2), (194, j_c 4 1), (195, j_ild 9 2), (197, j_add), (198, j_Sn 3 sL_all), (201, j_ild 13 2), (203, j_add), (204, j_ald 3 1), (205, j_c 11 2), (207, j_iald), (208, j_igt 220), (211, j_ald 3 1), (212, j_c 12 2), (214, j_iald), (215, j_c 38 2), (217, j_ile 222), (220, j_c 1 1), (221, j_zret Post), (222, j_ild 13 2), (224, j_ist 14 2), (226, j_ild 14 2), (228, j_le 321), (231, j_ald 3 1), (232, j_ald 8 2), (234, j_ild 10 2), (236, j_c 1 1), (237, j_ild 12 2), (239, j_shl1), (240, j_Sn 4 sL_first), (243, j_ist 15 2), (245, j_ald 8 2), (247, j_ild 15 2), (249, j_iald), (250, j_c 17 2), (252, j_shr), (253, j_ild 14 2), (255, j_ige 269), (258, j_ald 8 2), (260, j_ild 15 2), (262, j_iald), (263, j_c 17 2), (265, j_shr), (266, j_goto 271), (269, j_ild 14 2), (271, j_ist 16 2), (273, j_ald 8 2), (275, j_ild 15 2), (277, j_iald), (278, j_c 131071 2), (280, j_and 131072), (281, j_ild 10 2), (283, j_sub), (284, j_c 4 1), (285, j_add), (286, j_ild 9 2), (288, j_add), (289, j_ist 17 2), (291, j_ald 3 1), (292, j_ald 8 2), (294, j_ild 15 2), (296, j_ild 16 2), (298, j_Sn 4 sL_less), (301, j_ald 3 1), (302, j_ald 8 2), (304, j_ild 17 2), (306, j_ild 16 2), (308, j_Sn 4 sL_put), (311, j_ild 14 2), (313, j_ild 16 2), (315, j_sub), (316, j_ist 14 2), (318, j_goto 226), (321, j_ald 0 1), (322, j_ild 9 2), (324, j_ild 10 2), (326, j_ild 12 2), (328, j_ild 13 2), (330, j_V4 0 sX7_load), (333, j_ald 3 1), (334, j_ald 8 2), (336, j_c 4 1), (337, j_ild 9 2), (339, j_add), (340, j_Sn 3 sL_all), (343, j_ine 350), (346, j_c 1 1), (347, j_goto 351), (350, j_c 0 1), (351, j_zret Post), (352, j_ald 3 1), (353, j_ald 8 2), (355, j_c 4 1), (356, j_ild 9 2), (358, j_add), (359, j_Sn 3 sL_all), (362, j_ist 12 2), (364, j_ald 3 1), (365, j_c 12 2), (367, j_iald), (368, j_c 1 1), (369, j_sub), (370, j_ist 13 2), (372, j_ild 13 2), (374, j_lt 452), (377, j_ald 8 2), (379, j_ild 13 2), (381, j_iald), (382, j_c 7 2), (384, j_and 8), (385, j_c 4 1), (386, j_ild 9 2), (388, j_add), (389, j_ine 446), (392, j_ald 8 2), (394, j_ild 13 2), (396, j_iald), (397, j_c 131071 2), (399, j_and 131072), (400, j_c 4 1), (401, j_sub), (402, j_ild 9 2), (404, j_sub), (405, j_ild 10 2), (407, j_add), (408, j_ist 14 2), (410, j_ald 8 2), (412, j_ild 13 2), (414, j_iald), (415, j_c 17 2), (417, j_shr), (418, j_ist 15 2), (420, j_ald 3 1), (421, j_ald 8 2), (423, j_ild 13 2), (425, j_ild 15 2), (427, j_Sn 4 sL_less), (430, j_ald 3 1), (431, j_ald 8 2), (433, j_ild 14 2), (435, j_ild 15 2), (437, j_Sn 4 sL_put), (440, j_ald 3 1), (441, j_c 12 2), (443, j_iald), (444, j_ist 13 2), (446, j_inc 13 (-1)), (449, j_goto 372), (452, j_ald 0 1), (453, j_ild 9 2), (455, j_ild 10 2), (457, j_V2 0 sX7_unload), (460, j_ild 12 2), (462, j_ine 469), (465, j_c 1 1), (466, j_goto 470), (469, j_c 0 1), (470, j_zret Post)]
set_option maxRecDepth 100000 in
theorem aL_lorries (Post : XPo) : XAll rL_lorries cL_lorries 18 RL wL_lorries (some .boolean) Post (pL_lorries Post) := XAll.cons (xs_iload_n dL_lorries_0 rfl) (XAll.cons (xs_aload_n dL_lorries_1 rfl) (XAll.cons (xs_iconst dL_lorries_2) (XAll.cons (xs_iald dL_lorries_3) (XAll.cons (xs_Sn kL_at ⟨⟨rfl, rfl, by decide, by decide⟩, ⟨by decide, by decide, by decide +kernel⟩, tw_567, tw_568, tw_0, tw_569⟩ dL_lorries_4) (XAll.cons (xs_istore dL_lorries_7 (by decide)) (XAll.cons (xs_iload_n dL_lorries_9 rfl) (XAll.cons (xs_iconst dL_lorries_10) (XAll.cons (xs_ishr dL_lorries_11) (XAll.cons (xs_aload_n dL_lorries_12 rfl) (XAll.cons (xs_iconst dL_lorries_13) (XAll.cons (xs_iald dL_lorries_14) (XAll.cons (xs_Sn kL_at ⟨⟨rfl, rfl, by decide, by decide⟩, ⟨by decide, by decide, by decide +kernel⟩, tw_567, tw_568, tw_0, tw_569⟩ dL_lorries_15) (XAll.cons (xs_istore dL_lorries_18 (by decide)) (XAll.cons (xs_iload_n dL_lorries_20 rfl) (XAll.cons (xs_iconst dL_lorries_21) (XAll.cons (xs_Sn kL_at ⟨⟨rfl, rfl, by decide, by decide⟩, ⟨by decide, by decide, by decide +kernel⟩, tw_567, tw_568, tw_0, tw_569⟩ dL_lorries_22) (XAll.cons (xs_istore dL_lorries_25 (by decide)) (XAll.cons (xs_iload dL_lorries_27) (XAll.cons (xs_iconst dL_lorries_29) (XAll.cons (xs_icmp_ge dL_lorries_30 (by decide)) (XAll.cons (xs_iload dL_lorries_33) (XAll.cons (xs_if_ne dL_lorries_35 (by decide)) (XAll.cons (xs_aload dL_lorries_38) (XAll.cons (xs_iload dL_lorries_40) (XAll.cons (xs_iald dL_lorries_42) (XAll.cons (xs_goto dL_lorries_43 (by decide)) (XAll.cons (xs_iload_n dL_lorries_46 rfl) (XAll.cons (xs_iconst dL_lorries_47) (XAll.cons (xs_ishr dL_lorries_48) (XAll.cons (xs_aload_n dL_lorries_49 rfl) (XAll.cons (xs_iconst dL_lorries_50) (XAll.cons (xs_iald dL_lorries_51) (XAll.cons (xs_Sn kL_at ⟨⟨rfl, rfl, by decide, by decide⟩, ⟨by decide, by decide, by decide +kernel⟩, tw_567, tw_568, tw_0, tw_569⟩ dL_lorries_52) (XAll.cons (xs_istore dL_lorries_55 (by decide)) (XAll.cons (xs_aload dL_lorries_57) (XAll.cons (xs_iload dL_lorries_59) (XAll.cons (xs_iald dL_lorries_61) (XAll.cons (xs_if_gt dL_lorries_62 (by decide)) (XAll.cons (xs_aload dL_lorries_65) (XAll.cons (xs_iload dL_lorries_67) (XAll.cons (xs_iald dL_lorries_69) (XAll.cons (xs_iload dL_lorries_70) (XAll.cons (xs_icmp_ne dL_lorries_72 (by decide)) (XAll.cons (xs_iconst dL_lorries_75) (XAll.cons (xs_zret rfl dL_lorries_76) (XAll.cons (xs_aload_n dL_lorries_77 rfl) (XAll.cons (xs_aload dL_lorries_78) (XAll.cons (xs_aload dL_lorries_80) (XAll.cons (xs_iload dL_lorries_82) (XAll.cons (xs_iald dL_lorries_84) (XAll.cons (xs_iload dL_lorries_85) (XAll.cons (xs_Sn kL_drive ⟨⟨rfl, rfl, by decide, by decide⟩, ⟨by decide, by decide, by decide +kernel⟩, tw_621, tw_622, tw_0, tw_623⟩ dL_lorries_87) (XAll.cons (xs_istore dL_lorries_90 (by decide)) (XAll.cons (xs_aload dL_lorries_92) (XAll.cons (xs_iload dL_lorries_94) (XAll.cons (xs_iload dL_lorries_96) (XAll.cons (xs_iast dL_lorries_98) (XAll.cons (xs_aload dL_lorries_99) (XAll.cons (xs_iload dL_lorries_101) (XAll.cons (xs_iload dL_lorries_103) (XAll.cons (xs_iast dL_lorries_105) (XAll.cons (xs_aload_n dL_lorries_106 rfl) (XAll.cons (xs_iload dL_lorries_107) (XAll.cons (xs_iload dL_lorries_109) (XAll.cons (xs_V2 kX7_drive ⟨⟨rfl, rfl, by decide, by decide⟩, ⟨by decide, by decide, by decide +kernel⟩, ⟨tw_624, tw_625, tw_626, tw_1, tw_627⟩, 7, TX7, _, rfl, fun G ρ f i k => ⟨_, rfl⟩⟩ dL_lorries_111) (XAll.cons (xs_iload dL_lorries_114) (XAll.cons (xs_icmp_ne dL_lorries_116 (by decide)) (XAll.cons (xs_iconst dL_lorries_119) (XAll.cons (xs_goto dL_lorries_120 (by decide)) (XAll.cons (xs_iconst dL_lorries_123) (XAll.cons (xs_zret rfl dL_lorries_124) (XAll.cons (xs_aload dL_lorries_125) (XAll.cons (xs_iload dL_lorries_127) (XAll.cons (xs_iald dL_lorries_129) (XAll.cons (xs_if_gt dL_lorries_130 (by decide)) (XAll.cons (xs_aload dL_lorries_133) (XAll.cons (xs_iload dL_lorries_135) (XAll.cons (xs_iald dL_lorries_137) (XAll.cons (xs_aload dL_lorries_138) (XAll.cons (xs_iload dL_lorries_140) (XAll.cons (xs_iald dL_lorries_142) (XAll.cons (xs_icmp_eq dL_lorries_143 (by decide)) (XAll.cons (xs_iconst dL_lorries_146) (XAll.cons (xs_zret rfl dL_lorries_147) (XAll.cons (xs_iload dL_lorries_148) (XAll.cons (xs_iconst dL_lorries_150) (XAll.cons (xs_icmp_ne dL_lorries_151 (by decide)) (XAll.cons (xs_iload_n dL_lorries_154 rfl) (XAll.cons (xs_iconst dL_lorries_155) (XAll.cons (xs_ishr dL_lorries_156) (XAll.cons (xs_iconst dL_lorries_157) (XAll.cons (xs_Sn kL_at ⟨⟨rfl, rfl, by decide, by decide⟩, ⟨by decide, by decide, by decide +kernel⟩, tw_567, tw_568, tw_0, tw_569⟩ dL_lorries_158) (XAll.cons (xs_istore dL_lorries_161 (by decide)) (XAll.cons (xs_iconst dL_lorries_163) (XAll.cons (xs_iload_n dL_lorries_164 rfl) (XAll.cons (xs_bipush dL_lorries_165 rfl) (XAll.cons (xs_ishr dL_lorries_167) (XAll.cons (xs_bipush dL_lorries_168 rfl) (XAll.cons (xs_Sn kL_at ⟨⟨rfl, rfl, by decide, by decide⟩, ⟨by decide, by decide, by decide +kernel⟩, tw_567, tw_568, tw_0, tw_569⟩ dL_lorries_170) (XAll.cons (xs_iadd dL_lorries_173) (XAll.cons (xs_istore dL_lorries_174 (by decide)) (XAll.cons (xs_aload_n dL_lorries_176 rfl) (XAll.cons (xs_aload dL_lorries_177) (XAll.cons (xs_iload dL_lorries_179) (XAll.cons (xs_iload dL_lorries_181) (XAll.cons (xs_Sn kL_meals ⟨⟨rfl, rfl, by decide, by decide⟩, ⟨by decide, by decide, by decide +kernel⟩, tw_643, tw_644, tw_0, tw_645⟩ dL_lorries_183) (XAll.cons (xs_iload dL_lorries_186) (XAll.cons (xs_icmp_lt dL_lorries_188 (by decide)) (XAll.cons (xs_aload_n dL_lorries_191 rfl) (XAll.cons (xs_aload dL_lorries_192) (XAll.cons (xs_iconst dL_lorries_194) (XAll.cons (xs_iload dL_lorries_195) (XAll.cons (xs_iadd dL_lorries_197) (XAll.cons (xs_Sn kL_all ⟨⟨rfl, rfl, by decide, by decide⟩, ⟨by decide, by decide, by decide +kernel⟩, tw_646, tw_647, tw_0, tw_648⟩ dL_lorries_198) (XAll.cons (xs_iload dL_lorries_201) (XAll.cons (xs_iadd dL_lorries_203) (XAll.cons (xs_aload_n dL_lorries_204 rfl) (XAll.cons (xs_bipush dL_lorries_205 rfl) (XAll.cons (xs_iald dL_lorries_207) (XAll.cons (xs_icmp_gt dL_lorries_208 (by decide)) (XAll.cons (xs_aload_n dL_lorries_211 rfl) (XAll.cons (xs_bipush dL_lorries_212 rfl) (XAll.cons (xs_iald dL_lorries_214) (XAll.cons (xs_bipush dL_lorries_215 rfl) (XAll.cons (xs_icmp_le dL_lorries_217 (by decide)) (XAll.cons (xs_iconst dL_lorries_220) (XAll.cons (xs_zret rfl dL_lorries_221) (XAll.cons (xs_iload dL_lorries_222) (XAll.cons (xs_istore dL_lorries_224 (by decide)) (XAll.cons (xs_iload dL_lorries_226) (XAll.cons (xs_if_le dL_lorries_228 (by decide)) (XAll.cons (xs_aload_n dL_lorries_231 rfl) (XAll.cons (xs_aload dL_lorries_232) (XAll.cons (xs_iload dL_lorries_234) (XAll.cons (xs_iconst dL_lorries_236) (XAll.cons (xs_iload dL_lorries_237) (XAll.cons (xs_ishl dL_lorries_239) (XAll.cons (xs_Sn kL_first ⟨⟨rfl, rfl, by decide, by decide⟩, ⟨by decide, by decide, by decide +kernel⟩, tw_587, tw_588, tw_0, tw_589⟩ dL_lorries_240) (XAll.cons (xs_istore dL_lorries_243 (by decide)) (XAll.cons (xs_aload dL_lorries_245) (XAll.cons (xs_iload dL_lorries_247) (XAll.cons (xs_iald dL_lorries_249) (XAll.cons (xs_bipush dL_lorries_250 rfl) (XAll.cons (xs_ishr dL_lorries_252) (XAll.cons (xs_iload dL_lorries_253) (XAll.cons (xs_icmp_ge dL_lorries_255 (by decide)) (XAll.cons (xs_aload dL_lorries_258) (XAll.cons (xs_iload dL_lorries_260) (XAll.cons (xs_iald dL_lorries_262) (XAll.cons (xs_bipush dL_lorries_263 rfl) (XAll.cons (xs_ishr dL_lorries_265) (XAll.cons (xs_goto dL_lorries_266 (by decide)) (XAll.cons (xs_iload dL_lorries_269) (XAll.cons (xs_istore dL_lorries_271 (by decide)) (XAll.cons (xs_aload dL_lorries_273) (XAll.cons (xs_iload dL_lorries_275) (XAll.cons (xs_iald dL_lorries_277) (XAll.cons (xs_ldc dL_lorries_278 (xgood1 tw_579) rfl) (XAll.cons (xs_iandb 17 (by decide) (by decide) dL_lorries_280) (XAll.cons (xs_iload dL_lorries_281) (XAll.cons (xs_isub dL_lorries_283) (XAll.cons (xs_iconst dL_lorries_284) (XAll.cons (xs_iadd dL_lorries_285) (XAll.cons (xs_iload dL_lorries_286) (XAll.cons (xs_iadd dL_lorries_288) (XAll.cons (xs_istore dL_lorries_289 (by decide)) (XAll.cons (xs_aload_n dL_lorries_291 rfl) (XAll.cons (xs_aload dL_lorries_292) (XAll.cons (xs_iload dL_lorries_294) (XAll.cons (xs_iload dL_lorries_296) (XAll.cons (xs_Sn kL_less ⟨⟨rfl, rfl, by decide, by decide⟩, ⟨by decide, by decide, by decide +kernel⟩, tw_581, tw_582, tw_0, tw_583⟩ dL_lorries_298) (XAll.cons (xs_aload_n dL_lorries_301 rfl) (XAll.cons (xs_aload dL_lorries_302) (XAll.cons (xs_iload dL_lorries_304) (XAll.cons (xs_iload dL_lorries_306) (XAll.cons (xs_Sn kL_put ⟨⟨rfl, rfl, by decide, by decide⟩, ⟨by decide, by decide, by decide +kernel⟩, tw_576, tw_577, tw_0, tw_578⟩ dL_lorries_308) (XAll.cons (xs_iload dL_lorries_311) (XAll.cons (xs_iload dL_lorries_313) (XAll.cons (xs_isub dL_lorries_315) (XAll.cons (xs_istore dL_lorries_316 (by decide)) (XAll.cons (xs_goto dL_lorries_318 (by decide)) (XAll.cons (xs_aload_n dL_lorries_321 rfl) (XAll.cons (xs_iload dL_lorries_322) (XAll.cons (xs_iload dL_lorries_324) (XAll.cons (xs_iload dL_lorries_326) (XAll.cons (xs_iload dL_lorries_328) (XAll.cons (xs_V4 kX7_load ⟨⟨rfl, rfl, by decide, by decide⟩, ⟨by decide, by decide, by decide +kernel⟩, ⟨tw_649, tw_650, tw_651, tw_1, tw_652⟩, 7, TX7, _, rfl, fun G ρ f i k => ⟨_, rfl⟩⟩ dL_lorries_330) (XAll.cons (xs_aload_n dL_lorries_333 rfl) (XAll.cons (xs_aload dL_lorries_334) (XAll.cons (xs_iconst dL_lorries_336) (XAll.cons (xs_iload dL_lorries_337) (XAll.cons (xs_iadd dL_lorries_339) (XAll.cons (xs_Sn kL_all ⟨⟨rfl, rfl, by decide, by decide⟩, ⟨by decide, by decide, by decide +kernel⟩, tw_646, tw_647, tw_0, tw_648⟩ dL_lorries_340) (XAll.cons (xs_icmp_ne dL_lorries_343 (by decide)) (XAll.cons (xs_iconst dL_lorries_346) (XAll.cons (xs_goto dL_lorries_347 (by decide)) (XAll.cons (xs_iconst dL_lorries_350) (XAll.cons (xs_zret rfl dL_lorries_351) (XAll.cons (xs_aload_n dL_lorries_352 rfl) (XAll.cons (xs_aload dL_lorries_353) (XAll.cons (xs_iconst dL_lorries_355) (XAll.cons (xs_iload dL_lorries_356) (XAll.cons (xs_iadd dL_lorries_358) (XAll.cons (xs_Sn kL_all ⟨⟨rfl, rfl, by decide, by decide⟩, ⟨by decide, by decide, by decide +kernel⟩, tw_646, tw_647, tw_0, tw_648⟩ dL_lorries_359) (XAll.cons (xs_istore dL_lorries_362 (by decide)) (XAll.cons (xs_aload_n dL_lorries_364 rfl) (XAll.cons (xs_bipush dL_lorries_365 rfl) (XAll.cons (xs_iald dL_lorries_367) (XAll.cons (xs_iconst dL_lorries_368) (XAll.cons (xs_isub dL_lorries_369) (XAll.cons (xs_istore dL_lorries_370 (by decide)) (XAll.cons (xs_iload dL_lorries_372) (XAll.cons (xs_if_lt dL_lorries_374 (by decide)) (XAll.cons (xs_aload dL_lorries_377) (XAll.cons (xs_iload dL_lorries_379) (XAll.cons (xs_iald dL_lorries_381) (XAll.cons (xs_bipush dL_lorries_382 rfl) (XAll.cons (xs_iand 3 (by decide) (by decide) dL_lorries_384) (XAll.cons (xs_iconst dL_lorries_385) (XAll.cons (xs_iload dL_lorries_386) (XAll.cons (xs_iadd dL_lorries_388) (XAll.cons (xs_icmp_ne dL_lorries_389 (by decide)) (XAll.cons (xs_aload dL_lorries_392) (XAll.cons (xs_iload dL_lorries_394) (XAll.cons (xs_iald dL_lorries_396) (XAll.cons (xs_ldc dL_lorries_397 (xgood1 tw_579) rfl) (XAll.cons (xs_iandb 17 (by decide) (by decide) dL_lorries_399) (XAll.cons (xs_iconst dL_lorries_400) (XAll.cons (xs_isub dL_lorries_401) (XAll.cons (xs_iload dL_lorries_402) (XAll.cons (xs_isub dL_lorries_404) (XAll.cons (xs_iload dL_lorries_405) (XAll.cons (xs_iadd dL_lorries_407) (XAll.cons (xs_istore dL_lorries_408 (by decide)) (XAll.cons (xs_aload dL_lorries_410) (XAll.cons (xs_iload dL_lorries_412) (XAll.cons (xs_iald dL_lorries_414) (XAll.cons (xs_bipush dL_lorries_415 rfl) (XAll.cons (xs_ishr dL_lorries_417) (XAll.cons (xs_istore dL_lorries_418 (by decide)) (XAll.cons (xs_aload_n dL_lorries_420 rfl) (XAll.cons (xs_aload dL_lorries_421) (XAll.cons (xs_iload dL_lorries_423) (XAll.cons (xs_iload dL_lorries_425) (XAll.cons (xs_Sn kL_less ⟨⟨rfl, rfl, by decide, by decide⟩, ⟨by decide, by decide, by decide +kernel⟩, tw_581, tw_582, tw_0, tw_583⟩ dL_lorries_427) (XAll.cons (xs_aload_n dL_lorries_430 rfl) (XAll.cons (xs_aload dL_lorries_431) (XAll.cons (xs_iload dL_lorries_433) (XAll.cons (xs_iload dL_lorries_435) (XAll.cons (xs_Sn kL_put ⟨⟨rfl, rfl, by decide, by decide⟩, ⟨by decide, by decide, by decide +kernel⟩, tw_576, tw_577, tw_0, tw_578⟩ dL_lorries_437) (XAll.cons (xs_aload_n dL_lorries_440 rfl) (XAll.cons (xs_bipush dL_lorries_441 rfl) (XAll.cons (xs_iald dL_lorries_443) (XAll.cons (xs_istore dL_lorries_444 (by decide)) (XAll.cons (xs_iinc dL_lorries_446 (by decide)) (XAll.cons (xs_goto dL_lorries_449 (by decide)) (XAll.cons (xs_aload_n dL_lorries_452 rfl) (XAll.cons (xs_iload dL_lorries_453) (XAll.cons (xs_iload dL_lorries_455) (XAll.cons (xs_V2 kX7_unload ⟨⟨rfl, rfl, by decide, by decide⟩, ⟨by decide, by decide, by decide +kernel⟩, ⟨tw_659, tw_660, tw_661, tw_1, tw_662⟩, 7, TX7, _, rfl, fun G ρ f i k => ⟨_, rfl⟩⟩ dL_lorries_457) (XAll.cons (xs_iload dL_lorries_460) (XAll.cons (xs_icmp_ne dL_lorries_462 (by decide)) (XAll.cons (xs_iconst dL_lorries_465) (XAll.cons (xs_goto dL_lorries_466 (by decide)) (XAll.cons (xs_iconst dL_lorries_469) (XAll.cons (xs_zret rfl dL_lorries_470) (XAll.nil)))))))))))))))))))))))))))))))))))))))))))))))))))))))))))))))))))))))))))))))))))))))))))))))))))))))))))))))))))))))))))))))))))))))))))))))))))))))))))))))))))))))))))))))))))))))))))))))))))))))))))))))))))))))))))))))))))))))))))))))))))))))))))))))))))))))))))
set_option maxRecDepth 100000 in
theorem fL_lorries_0 (Post : XPo) (cut : List Nat) (WW : XK) (n : Nat) (L : XLs) (st : List XV) (M : XM) : yru (xlk (pL_lorries Post)) cut WW (n + 1) 0 L st M = j_ild 2 1 0 L st M (ykk (xlk (pL_lorries Post)) cut WW n) := yf rfl
set_option maxRecDepth 100000 in
theorem fL_lorries_1 (Post : XPo) (cut : List Nat) (WW : XK) (n : Nat) (L : XLs) (st : List XV) (M : XM) : yru (xlk (pL_lorries Post)) cut WW (n + 1) 1 L st M = j_ald 3 1 1 L st M (ykk (xlk (pL_lorries Post)) cut WW n) := yf rfl
set_option maxRecDepth 100000 in
theorem fL_lorries_2 (Post : XPo) (cut : List Nat) (WW : XK) (n : Nat) (L : XLs) (st : List XV) (M : XM) : yru (xlk (pL_lorries Post)) cut WW (n + 1) 2 L st M = j_c 2 1 2 L st M (ykk (xlk (pL_lorries Post)) cut WW n) := yf rfl
set_option maxRecDepth 100000 in
theorem fL_lorries_3 (Post : XPo) (cut : List Nat) (WW : XK) (n : Nat) (L : XLs) (st : List XV) (M : XM) : yru (xlk (pL_lorries Post)) cut WW (n + 1) 3 L st M = j_iald 3 L st M (ykk (xlk (pL_lorries Post)) cut WW n) := yf rfl
set_option maxRecDepth 100000 in
theorem fL_lorries_4 (Post : XPo) (cut : List Nat) (WW : XK) (n : Nat) (L : XLs) (st : List XV) (M : XM) : yru (xlk (pL_lorries Post)) cut WW (n + 1) 4 L st M = j_Sn 2 sL_at 4 L st M (ykk (xlk (pL_lorries Post)) cut WW n) := yf rfl
set_option maxRecDepth 100000 in
theorem fL_lorries_7 (Post : XPo) (cut : List Nat) (WW : XK) (n : Nat) (L : XLs) (st : List XV) (M : XM) : yru (xlk (pL_lorries Post)) cut WW (n + 1) 7 L st M = j_ist 9 2 7 L st M (ykk (xlk (pL_lorries Post)) cut WW n) := yf rfl
set_option maxRecDepth 100000 in
theorem fL_lorries_9 (Post : XPo) (cut : List Nat) (WW : XK) (n : Nat) (L : XLs) (st : List XV) (M : XM) : yru (xlk (pL_lorries Post)) cut WW (n + 1) 9 L st M = j_ild 2 1 9 L st M (ykk (xlk (pL_lorries Post)) cut WW n) := yf rfl
set_option maxRecDepth 100000 in
theorem fL_lorries_10 (Post : XPo) (cut : List Nat) (WW : XK) (n : Nat) (L : XLs) (st : List XV) (M : XM) : yru (xlk (pL_lorries Post)) cut WW (n + 1) 10 L st M = j_c 3 1 10 L st M (ykk (xlk (pL_lorries Post)) cut WW n) := yf rfl
set_option maxRecDepth 100000 in
theorem fL_lorries_11 (Post : XPo) (cut : List Nat) (WW : XK) (n : Nat) (L : XLs) (st : List XV) (M : XM) : yru (xlk (pL_lorries Post)) cut WW (n + 1) 11 L st M = j_shr 11 L st M (ykk (xlk (pL_lorries Post)) cut WW n) := yf rfl
set_option maxRecDepth 100000 in
theorem fL_lorries_12 (Post : XPo) (cut : List Nat) (WW : XK) (n : Nat) (L : XLs) (st : List XV) (M : XM) : yru (xlk (pL_lorries Post)) cut WW (n + 1) 12 L st M = j_ald 3 1 12 L st M (ykk (xlk (pL_lorries Post)) cut WW n) := yf rfl
set_option maxRecDepth 100000 in
theorem fL_lorries_13 (Post : XPo) (cut : List Nat) (WW : XK) (n : Nat) (L : XLs) (st : List XV) (M : XM) : yru (xlk (pL_lorries Post)) cut WW (n + 1) 13 L st M = j_c 1 1 13 L st M (ykk (xlk (pL_lorries Post)) cut WW n) := yf rfl
set_option maxRecDepth 100000 in
theorem fL_lorries_14 (Post : XPo) (cut : List Nat) (WW : XK) (n : Nat) (L : XLs) (st : List XV) (M : XM) : yru (xlk (pL_lorries Post)) cut WW (n + 1) 14 L st M = j_iald 14 L st M (ykk (xlk (pL_lorries Post)) cut WW n) := yf rfl
set_option maxRecDepth 100000 in
theorem fL_lorries_15 (Post : XPo) (cut : List Nat) (WW : XK) (n : Nat) (L : XLs) (st : List XV) (M : XM) : yru (xlk (pL_lorries Post)) cut WW (n + 1) 15 L st M = j_Sn 2 sL_at 15 L st M (ykk (xlk (pL_lorries Post)) cut WW n) := yf rfl
set_option maxRecDepth 100000 in
theorem fL_lorries_18 (Post : XPo) (cut : List Nat) (WW : XK) (n : Nat) (L : XLs) (st : List XV) (M : XM) : yru (xlk (pL_lorries Post)) cut WW (n + 1) 18 L st M = j_ist 10 2 18 L st M (ykk (xlk (pL_lorries Post)) cut WW n) := yf rfl
set_option maxRecDepth 100000 in
theorem fL_lorries_20 (Post : XPo) (cut : List Nat) (WW : XK) (n : Nat) (L : XLs) (st : List XV) (M : XM) : yru (xlk (pL_lorries Post)) cut WW (n + 1) 20 L st M = j_ild 1 1 20 L st M (ykk (xlk (pL_lorries Post)) cut WW n) := yf rfl
set_option maxRecDepth 100000 in
theorem fL_lorries_21 (Post : XPo) (cut : List Nat) (WW : XK) (n : Nat) (L : XLs) (st : List XV) (M : XM) : yru (xlk (pL_lorries Post)) cut WW (n + 1) 21 L st M = j_c 4 1 21 L st M (ykk (xlk (pL_lorries Post)) cut WW n) := yf rfl
set_option maxRecDepth 100000 in
theorem fL_lorries_22 (Post : XPo) (cut : List Nat) (WW : XK) (n : Nat) (L : XLs) (st : List XV) (M : XM) : yru (xlk (pL_lorries Post)) cut WW (n + 1) 22 L st M = j_Sn 2 sL_at 22 L st M (ykk (xlk (pL_lorries Post)) cut WW n) := yf rfl
set_option maxRecDepth 100000 in
theorem fL_lorries_25 (Post : XPo) (cut : List Nat) (WW : XK) (n : Nat) (L : XLs) (st : List XV) (M : XM) : yru (xlk (pL_lorries Post)) cut WW (n + 1) 25 L st M = j_ist 11 2 25 L st M (ykk (xlk (pL_lorries Post)) cut WW n) := yf rfl
set_option maxRecDepth 100000 in
theorem fL_lorries_27 (Post : XPo) (cut : List Nat) (WW : XK) (n : Nat) (L : XLs) (st : List XV) (M : XM) : yru (xlk (pL_lorries Post)) cut WW (n + 1) 27 L st M = j_ild 11 2 27 L st M (ykk (xlk (pL_lorries Post)) cut WW n) := yf rfl
set_option maxRecDepth 100000 in
theorem fL_lorries_29 (Post : XPo) (cut : List Nat) (WW : XK) (n : Nat) (L : XLs) (st : List XV) (M : XM) : yru (xlk (pL_lorries Post)) cut WW (n + 1) 29 L st M = j_c 2 1 29 L st M (ykk (xlk (pL_lorries Post)) cut WW n) := yf rfl
set_option maxRecDepth 100000 in
theorem fL_lorries_30 (Post : XPo) (cut : List Nat) (WW : XK) (n : Nat) (L : XLs) (st : List XV) (M : XM) : yru (xlk (pL_lorries Post)) cut WW (n + 1) 30 L st M = j_ige 125 30 L st M (ykk (xlk (pL_lorries Post)) cut WW n) := yf rfl
set_option maxRecDepth 100000 in
theorem fL_lorries_33 (Post : XPo) (cut : List Nat) (WW : XK) (n : Nat) (L : XLs) (st : List XV) (M : XM) : yru (xlk (pL_lorries Post)) cut WW (n + 1) 33 L st M = j_ild 11 2 33 L st M (ykk (xlk (pL_lorries Post)) cut WW n) := yf rfl
set_option maxRecDepth 100000 in
theorem fL_lorries_35 (Post : XPo) (cut : List Nat) (WW : XK) (n : Nat) (L : XLs) (st : List XV) (M : XM) : yru (xlk (pL_lorries Post)) cut WW (n + 1) 35 L st M = j_ne 46 35 L st M (ykk (xlk (pL_lorries Post)) cut WW n) := yf rfl
set_option maxRecDepth 100000 in
theorem fL_lorries_38 (Post : XPo) (cut : List Nat) (WW : XK) (n : Nat) (L : XLs) (st : List XV) (M : XM) : yru (xlk (pL_lorries Post)) cut WW (n + 1) 38 L st M = j_ald 5 2 38 L st M (ykk (xlk (pL_lorries Post)) cut WW n) := yf rfl
set_option maxRecDepth 100000 in
theorem fL_lorries_40 (Post : XPo) (cut : List Nat) (WW : XK) (n : Nat) (L : XLs) (st : List XV) (M : XM) : yru (xlk (pL_lorries Post)) cut WW (n + 1) 40 L st M = j_ild 10 2 40 L st M (ykk (xlk (pL_lorries Post)) cut WW n) := yf rfl
set_option maxRecDepth 100000 in
theorem fL_lorries_42 (Post : XPo) (cut : List Nat) (WW : XK) (n : Nat) (L : XLs) (st : List XV) (M : XM) : yru (xlk (pL_lorries Post)) cut WW (n + 1) 42 L st M = j_iald 42 L st M (ykk (xlk (pL_lorries Post)) cut WW n) := yf rfl
set_option maxRecDepth 100000 in
theorem fL_lorries_43 (Post : XPo) (cut : List Nat) (WW : XK) (n : Nat) (L : XLs) (st : List XV) (M : XM) : yru (xlk (pL_lorries Post)) cut WW (n + 1) 43 L st M = j_goto 55 43 L st M (ykk (xlk (pL_lorries Post)) cut WW n) := yf rfl
set_option maxRecDepth 100000 in
theorem fL_lorries_46 (Post : XPo) (cut : List Nat) (WW : XK) (n : Nat) (L : XLs) (st : List XV) (M : XM) : yru (xlk (pL_lorries Post)) cut WW (n + 1) 46 L st M = j_ild 2 1 46 L st M (ykk (xlk (pL_lorries Post)) cut WW n) := yf rfl
set_option maxRecDepth 100000 in
theorem fL_lorries_47 (Post : XPo) (cut : List Nat) (WW : XK) (n : Nat) (L : XLs) (st : List XV) (M : XM) : yru (xlk (pL_lorries Post)) cut WW (n + 1) 47 L st M = j_c 5 1 47 L st M (ykk (xlk (pL_lorries Post)) cut WW n) := yf rfl
set_option maxRecDepth 100000 in
theorem fL_lorries_48 (Post : XPo) (cut : List Nat) (WW : XK) (n : Nat) (L : XLs) (st : List XV) (M : XM) : yru (xlk (pL_lorries Post)) cut WW (n + 1) 48 L st M = j_shr 48 L st M (ykk (xlk (pL_lorries Post)) cut WW n) := yf rfl
set_option maxRecDepth 100000 in
theorem fL_lorries_49 (Post : XPo) (cut : List Nat) (WW : XK) (n : Nat) (L : XLs) (st : List XV) (M : XM) : yru (xlk (pL_lorries Post)) cut WW (n + 1) 49 L st M = j_ald 3 1 49 L st M (ykk (xlk (pL_lorries Post)) cut WW n) := yf rfl
set_option maxRecDepth 100000 in
theorem fL_lorries_50 (Post : XPo) (cut : List Nat) (WW : XK) (n : Nat) (L : XLs) (st : List XV) (M : XM) : yru (xlk (pL_lorries Post)) cut WW (n + 1) 50 L st M = j_c 0 1 50 L st M (ykk (xlk (pL_lorries Post)) cut WW n) := yf rfl
set_option maxRecDepth 100000 in
theorem fL_lorries_51 (Post : XPo) (cut : List Nat) (WW : XK) (n : Nat) (L : XLs) (st : List XV) (M : XM) : yru (xlk (pL_lorries Post)) cut WW (n + 1) 51 L st M = j_iald 51 L st M (ykk (xlk (pL_lorries Post)) cut WW n) := yf rfl
set_option maxRecDepth 100000 in
theorem fL_lorries_52 (Post : XPo) (cut : List Nat) (WW : XK) (n : Nat) (L : XLs) (st : List XV) (M : XM) : yru (xlk (pL_lorries Post)) cut WW (n + 1) 52 L st M = j_Sn 2 sL_at 52 L st M (ykk (xlk (pL_lorries Post)) cut WW n) := yf rfl
set_option maxRecDepth 100000 in
theorem fL_lorries_55 (Post : XPo) (cut : List Nat) (WW : XK) (n : Nat) (L : XLs) (st : List XV) (M : XM) : yru (xlk (pL_lorries Post)) cut WW (n + 1) 55 L st M = j_ist 12 2 55 L st M (ykk (xlk (pL_lorries Post)) cut WW n) := yf rfl
set_option maxRecDepth 100000 in
theorem fL_lorries_57 (Post : XPo) (cut : List Nat) (WW : XK) (n : Nat) (L : XLs) (st : List XV) (M : XM) : yru (xlk (pL_lorries Post)) cut WW (n + 1) 57 L st M = j_ald 7 2 57 L st M (ykk (xlk (pL_lorries Post)) cut WW n) := yf rfl
set_option maxRecDepth 100000 in
theorem fL_lorries_59 (Post : XPo) (cut : List Nat) (WW : XK) (n : Nat) (L : XLs) (st : List XV) (M : XM) : yru (xlk (pL_lorries Post)) cut WW (n + 1) 59 L st M = j_ild 9 2 59 L st M (ykk (xlk (pL_lorries Post)) cut WW n) := yf rfl
set_option maxRecDepth 100000 in
theorem fL_lorries_61 (Post : XPo) (cut : List Nat) (WW : XK) (n : Nat) (L : XLs) (st : List XV) (M : XM) : yru (xlk (pL_lorries Post)) cut WW (n + 1) 61 L st M = j_iald 61 L st M (ykk (xlk (pL_lorries Post)) cut WW n) := yf rfl
set_option maxRecDepth 100000 in
theorem fL_lorries_62 (Post : XPo) (cut : List Nat) (WW : XK) (n : Nat) (L : XLs) (st : List XV) (M : XM) : yru (xlk (pL_lorries Post)) cut WW (n + 1) 62 L st M = j_gt 75 62 L st M (ykk (xlk (pL_lorries Post)) cut WW n) := yf rfl
set_option maxRecDepth 100000 in
theorem fL_lorries_65 (Post : XPo) (cut : List Nat) (WW : XK) (n : Nat) (L : XLs) (st : List XV) (M : XM) : yru (xlk (pL_lorries Post)) cut WW (n + 1) 65 L st M = j_ald 6 2 65 L st M (ykk (xlk (pL_lorries Post)) cut WW n) := yf rfl
set_option maxRecDepth 100000 in
theorem fL_lorries_67 (Post : XPo) (cut : List Nat) (WW : XK) (n : Nat) (L : XLs) (st : List XV) (M : XM) : yru (xlk (pL_lorries Post)) cut WW (n + 1) 67 L st M = j_ild 9 2 67 L st M (ykk (xlk (pL_lorries Post)) cut WW n) := yf rfl
set_option maxRecDepth 100000 in
theorem fL_lorries_69 (Post : XPo) (cut : List Nat) (WW : XK) (n : Nat) (L : XLs) (st : List XV) (M : XM) : yru (xlk (pL_lorries Post)) cut WW (n + 1) 69 L st M = j_iald 69 L st M (ykk (xlk (pL_lorries Post)) cut WW n) := yf rfl
set_option maxRecDepth 100000 in
theorem fL_lorries_70 (Post : XPo) (cut : List Nat) (WW : XK) (n : Nat) (L : XLs) (st : List XV) (M : XM) : yru (xlk (pL_lorries Post)) cut WW (n + 1) 70 L st M = j_ild 12 2 70 L st M (ykk (xlk (pL_lorries Post)) cut WW n) := yf rfl
set_option maxRecDepth 100000 in
theorem fL_lorries_72 (Post : XPo) (cut : List Nat) (WW : XK) (n : Nat) (L : XLs) (st : List XV) (M : XM) : yru (xlk (pL_lorries Post)) cut WW (n + 1) 72 L st M = j_ine 77 72 L st M (ykk (xlk (pL_lorries Post)) cut WW n) := yf rfl
set_option maxRecDepth 100000 in
theorem fL_lorries_75 (Post : XPo) (cut : List Nat) (WW : XK) (n : Nat) (L : XLs) (st : List XV) (M : XM) : yru (xlk (pL_lorries Post)) cut WW (n + 1) 75 L st M = j_c 1 1 75 L st M (ykk (xlk (pL_lorries Post)) cut WW n) := yf rfl
set_option maxRecDepth 100000 in
theorem fL_lorries_76 (Post : XPo) (cut : List Nat) (WW : XK) (n : Nat) (L : XLs) (st : List XV) (M : XM) : yru (xlk (pL_lorries Post)) cut WW (n + 1) 76 L st M = j_zret Post 76 L st M (ykk (xlk (pL_lorries Post)) cut WW n) := yf rfl
set_option maxRecDepth 100000 in
theorem fL_lorries_77 (Post : XPo) (cut : List Nat) (WW : XK) (n : Nat) (L : XLs) (st : List XV) (M : XM) : yru (xlk (pL_lorries Post)) cut WW (n + 1) 77 L st M = j_ald 3 1 77 L st M (ykk (xlk (pL_lorries Post)) cut WW n) := yf rfl
set_option maxRecDepth 100000 in
theorem fL_lorries_78 (Post : XPo) (cut : List Nat) (WW : XK) (n : Nat) (L : XLs) (st : List XV) (M : XM) : yru (xlk (pL_lorries Post)) cut WW (n + 1) 78 L st M = j_ald 4 2 78 L st M (ykk (xlk (pL_lorries Post)) cut WW n) := yf rfl
set_option maxRecDepth 100000 in
theorem fL_lorries_80 (Post : XPo) (cut : List Nat) (WW : XK) (n : Nat) (L : XLs) (st : List XV) (M : XM) : yru (xlk (pL_lorries Post)) cut WW (n + 1) 80 L st M = j_ald 6 2 80 L st M (ykk (xlk (pL_lorries Post)) cut WW n) := yf rfl
set_option maxRecDepth 100000 in
theorem fL_lorries_82 (Post : XPo) (cut : List Nat) (WW : XK) (n : Nat) (L : XLs) (st : List XV) (M : XM) : yru (xlk (pL_lorries Post)) cut WW (n + 1) 82 L st M = j_ild 9 2 82 L st M (ykk (xlk (pL_lorries Post)) cut WW n) := yf rfl
set_option maxRecDepth 100000 in
theorem fL_lorries_84 (Post : XPo) (cut : List Nat) (WW : XK) (n : Nat) (L : XLs) (st : List XV) (M : XM) : yru (xlk (pL_lorries Post)) cut WW (n + 1) 84 L st M = j_iald 84 L st M (ykk (xlk (pL_lorries Post)) cut WW n) := yf rfl
set_option maxRecDepth 100000 in
theorem fL_lorries_85 (Post : XPo) (cut : List Nat) (WW : XK) (n : Nat) (L : XLs) (st : List XV) (M : XM) : yru (xlk (pL_lorries Post)) cut WW (n + 1) 85 L st M = j_ild 12 2 85 L st M (ykk (xlk (pL_lorries Post)) cut WW n) := yf rfl
set_option maxRecDepth 100000 in
theorem fL_lorries_87 (Post : XPo) (cut : List Nat) (WW : XK) (n : Nat) (L : XLs) (st : List XV) (M : XM) : yru (xlk (pL_lorries Post)) cut WW (n + 1) 87 L st M = j_Sn 4 sL_drive 87 L st M (ykk (xlk (pL_lorries Post)) cut WW n) := yf rfl
set_option maxRecDepth 100000 in
theorem fL_lorries_90 (Post : XPo) (cut : List Nat) (WW : XK) (n : Nat) (L : XLs) (st : List XV) (M : XM) : yru (xlk (pL_lorries Post)) cut WW (n + 1) 90 L st M = j_ist 13 2 90 L st M (ykk (xlk (pL_lorries Post)) cut WW n) := yf rfl
set_option maxRecDepth 100000 in
theorem fL_lorries_92 (Post : XPo) (cut : List Nat) (WW : XK) (n : Nat) (L : XLs) (st : List XV) (M : XM) : yru (xlk (pL_lorries Post)) cut WW (n + 1) 92 L st M = j_ald 6 2 92 L st M (ykk (xlk (pL_lorries Post)) cut WW n) := yf rfl
set_option maxRecDepth 100000 in
theorem fL_lorries_94 (Post : XPo) (cut : List Nat) (WW : XK) (n : Nat) (L : XLs) (st : List XV) (M : XM) : yru (xlk (pL_lorries Post)) cut WW (n + 1) 94 L st M = j_ild 9 2 94 L st M (ykk (xlk (pL_lorries Post)) cut WW n) := yf rfl
set_option maxRecDepth 100000 in
theorem fL_lorries_96 (Post : XPo) (cut : List Nat) (WW : XK) (n : Nat) (L : XLs) (st : List XV) (M : XM) : yru (xlk (pL_lorries Post)) cut WW (n + 1) 96 L st M = j_ild 12 2 96 L st M (ykk (xlk (pL_lorries Post)) cut WW n) := yf rfl
set_option maxRecDepth 100000 in
theorem fL_lorries_98 (Post : XPo) (cut : List Nat) (WW : XK) (n : Nat) (L : XLs) (st : List XV) (M : XM) : yru (xlk (pL_lorries Post)) cut WW (n + 1) 98 L st M = j_iast 98 L st M (ykk (xlk (pL_lorries Post)) cut WW n) := yf rfl
set_option maxRecDepth 100000 in
theorem fL_lorries_99 (Post : XPo) (cut : List Nat) (WW : XK) (n : Nat) (L : XLs) (st : List XV) (M : XM) : yru (xlk (pL_lorries Post)) cut WW (n + 1) 99 L st M = j_ald 7 2 99 L st M (ykk (xlk (pL_lorries Post)) cut WW n) := yf rfl
set_option maxRecDepth 100000 in
theorem fL_lorries_101 (Post : XPo) (cut : List Nat) (WW : XK) (n : Nat) (L : XLs) (st : List XV) (M : XM) : yru (xlk (pL_lorries Post)) cut WW (n + 1) 101 L st M = j_ild 9 2 101 L st M (ykk (xlk (pL_lorries Post)) cut WW n) := yf rfl
set_option maxRecDepth 100000 in
theorem fL_lorries_103 (Post : XPo) (cut : List Nat) (WW : XK) (n : Nat) (L : XLs) (st : List XV) (M : XM) : yru (xlk (pL_lorries Post)) cut WW (n + 1) 103 L st M = j_ild 13 2 103 L st M (ykk (xlk (pL_lorries Post)) cut WW n) := yf rfl
set_option maxRecDepth 100000 in
theorem fL_lorries_105 (Post : XPo) (cut : List Nat) (WW : XK) (n : Nat) (L : XLs) (st : List XV) (M : XM) : yru (xlk (pL_lorries Post)) cut WW (n + 1) 105 L st M = j_iast 105 L st M (ykk (xlk (pL_lorries Post)) cut WW n) := yf rfl
set_option maxRecDepth 100000 in
theorem fL_lorries_106 (Post : XPo) (cut : List Nat) (WW : XK) (n : Nat) (L : XLs) (st : List XV) (M : XM) : yru (xlk (pL_lorries Post)) cut WW (n + 1) 106 L st M = j_ald 0 1 106 L st M (ykk (xlk (pL_lorries Post)) cut WW n) := yf rfl
set_option maxRecDepth 100000 in
theorem fL_lorries_107 (Post : XPo) (cut : List Nat) (WW : XK) (n : Nat) (L : XLs) (st : List XV) (M : XM) : yru (xlk (pL_lorries Post)) cut WW (n + 1) 107 L st M = j_ild 9 2 107 L st M (ykk (xlk (pL_lorries Post)) cut WW n) := yf rfl
set_option maxRecDepth 100000 in
theorem fL_lorries_109 (Post : XPo) (cut : List Nat) (WW : XK) (n : Nat) (L : XLs) (st : List XV) (M : XM) : yru (xlk (pL_lorries Post)) cut WW (n + 1) 109 L st M = j_ild 12 2 109 L st M (ykk (xlk (pL_lorries Post)) cut WW n) := yf rfl
set_option maxRecDepth 100000 in
theorem fL_lorries_111 (Post : XPo) (cut : List Nat) (WW : XK) (n : Nat) (L : XLs) (st : List XV) (M : XM) : yru (xlk (pL_lorries Post)) cut WW (n + 1) 111 L st M = j_V2 0 sX7_drive 111 L st M (ykk (xlk (pL_lorries Post)) cut WW n) := yf rfl
set_option maxRecDepth 100000 in
theorem fL_lorries_114 (Post : XPo) (cut : List Nat) (WW : XK) (n : Nat) (L : XLs) (st : List XV) (M : XM) : yru (xlk (pL_lorries Post)) cut WW (n + 1) 114 L st M = j_ild 13 2 114 L st M (ykk (xlk (pL_lorries Post)) cut WW n) := yf rfl
set_option maxRecDepth 100000 in
theorem fL_lorries_116 (Post : XPo) (cut : List Nat) (WW : XK) (n : Nat) (L : XLs) (st : List XV) (M : XM) : yru (xlk (pL_lorries Post)) cut WW (n + 1) 116 L st M = j_ine 123 116 L st M (ykk (xlk (pL_lorries Post)) cut WW n) := yf rfl
set_option maxRecDepth 100000 in
theorem fL_lorries_119 (Post : XPo) (cut : List Nat) (WW : XK) (n : Nat) (L : XLs) (st : List XV) (M : XM) : yru (xlk (pL_lorries Post)) cut WW (n + 1) 119 L st M = j_c 1 1 119 L st M (ykk (xlk (pL_lorries Post)) cut WW n) := yf rfl
set_option maxRecDepth 100000 in
theorem fL_lorries_120 (Post : XPo) (cut : List Nat) (WW : XK) (n : Nat) (L : XLs) (st : List XV) (M : XM) : yru (xlk (pL_lorries Post)) cut WW (n + 1) 120 L st M = j_goto 124 120 L st M (ykk (xlk (pL_lorries Post)) cut WW n) := yf rfl
set_option maxRecDepth 100000 in
theorem fL_lorries_123 (Post : XPo) (cut : List Nat) (WW : XK) (n : Nat) (L : XLs) (st : List XV) (M : XM) : yru (xlk (pL_lorries Post)) cut WW (n + 1) 123 L st M = j_c 0 1 123 L st M (ykk (xlk (pL_lorries Post)) cut WW n) := yf rfl
set_option maxRecDepth 100000 in
theorem fL_lorries_124 (Post : XPo) (cut : List Nat) (WW : XK) (n : Nat) (L : XLs) (st : List XV) (M : XM) : yru (xlk (pL_lorries Post)) cut WW (n + 1) 124 L st M = j_zret Post 124 L st M (ykk (xlk (pL_lorries Post)) cut WW n) := yf rfl
set_option maxRecDepth 100000 in
theorem fL_lorries_125 (Post : XPo) (cut : List Nat) (WW : XK) (n : Nat) (L : XLs) (st : List XV) (M : XM) : yru (xlk (pL_lorries Post)) cut WW (n + 1) 125 L st M = j_ald 7 2 125 L st M (ykk (xlk (pL_lorries Post)) cut WW n) := yf rfl
set_option maxRecDepth 100000 in
theorem fL_lorries_127 (Post : XPo) (cut : List Nat) (WW : XK) (n : Nat) (L : XLs) (st : List XV) (M : XM) : yru (xlk (pL_lorries Post)) cut WW (n + 1) 127 L st M = j_ild 9 2 127 L st M (ykk (xlk (pL_lorries Post)) cut WW n) := yf rfl
set_option maxRecDepth 100000 in
theorem fL_lorries_129 (Post : XPo) (cut : List Nat) (WW : XK) (n : Nat) (L : XLs) (st : List XV) (M : XM) : yru (xlk (pL_lorries Post)) cut WW (n + 1) 129 L st M = j_iald 129 L st M (ykk (xlk (pL_lorries Post)) cut WW n) := yf rfl
set_option maxRecDepth 100000 in
theorem fL_lorries_130 (Post : XPo) (cut : List Nat) (WW : XK) (n : Nat) (L : XLs) (st : List XV) (M : XM) : yru (xlk (pL_lorries Post)) cut WW (n + 1) 130 L st M = j_gt 146 130 L st M (ykk (xlk (pL_lorries Post)) cut WW n) := yf rfl
set_option maxRecDepth 100000 in
theorem fL_lorries_133 (Post : XPo) (cut : List Nat) (WW : XK) (n : Nat) (L : XLs) (st : List XV) (M : XM) : yru (xlk (pL_lorries Post)) cut WW (n + 1) 133 L st M = j_ald 6 2 133 L st M (ykk (xlk (pL_lorries Post)) cut WW n) := yf rfl
set_option maxRecDepth 100000 in
theorem fL_lorries_135 (Post : XPo) (cut : List Nat) (WW : XK) (n : Nat) (L : XLs) (st : List XV) (M : XM) : yru (xlk (pL_lorries Post)) cut WW (n + 1) 135 L st M = j_ild 9 2 135 L st M (ykk (xlk (pL_lorries Post)) cut WW n) := yf rfl
set_option maxRecDepth 100000 in
theorem fL_lorries_137 (Post : XPo) (cut : List Nat) (WW : XK) (n : Nat) (L : XLs) (st : List XV) (M : XM) : yru (xlk (pL_lorries Post)) cut WW (n + 1) 137 L st M = j_iald 137 L st M (ykk (xlk (pL_lorries Post)) cut WW n) := yf rfl
set_option maxRecDepth 100000 in
theorem fL_lorries_138 (Post : XPo) (cut : List Nat) (WW : XK) (n : Nat) (L : XLs) (st : List XV) (M : XM) : yru (xlk (pL_lorries Post)) cut WW (n + 1) 138 L st M = j_ald 5 2 138 L st M (ykk (xlk (pL_lorries Post)) cut WW n) := yf rfl
set_option maxRecDepth 100000 in
theorem fL_lorries_140 (Post : XPo) (cut : List Nat) (WW : XK) (n : Nat) (L : XLs) (st : List XV) (M : XM) : yru (xlk (pL_lorries Post)) cut WW (n + 1) 140 L st M = j_ild 10 2 140 L st M (ykk (xlk (pL_lorries Post)) cut WW n) := yf rfl
set_option maxRecDepth 100000 in
theorem fL_lorries_142 (Post : XPo) (cut : List Nat) (WW : XK) (n : Nat) (L : XLs) (st : List XV) (M : XM) : yru (xlk (pL_lorries Post)) cut WW (n + 1) 142 L st M = j_iald 142 L st M (ykk (xlk (pL_lorries Post)) cut WW n) := yf rfl
set_option maxRecDepth 100000 in
theorem fL_lorries_143 (Post : XPo) (cut : List Nat) (WW : XK) (n : Nat) (L : XLs) (st : List XV) (M : XM) : yru (xlk (pL_lorries Post)) cut WW (n + 1) 143 L st M = j_ieq 148 143 L st M (ykk (xlk (pL_lorries Post)) cut WW n) := yf rfl
set_option maxRecDepth 100000 in
theorem fL_lorries_146 (Post : XPo) (cut : List Nat) (WW : XK) (n : Nat) (L : XLs) (st : List XV) (M : XM) : yru (xlk (pL_lorries Post)) cut WW (n + 1) 146 L st M = j_c 1 1 146 L st M (ykk (xlk (pL_lorries Post)) cut WW n) := yf rfl
set_option maxRecDepth 100000 in
theorem fL_lorries_147 (Post : XPo) (cut : List Nat) (WW : XK) (n : Nat) (L : XLs) (st : List XV) (M : XM) : yru (xlk (pL_lorries Post)) cut WW (n + 1) 147 L st M = j_zret Post 147 L st M (ykk (xlk (pL_lorries Post)) cut WW n) := yf rfl
set_option maxRecDepth 100000 in
theorem fL_lorries_148 (Post : XPo) (cut : List Nat) (WW : XK) (n : Nat) (L : XLs) (st : List XV) (M : XM) : yru (xlk (pL_lorries Post)) cut WW (n + 1) 148 L st M = j_ild 11 2 148 L st M (ykk (xlk (pL_lorries Post)) cut WW n) := yf rfl
set_option maxRecDepth 100000 in
theorem fL_lorries_150 (Post : XPo) (cut : List Nat) (WW : XK) (n : Nat) (L : XLs) (st : List XV) (M : XM) : yru (xlk (pL_lorries Post)) cut WW (n + 1) 150 L st M = j_c 2 1 150 L st M (ykk (xlk (pL_lorries Post)) cut WW n) := yf rfl
set_option maxRecDepth 100000 in
theorem fL_lorries_151 (Post : XPo) (cut : List Nat) (WW : XK) (n : Nat) (L : XLs) (st : List XV) (M : XM) : yru (xlk (pL_lorries Post)) cut WW (n + 1) 151 L st M = j_ine 352 151 L st M (ykk (xlk (pL_lorries Post)) cut WW n) := yf rfl
set_option maxRecDepth 100000 in
theorem fL_lorries_154 (Post : XPo) (cut : List Nat) (WW : XK) (n : Nat) (L : XLs) (st : List XV) (M : XM) : yru (xlk (pL_lorries Post)) cut WW (n + 1) 154 L st M = j_ild 2 1 154 L st M (ykk (xlk (pL_lorries Post)) cut WW n) := yf rfl
set_option maxRecDepth 100000 in
theorem fL_lorries_155 (Post : XPo) (cut : List Nat) (WW : XK) (n : Nat) (L : XLs) (st : List XV) (M : XM) : yru (xlk (pL_lorries Post)) cut WW (n + 1) 155 L st M = j_c 5 1 155 L st M (ykk (xlk (pL_lorries Post)) cut WW n) := yf rfl
set_option maxRecDepth 100000 in
theorem fL_lorries_156 (Post : XPo) (cut : List Nat) (WW : XK) (n : Nat) (L : XLs) (st : List XV) (M : XM) : yru (xlk (pL_lorries Post)) cut WW (n + 1) 156 L st M = j_shr 156 L st M (ykk (xlk (pL_lorries Post)) cut WW n) := yf rfl
set_option maxRecDepth 100000 in
theorem fL_lorries_157 (Post : XPo) (cut : List Nat) (WW : XK) (n : Nat) (L : XLs) (st : List XV) (M : XM) : yru (xlk (pL_lorries Post)) cut WW (n + 1) 157 L st M = j_c 3 1 157 L st M (ykk (xlk (pL_lorries Post)) cut WW n) := yf rfl
set_option maxRecDepth 100000 in
theorem fL_lorries_158 (Post : XPo) (cut : List Nat) (WW : XK) (n : Nat) (L : XLs) (st : List XV) (M : XM) : yru (xlk (pL_lorries Post)) cut WW (n + 1) 158 L st M = j_Sn 2 sL_at 158 L st M (ykk (xlk (pL_lorries Post)) cut WW n) := yf rfl
set_option maxRecDepth 100000 in
theorem fL_lorries_161 (Post : XPo) (cut : List Nat) (WW : XK) (n : Nat) (L : XLs) (st : List XV) (M : XM) : yru (xlk (pL_lorries Post)) cut WW (n + 1) 161 L st M = j_ist 12 2 161 L st M (ykk (xlk (pL_lorries Post)) cut WW n) := yf rfl
set_option maxRecDepth 100000 in
theorem fL_lorries_163 (Post : XPo) (cut : List Nat) (WW : XK) (n : Nat) (L : XLs) (st : List XV) (M : XM) : yru (xlk (pL_lorries Post)) cut WW (n + 1) 163 L st M = j_c 1 1 163 L st M (ykk (xlk (pL_lorries Post)) cut WW n) := yf rfl
set_option maxRecDepth 100000 in
theorem fL_lorries_164 (Post : XPo) (cut : List Nat) (WW : XK) (n : Nat) (L : XLs) (st : List XV) (M : XM) : yru (xlk (pL_lorries Post)) cut WW (n + 1) 164 L st M = j_ild 2 1 164 L st M (ykk (xlk (pL_lorries Post)) cut WW n) := yf rfl
set_option maxRecDepth 100000 in
theorem fL_lorries_165 (Post : XPo) (cut : List Nat) (WW : XK) (n : Nat) (L : XLs) (st : List XV) (M : XM) : yru (xlk (pL_lorries Post)) cut WW (n + 1) 165 L st M = j_c 7 2 165 L st M (ykk (xlk (pL_lorries Post)) cut WW n) := yf rfl
set_option maxRecDepth 100000 in
theorem fL_lorries_167 (Post : XPo) (cut : List Nat) (WW : XK) (n : Nat) (L : XLs) (st : List XV) (M : XM) : yru (xlk (pL_lorries Post)) cut WW (n + 1) 167 L st M = j_shr 167 L st M (ykk (xlk (pL_lorries Post)) cut WW n) := yf rfl
set_option maxRecDepth 100000 in
theorem fL_lorries_168 (Post : XPo) (cut : List Nat) (WW : XK) (n : Nat) (L : XLs) (st : List XV) (M : XM) : yru (xlk (pL_lorries Post)) cut WW (n + 1) 168 L st M = j_c 30 2 168 L st M (ykk (xlk (pL_lorries Post)) cut WW n) := yf rfl
set_option maxRecDepth 100000 in
theorem fL_lorries_170 (Post : XPo) (cut : List Nat) (WW : XK) (n : Nat) (L : XLs) (st : List XV) (M : XM) : yru (xlk (pL_lorries Post)) cut WW (n + 1) 170 L st M = j_Sn 2 sL_at 170 L st M (ykk (xlk (pL_lorries Post)) cut WW n) := yf rfl
set_option maxRecDepth 100000 in
theorem fL_lorries_173 (Post : XPo) (cut : List Nat) (WW : XK) (n : Nat) (L : XLs) (st : List XV) (M : XM) : yru (xlk (pL_lorries Post)) cut WW (n + 1) 173 L st M = j_add 173 L st M (ykk (xlk (pL_lorries Post)) cut WW n) := yf rfl
set_option maxRecDepth 100000 in
theorem fL_lorries_174 (Post : XPo) (cut : List Nat) (WW : XK) (n : Nat) (L : XLs) (st : List XV) (M : XM) : yru (xlk (pL_lorries Post)) cut WW (n + 1) 174 L st M = j_ist 13 2 174 L st M (ykk (xlk (pL_lorries Post)) cut WW n) := yf rfl
set_option maxRecDepth 100000 in
theorem fL_lorries_176 (Post : XPo) (cut : List Nat) (WW : XK) (n : Nat) (L : XLs) (st : List XV) (M : XM) : yru (xlk (pL_lorries Post)) cut WW (n + 1) 176 L st M = j_ald 3 1 176 L st M (ykk (xlk (pL_lorries Post)) cut WW n) := yf rfl
set_option maxRecDepth 100000 in
theorem fL_lorries_177 (Post : XPo) (cut : List Nat) (WW : XK) (n : Nat) (L : XLs) (st : List XV) (M : XM) : yru (xlk (pL_lorries Post)) cut WW (n + 1) 177 L st M = j_ald 8 2 177 L st M (ykk (xlk (pL_lorries Post)) cut WW n) := yf rfl
set_option maxRecDepth 100000 in
theorem fL_lorries_179 (Post : XPo) (cut : List Nat) (WW : XK) (n : Nat) (L : XLs) (st : List XV) (M : XM) : yru (xlk (pL_lorries Post)) cut WW (n + 1) 179 L st M = j_ild 10 2 179 L st M (ykk (xlk (pL_lorries Post)) cut WW n) := yf rfl
set_option maxRecDepth 100000 in
theorem fL_lorries_181 (Post : XPo) (cut : List Nat) (WW : XK) (n : Nat) (L : XLs) (st : List XV) (M : XM) : yru (xlk (pL_lorries Post)) cut WW (n + 1) 181 L st M = j_ild 12 2 181 L st M (ykk (xlk (pL_lorries Post)) cut WW n) := yf rfl
set_option maxRecDepth 100000 in
theorem fL_lorries_183 (Post : XPo) (cut : List Nat) (WW : XK) (n : Nat) (L : XLs) (st : List XV) (M : XM) : yru (xlk (pL_lorries Post)) cut WW (n + 1) 183 L st M = j_Sn 4 sL_meals 183 L st M (ykk (xlk (pL_lorries Post)) cut WW n) := yf rfl
set_option maxRecDepth 100000 in
theorem fL_lorries_186 (Post : XPo) (cut : List Nat) (WW : XK) (n : Nat) (L : XLs) (st : List XV) (M : XM) : yru (xlk (pL_lorries Post)) cut WW (n + 1) 186 L st M = j_ild 13 2 186 L st M (ykk (xlk (pL_lorries Post)) cut WW n) := yf rfl
set_option maxRecDepth 100000 in
theorem fL_lorries_188 (Post : XPo) (cut : List Nat) (WW : XK) (n : Nat) (L : XLs) (st : List XV) (M : XM) : yru (xlk (pL_lorries Post)) cut WW (n + 1) 188 L st M = j_ilt 220 188 L st M (ykk (xlk (pL_lorries Post)) cut WW n) := yf rfl
set_option maxRecDepth 100000 in
theorem fL_lorries_191 (Post : XPo) (cut : List Nat) (WW : XK) (n : Nat) (L : XLs) (st : List XV) (M : XM) : yru (xlk (pL_lorries Post)) cut WW (n + 1) 191 L st M = j_ald 3 1 191 L st M (ykk (xlk (pL_lorries Post)) cut WW n) := yf rfl
set_option maxRecDepth 100000 in
theorem fL_lorries_192 (Post : XPo) (cut : List Nat) (WW : XK) (n : Nat) (L : XLs) (st : List XV) (M : XM) : yru (xlk (pL_lorries Post)) cut WW (n + 1) 192 L st M = j_ald 8 2 192 L st M (ykk (xlk (pL_lorries Post)) cut WW n) := yf rfl
set_option maxRecDepth 100000 in
theorem fL_lorries_194 (Post : XPo) (cut : List Nat) (WW : XK) (n : Nat) (L : XLs) (st : List XV) (M : XM) : yru (xlk (pL_lorries Post)) cut WW (n + 1) 194 L st M = j_c 4 1 194 L st M (ykk (xlk (pL_lorries Post)) cut WW n) := yf rfl
set_option maxRecDepth 100000 in
theorem fL_lorries_195 (Post : XPo) (cut : List Nat) (WW : XK) (n : Nat) (L : XLs) (st : List XV) (M : XM) : yru (xlk (pL_lorries Post)) cut WW (n + 1) 195 L st M = j_ild 9 2 195 L st M (ykk (xlk (pL_lorries Post)) cut WW n) := yf rfl
set_option maxRecDepth 100000 in
theorem fL_lorries_197 (Post : XPo) (cut : List Nat) (WW : XK) (n : Nat) (L : XLs) (st : List XV) (M : XM) : yru (xlk (pL_lorries Post)) cut WW (n + 1) 197 L st M = j_add 197 L st M (ykk (xlk (pL_lorries Post)) cut WW n) := yf rfl
set_option maxRecDepth 100000 in
theorem fL_lorries_198 (Post : XPo) (cut : List Nat) (WW : XK) (n : Nat) (L : XLs) (st : List XV) (M : XM) : yru (xlk (pL_lorries Post)) cut WW (n + 1) 198 L st M = j_Sn 3 sL_all 198 L st M (ykk (xlk (pL_lorries Post)) cut WW n) := yf rfl
set_option maxRecDepth 100000 in
theorem fL_lorries_201 (Post : XPo) (cut : List Nat) (WW : XK) (n : Nat) (L : XLs) (st : List XV) (M : XM) : yru (xlk (pL_lorries Post)) cut WW (n + 1) 201 L st M = j_ild 13 2 201 L st M (ykk (xlk (pL_lorries Post)) cut WW n) := yf rfl
set_option maxRecDepth 100000 in
theorem fL_lorries_203 (Post : XPo) (cut : List Nat) (WW : XK) (n : Nat) (L : XLs) (st : List XV) (M : XM) : yru (xlk (pL_lorries Post)) cut WW (n + 1) 203 L st M = j_add 203 L st M (ykk (xlk (pL_lorries Post)) cut WW n) := yf rfl
set_option maxRecDepth 100000 in
theorem fL_lorries_204 (Post : XPo) (cut : List Nat) (WW : XK) (n : Nat) (L : XLs) (st : List XV) (M : XM) : yru (xlk (pL_lorries Post)) cut WW (n + 1) 204 L st M = j_ald 3 1 204 L st M (ykk (xlk (pL_lorries Post)) cut WW n) := yf rfl
set_option maxRecDepth 100000 in
theorem fL_lorries_205 (Post : XPo) (cut : List Nat) (WW : XK) (n : Nat) (L : XLs) (st : List XV) (M : XM) : yru (xlk (pL_lorries Post)) cut WW (n + 1) 205 L st M = j_c 11 2 205 L st M (ykk (xlk (pL_lorries Post)) cut WW n) := yf rfl
set_option maxRecDepth 100000 in
theorem fL_lorries_207 (Post : XPo) (cut : List Nat) (WW : XK) (n : Nat) (L : XLs) (st : List XV) (M : XM) : yru (xlk (pL_lorries Post)) cut WW (n + 1) 207 L st M = j_iald 207 L st M (ykk (xlk (pL_lorries Post)) cut WW n) := yf rfl
set_option maxRecDepth 100000 in
theorem fL_lorries_208 (Post : XPo) (cut : List Nat) (WW : XK) (n : Nat) (L : XLs) (st : List XV) (M : XM) : yru (xlk (pL_lorries Post)) cut WW (n + 1) 208 L st M = j_igt 220 208 L st M (ykk (xlk (pL_lorries Post)) cut WW n) := yf rfl
set_option maxRecDepth 100000 in
theorem fL_lorries_211 (Post : XPo) (cut : List Nat) (WW : XK) (n : Nat) (L : XLs) (st : List XV) (M : XM) : yru (xlk (pL_lorries Post)) cut WW (n + 1) 211 L st M = j_ald 3 1 211 L st M (ykk (xlk (pL_lorries Post)) cut WW n) := yf rfl
set_option maxRecDepth 100000 in
theorem fL_lorries_212 (Post : XPo) (cut : List Nat) (WW : XK) (n : Nat) (L : XLs) (st : List XV) (M : XM) : yru (xlk (pL_lorries Post)) cut WW (n + 1) 212 L st M = j_c 12 2 212 L st M (ykk (xlk (pL_lorries Post)) cut WW n) := yf rfl
set_option maxRecDepth 100000 in
theorem fL_lorries_214 (Post : XPo) (cut : List Nat) (WW : XK) (n : Nat) (L : XLs) (st : List XV) (M : XM) : yru (xlk (pL_lorries Post)) cut WW (n + 1) 214 L st M = j_iald 214 L st M (ykk (xlk (pL_lorries Post)) cut WW n) := yf rfl
set_option maxRecDepth 100000 in
theorem fL_lorries_215 (Post : XPo) (cut : List Nat) (WW : XK) (n : Nat) (L : XLs) (st : List XV) (M : XM) : yru (xlk (pL_lorries Post)) cut WW (n + 1) 215 L st M = j_c 38 2 215 L st M (ykk (xlk (pL_lorries Post)) cut WW n) := yf rfl
set_option maxRecDepth 100000 in
theorem fL_lorries_217 (Post : XPo) (cut : List Nat) (WW : XK) (n : Nat) (L : XLs) (st : List XV) (M : XM) : yru (xlk (pL_lorries Post)) cut WW (n + 1) 217 L st M = j_ile 222 217 L st M (ykk (xlk (pL_lorries Post)) cut WW n) := yf rfl
set_option maxRecDepth 100000 in
theorem fL_lorries_220 (Post : XPo) (cut : List Nat) (WW : XK) (n : Nat) (L : XLs) (st : List XV) (M : XM) : yru (xlk (pL_lorries Post)) cut WW (n + 1) 220 L st M = j_c 1 1 220 L st M (ykk (xlk (pL_lorries Post)) cut WW n) := yf rfl
set_option maxRecDepth 100000 in
theorem fL_lorries_221 (Post : XPo) (cut : List Nat) (WW : XK) (n : Nat) (L : XLs) (st : List XV) (M : XM) : yru (xlk (pL_lorries Post)) cut WW (n + 1) 221 L st M = j_zret Post 221 L st M (ykk (xlk (pL_lorries Post)) cut WW n) := yf rfl
set_option maxRecDepth 100000 in
theorem fL_lorries_222 (Post : XPo) (cut : List Nat) (WW : XK) (n : Nat) (L : XLs) (st : List XV) (M : XM) : yru (xlk (pL_lorries Post)) cut WW (n + 1) 222 L st M = j_ild 13 2 222 L st M (ykk (xlk (pL_lorries Post)) cut WW n) := yf rfl
set_option maxRecDepth 100000 in
theorem fL_lorries_224 (Post : XPo) (cut : List Nat) (WW : XK) (n : Nat) (L : XLs) (st : List XV) (M : XM) : yru (xlk (pL_lorries Post)) cut WW (n + 1) 224 L st M = j_ist 14 2 224 L st M (ykk (xlk (pL_lorries Post)) cut WW n) := yf rfl
set_option maxRecDepth 100000 in
theorem fL_lorries_226 (Post : XPo) (cut : List Nat) (WW : XK) (n : Nat) (L : XLs) (st : List XV) (M : XM) : yru (xlk (pL_lorries Post)) cut WW (n + 1) 226 L st M = j_ild 14 2 226 L st M (ykk (xlk (pL_lorries Post)) cut WW n) := yf rfl
set_option maxRecDepth 100000 in
theorem fL_lorries_228 (Post : XPo) (cut : List Nat) (WW : XK) (n : Nat) (L : XLs) (st : List XV) (M : XM) : yru (xlk (pL_lorries Post)) cut WW (n + 1) 228 L st M = j_le 321 228 L st M (ykk (xlk (pL_lorries Post)) cut WW n) := yf rfl
set_option maxRecDepth 100000 in
theorem fL_lorries_231 (Post : XPo) (cut : List Nat) (WW : XK) (n : Nat) (L : XLs) (st : List XV) (M : XM) : yru (xlk (pL_lorries Post)) cut WW (n + 1) 231 L st M = j_ald 3 1 231 L st M (ykk (xlk (pL_lorries Post)) cut WW n) := yf rfl
set_option maxRecDepth 100000 in
theorem fL_lorries_232 (Post : XPo) (cut : List Nat) (WW : XK) (n : Nat) (L : XLs) (st : List XV) (M : XM) : yru (xlk (pL_lorries Post)) cut WW (n + 1) 232 L st M = j_ald 8 2 232 L st M (ykk (xlk (pL_lorries Post)) cut WW n) := yf rfl
set_option maxRecDepth 100000 in
theorem fL_lorries_234 (Post : XPo) (cut : List Nat) (WW : XK) (n : Nat) (L : XLs) (st : List XV) (M : XM) : yru (xlk (pL_lorries Post)) cut WW (n + 1) 234 L st M = j_ild 10 2 234 L st M (ykk (xlk (pL_lorries Post)) cut WW n) := yf rfl
set_option maxRecDepth 100000 in
theorem fL_lorries_236 (Post : XPo) (cut : List Nat) (WW : XK) (n : Nat) (L : XLs) (st : List XV) (M : XM) : yru (xlk (pL_lorries Post)) cut WW (n + 1) 236 L st M = j_c 1 1 236 L st M (ykk (xlk (pL_lorries Post)) cut WW n) := yf rfl
set_option maxRecDepth 100000 in
theorem fL_lorries_237 (Post : XPo) (cut : List Nat) (WW : XK) (n : Nat) (L : XLs) (st : List XV) (M : XM) : yru (xlk (pL_lorries Post)) cut WW (n + 1) 237 L st M = j_ild 12 2 237 L st M (ykk (xlk (pL_lorries Post)) cut WW n) := yf rfl
set_option maxRecDepth 100000 in
theorem fL_lorries_239 (Post : XPo) (cut : List Nat) (WW : XK) (n : Nat) (L : XLs) (st : List XV) (M : XM) : yru (xlk (pL_lorries Post)) cut WW (n + 1) 239 L st M = j_shl1 239 L st M (ykk (xlk (pL_lorries Post)) cut WW n) := yf rfl
set_option maxRecDepth 100000 in
theorem fL_lorries_240 (Post : XPo) (cut : List Nat) (WW : XK) (n : Nat) (L : XLs) (st : List XV) (M : XM) : yru (xlk (pL_lorries Post)) cut WW (n + 1) 240 L st M = j_Sn 4 sL_first 240 L st M (ykk (xlk (pL_lorries Post)) cut WW n) := yf rfl
set_option maxRecDepth 100000 in
theorem fL_lorries_243 (Post : XPo) (cut : List Nat) (WW : XK) (n : Nat) (L : XLs) (st : List XV) (M : XM) : yru (xlk (pL_lorries Post)) cut WW (n + 1) 243 L st M = j_ist 15 2 243 L st M (ykk (xlk (pL_lorries Post)) cut WW n) := yf rfl
set_option maxRecDepth 100000 in
theorem fL_lorries_245 (Post : XPo) (cut : List Nat) (WW : XK) (n : Nat) (L : XLs) (st : List XV) (M : XM) : yru (xlk (pL_lorries Post)) cut WW (n + 1) 245 L st M = j_ald 8 2 245 L st M (ykk (xlk (pL_lorries Post)) cut WW n) := yf rfl
set_option maxRecDepth 100000 in
theorem fL_lorries_247 (Post : XPo) (cut : List Nat) (WW : XK) (n : Nat) (L : XLs) (st : List XV) (M : XM) : yru (xlk (pL_lorries Post)) cut WW (n + 1) 247 L st M = j_ild 15 2 247 L st M (ykk (xlk (pL_lorries Post)) cut WW n) := yf rfl
set_option maxRecDepth 100000 in
theorem fL_lorries_249 (Post : XPo) (cut : List Nat) (WW : XK) (n : Nat) (L : XLs) (st : List XV) (M : XM) : yru (xlk (pL_lorries Post)) cut WW (n + 1) 249 L st M = j_iald 249 L st M (ykk (xlk (pL_lorries Post)) cut WW n) := yf rfl
set_option maxRecDepth 100000 in
theorem fL_lorries_250 (Post : XPo) (cut : List Nat) (WW : XK) (n : Nat) (L : XLs) (st : List XV) (M : XM) : yru (xlk (pL_lorries Post)) cut WW (n + 1) 250 L st M = j_c 17 2 250 L st M (ykk (xlk (pL_lorries Post)) cut WW n) := yf rfl
set_option maxRecDepth 100000 in
theorem fL_lorries_252 (Post : XPo) (cut : List Nat) (WW : XK) (n : Nat) (L : XLs) (st : List XV) (M : XM) : yru (xlk (pL_lorries Post)) cut WW (n + 1) 252 L st M = j_shr 252 L st M (ykk (xlk (pL_lorries Post)) cut WW n) := yf rfl
set_option maxRecDepth 100000 in
theorem fL_lorries_253 (Post : XPo) (cut : List Nat) (WW : XK) (n : Nat) (L : XLs) (st : List XV) (M : XM) : yru (xlk (pL_lorries Post)) cut WW (n + 1) 253 L st M = j_ild 14 2 253 L st M (ykk (xlk (pL_lorries Post)) cut WW n) := yf rfl
set_option maxRecDepth 100000 in
theorem fL_lorries_255 (Post : XPo) (cut : List Nat) (WW : XK) (n : Nat) (L : XLs) (st : List XV) (M : XM) : yru (xlk (pL_lorries Post)) cut WW (n + 1) 255 L st M = j_ige 269 255 L st M (ykk (xlk (pL_lorries Post)) cut WW n) := yf rfl
set_option maxRecDepth 100000 in
theorem fL_lorries_258 (Post : XPo) (cut : List Nat) (WW : XK) (n : Nat) (L : XLs) (st : List XV) (M : XM) : yru (xlk (pL_lorries Post)) cut WW (n + 1) 258 L st M = j_ald 8 2 258 L st M (ykk (xlk (pL_lorries Post)) cut WW n) := yf rfl
set_option maxRecDepth 100000 in
theorem fL_lorries_260 (Post : XPo) (cut : List Nat) (WW : XK) (n : Nat) (L : XLs) (st : List XV) (M : XM) : yru (xlk (pL_lorries Post)) cut WW (n + 1) 260 L st M = j_ild 15 2 260 L st M (ykk (xlk (pL_lorries Post)) cut WW n) := yf rfl
set_option maxRecDepth 100000 in
theorem fL_lorries_262 (Post : XPo) (cut : List Nat) (WW : XK) (n : Nat) (L : XLs) (st : List XV) (M : XM) : yru (xlk (pL_lorries Post)) cut WW (n + 1) 262 L st M = j_iald 262 L st M (ykk (xlk (pL_lorries Post)) cut WW n) := yf rfl
set_option maxRecDepth 100000 in
theorem fL_lorries_263 (Post : XPo) (cut : List Nat) (WW : XK) (n : Nat) (L : XLs) (st : List XV) (M : XM) : yru (xlk (pL_lorries Post)) cut WW (n + 1) 263 L st M = j_c 17 2 263 L st M (ykk (xlk (pL_lorries Post)) cut WW n) := yf rfl
set_option maxRecDepth 100000 in
theorem fL_lorries_265 (Post : XPo) (cut : List Nat) (WW : XK) (n : Nat) (L : XLs) (st : List XV) (M : XM) : yru (xlk (pL_lorries Post)) cut WW (n + 1) 265 L st M = j_shr 265 L st M (ykk (xlk (pL_lorries Post)) cut WW n) := yf rfl
set_option maxRecDepth 100000 in
theorem fL_lorries_266 (Post : XPo) (cut : List Nat) (WW : XK) (n : Nat) (L : XLs) (st : List XV) (M : XM) : yru (xlk (pL_lorries Post)) cut WW (n + 1) 266 L st M = j_goto 271 266 L st M (ykk (xlk (pL_lorries Post)) cut WW n) := yf rfl
set_option maxRecDepth 100000 in
theorem fL_lorries_269 (Post : XPo) (cut : List Nat) (WW : XK) (n : Nat) (L : XLs) (st : List XV) (M : XM) : yru (xlk (pL_lorries Post)) cut WW (n + 1) 269 L st M = j_ild 14 2 269 L st M (ykk (xlk (pL_lorries Post)) cut WW n) := yf rfl
set_option maxRecDepth 100000 in
theorem fL_lorries_271 (Post : XPo) (cut : List Nat) (WW : XK) (n : Nat) (L : XLs) (st : List XV) (M : XM) : yru (xlk (pL_lorries Post)) cut WW (n + 1) 271 L st M = j_ist 16 2 271 L st M (ykk (xlk (pL_lorries Post)) cut WW n) := yf rfl
set_option maxRecDepth 100000 in
theorem fL_lorries_273 (Post : XPo) (cut : List Nat) (WW : XK) (n : Nat) (L : XLs) (st : List XV) (M : XM) : yru (xlk (pL_lorries Post)) cut WW (n + 1) 273 L st M = j_ald 8 2 273 L st M (ykk (xlk (pL_lorries Post)) cut WW n) := yf rfl
set_option maxRecDepth 100000 in
theorem fL_lorries_275 (Post : XPo) (cut : List Nat) (WW : XK) (n : Nat) (L : XLs) (st : List XV) (M : XM) : yru (xlk (pL_lorries Post)) cut WW (n + 1) 275 L st M = j_ild 15 2 275 L st M (ykk (xlk (pL_lorries Post)) cut WW n) := yf rfl
set_option maxRecDepth 100000 in
theorem fL_lorries_277 (Post : XPo) (cut : List Nat) (WW : XK) (n : Nat) (L : XLs) (st : List XV) (M : XM) : yru (xlk (pL_lorries Post)) cut WW (n + 1) 277 L st M = j_iald 277 L st M (ykk (xlk (pL_lorries Post)) cut WW n) := yf rfl
set_option maxRecDepth 100000 in
theorem fL_lorries_278 (Post : XPo) (cut : List Nat) (WW : XK) (n : Nat) (L : XLs) (st : List XV) (M : XM) : yru (xlk (pL_lorries Post)) cut WW (n + 1) 278 L st M = j_c 131071 2 278 L st M (ykk (xlk (pL_lorries Post)) cut WW n) := yf rfl
set_option maxRecDepth 100000 in
theorem fL_lorries_280 (Post : XPo) (cut : List Nat) (WW : XK) (n : Nat) (L : XLs) (st : List XV) (M : XM) : yru (xlk (pL_lorries Post)) cut WW (n + 1) 280 L st M = j_and 131072 280 L st M (ykk (xlk (pL_lorries Post)) cut WW n) := yf rfl
set_option maxRecDepth 100000 in
theorem fL_lorries_281 (Post : XPo) (cut : List Nat) (WW : XK) (n : Nat) (L : XLs) (st : List XV) (M : XM) : yru (xlk (pL_lorries Post)) cut WW (n + 1) 281 L st M = j_ild 10 2 281 L st M (ykk (xlk (pL_lorries Post)) cut WW n) := yf rfl
set_option maxRecDepth 100000 in
theorem fL_lorries_283 (Post : XPo) (cut : List Nat) (WW : XK) (n : Nat) (L : XLs) (st : List XV) (M : XM) : yru (xlk (pL_lorries Post)) cut WW (n + 1) 283 L st M = j_sub 283 L st M (ykk (xlk (pL_lorries Post)) cut WW n) := yf rfl
set_option maxRecDepth 100000 in
theorem fL_lorries_284 (Post : XPo) (cut : List Nat) (WW : XK) (n : Nat) (L : XLs) (st : List XV) (M : XM) : yru (xlk (pL_lorries Post)) cut WW (n + 1) 284 L st M = j_c 4 1 284 L st M (ykk (xlk (pL_lorries Post)) cut WW n) := yf rfl
set_option maxRecDepth 100000 in
theorem fL_lorries_285 (Post : XPo) (cut : List Nat) (WW : XK) (n : Nat) (L : XLs) (st : List XV) (M : XM) : yru (xlk (pL_lorries Post)) cut WW (n + 1) 285 L st M = j_add 285 L st M (ykk (xlk (pL_lorries Post)) cut WW n) := yf rfl
set_option maxRecDepth 100000 in
theorem fL_lorries_286 (Post : XPo) (cut : List Nat) (WW : XK) (n : Nat) (L : XLs) (st : List XV) (M : XM) : yru (xlk (pL_lorries Post)) cut WW (n + 1) 286 L st M = j_ild 9 2 286 L st M (ykk (xlk (pL_lorries Post)) cut WW n) := yf rfl
set_option maxRecDepth 100000 in
theorem fL_lorries_288 (Post : XPo) (cut : List Nat) (WW : XK) (n : Nat) (L : XLs) (st : List XV) (M : XM) : yru (xlk (pL_lorries Post)) cut WW (n + 1) 288 L st M = j_add 288 L st M (ykk (xlk (pL_lorries Post)) cut WW n) := yf rfl
set_option maxRecDepth 100000 in
theorem fL_lorries_289 (Post : XPo) (cut : List Nat) (WW : XK) (n : Nat) (L : XLs) (st : List XV) (M : XM) : yru (xlk (pL_lorries Post)) cut WW (n + 1) 289 L st M = j_ist 17 2 289 L st M (ykk (xlk (pL_lorries Post)) cut WW n) := yf rfl
set_option maxRecDepth 100000 in
theorem fL_lorries_291 (Post : XPo) (cut : List Nat) (WW : XK) (n : Nat) (L : XLs) (st : List XV) (M : XM) : yru (xlk (pL_lorries Post)) cut WW (n + 1) 291 L st M = j_ald 3 1 291 L st M (ykk (xlk (pL_lorries Post)) cut WW n) := yf rfl
set_option maxRecDepth 100000 in
theorem fL_lorries_292 (Post : XPo) (cut : List Nat) (WW : XK) (n : Nat) (L : XLs) (st : List XV) (M : XM) : yru (xlk (pL_lorries Post)) cut WW (n + 1) 292 L st M = j_ald 8 2 292 L st M (ykk (xlk (pL_lorries Post)) cut WW n) := yf rfl
set_option maxRecDepth 100000 in
theorem fL_lorries_294 (Post : XPo) (cut : List Nat) (WW : XK) (n : Nat) (L : XLs) (st : List XV) (M : XM) : yru (xlk (pL_lorries Post)) cut WW (n + 1) 294 L st M = j_ild 15 2 294 L st M (ykk (xlk (pL_lorries Post)) cut WW n) := yf rfl
set_option maxRecDepth 100000 in
theorem fL_lorries_296 (Post : XPo) (cut : List Nat) (WW : XK) (n : Nat) (L : XLs) (st : List XV) (M : XM) : yru (xlk (pL_lorries Post)) cut WW (n + 1) 296 L st M = j_ild 16 2 296 L st M (ykk (xlk (pL_lorries Post)) cut WW n) := yf rfl
set_option maxRecDepth 100000 in
theorem fL_lorries_298 (Post : XPo) (cut : List Nat) (WW : XK) (n : Nat) (L : XLs) (st : List XV) (M : XM) : yru (xlk (pL_lorries Post)) cut WW (n + 1) 298 L st M = j_Sn 4 sL_less 298 L st M (ykk (xlk (pL_lorries Post)) cut WW n) := yf rfl
set_option maxRecDepth 100000 in
theorem fL_lorries_301 (Post : XPo) (cut : List Nat) (WW : XK) (n : Nat) (L : XLs) (st : List XV) (M : XM) : yru (xlk (pL_lorries Post)) cut WW (n + 1) 301 L st M = j_ald 3 1 301 L st M (ykk (xlk (pL_lorries Post)) cut WW n) := yf rfl
set_option maxRecDepth 100000 in
theorem fL_lorries_302 (Post : XPo) (cut : List Nat) (WW : XK) (n : Nat) (L : XLs) (st : List XV) (M : XM) : yru (xlk (pL_lorries Post)) cut WW (n + 1) 302 L st M = j_ald 8 2 302 L st M (ykk (xlk (pL_lorries Post)) cut WW n) := yf rfl
set_option maxRecDepth 100000 in
theorem fL_lorries_304 (Post : XPo) (cut : List Nat) (WW : XK) (n : Nat) (L : XLs) (st : List XV) (M : XM) : yru (xlk (pL_lorries Post)) cut WW (n + 1) 304 L st M = j_ild 17 2 304 L st M (ykk (xlk (pL_lorries Post)) cut WW n) := yf rfl
set_option maxRecDepth 100000 in
theorem fL_lorries_306 (Post : XPo) (cut : List Nat) (WW : XK) (n : Nat) (L : XLs) (st : List XV) (M : XM) : yru (xlk (pL_lorries Post)) cut WW (n + 1) 306 L st M = j_ild 16 2 306 L st M (ykk (xlk (pL_lorries Post)) cut WW n) := yf rfl
set_option maxRecDepth 100000 in
theorem fL_lorries_308 (Post : XPo) (cut : List Nat) (WW : XK) (n : Nat) (L : XLs) (st : List XV) (M : XM) : yru (xlk (pL_lorries Post)) cut WW (n + 1) 308 L st M = j_Sn 4 sL_put 308 L st M (ykk (xlk (pL_lorries Post)) cut WW n) := yf rfl
set_option maxRecDepth 100000 in
theorem fL_lorries_311 (Post : XPo) (cut : List Nat) (WW : XK) (n : Nat) (L : XLs) (st : List XV) (M : XM) : yru (xlk (pL_lorries Post)) cut WW (n + 1) 311 L st M = j_ild 14 2 311 L st M (ykk (xlk (pL_lorries Post)) cut WW n) := yf rfl
set_option maxRecDepth 100000 in
theorem fL_lorries_313 (Post : XPo) (cut : List Nat) (WW : XK) (n : Nat) (L : XLs) (st : List XV) (M : XM) : yru (xlk (pL_lorries Post)) cut WW (n + 1) 313 L st M = j_ild 16 2 313 L st M (ykk (xlk (pL_lorries Post)) cut WW n) := yf rfl
set_option maxRecDepth 100000 in
theorem fL_lorries_315 (Post : XPo) (cut : List Nat) (WW : XK) (n : Nat) (L : XLs) (st : List XV) (M : XM) : yru (xlk (pL_lorries Post)) cut WW (n + 1) 315 L st M = j_sub 315 L st M (ykk (xlk (pL_lorries Post)) cut WW n) := yf rfl
set_option maxRecDepth 100000 in
theorem fL_lorries_316 (Post : XPo) (cut : List Nat) (WW : XK) (n : Nat) (L : XLs) (st : List XV) (M : XM) : yru (xlk (pL_lorries Post)) cut WW (n + 1) 316 L st M = j_ist 14 2 316 L st M (ykk (xlk (pL_lorries Post)) cut WW n) := yf rfl
set_option maxRecDepth 100000 in
theorem fL_lorries_318 (Post : XPo) (cut : List Nat) (WW : XK) (n : Nat) (L : XLs) (st : List XV) (M : XM) : yru (xlk (pL_lorries Post)) cut WW (n + 1) 318 L st M = j_goto 226 318 L st M (ykk (xlk (pL_lorries Post)) cut WW n) := yf rfl
set_option maxRecDepth 100000 in
theorem fL_lorries_321 (Post : XPo) (cut : List Nat) (WW : XK) (n : Nat) (L : XLs) (st : List XV) (M : XM) : yru (xlk (pL_lorries Post)) cut WW (n + 1) 321 L st M = j_ald 0 1 321 L st M (ykk (xlk (pL_lorries Post)) cut WW n) := yf rfl
set_option maxRecDepth 100000 in
theorem fL_lorries_322 (Post : XPo) (cut : List Nat) (WW : XK) (n : Nat) (L : XLs) (st : List XV) (M : XM) : yru (xlk (pL_lorries Post)) cut WW (n + 1) 322 L st M = j_ild 9 2 322 L st M (ykk (xlk (pL_lorries Post)) cut WW n) := yf rfl
set_option maxRecDepth 100000 in
theorem fL_lorries_324 (Post : XPo) (cut : List Nat) (WW : XK) (n : Nat) (L : XLs) (st : List XV) (M : XM) : yru (xlk (pL_lorries Post)) cut WW (n + 1) 324 L st M = j_ild 10 2 324 L st M (ykk (xlk (pL_lorries Post)) cut WW n) := yf rfl
set_option maxRecDepth 100000 in
theorem fL_lorries_326 (Post : XPo) (cut : List Nat) (WW : XK) (n : Nat) (L : XLs) (st : List XV) (M : XM) : yru (xlk (pL_lorries Post)) cut WW (n + 1) 326 L st M = j_ild 12 2 326 L st M (ykk (xlk (pL_lorries Post)) cut WW n) := yf rfl
set_option maxRecDepth 100000 in
theorem fL_lorries_328 (Post : XPo) (cut : List Nat) (WW : XK) (n : Nat) (L : XLs) (st : List XV) (M : XM) : yru (xlk (pL_lorries Post)) cut WW (n + 1) 328 L st M = j_ild 13 2 328 L st M (ykk (xlk (pL_lorries Post)) cut WW n) := yf rfl
set_option maxRecDepth 100000 in
theorem fL_lorries_330 (Post : XPo) (cut : List Nat) (WW : XK) (n : Nat) (L : XLs) (st : List XV) (M : XM) : yru (xlk (pL_lorries Post)) cut WW (n + 1) 330 L st M = j_V4 0 sX7_load 330 L st M (ykk (xlk (pL_lorries Post)) cut WW n) := yf rfl
set_option maxRecDepth 100000 in
theorem fL_lorries_333 (Post : XPo) (cut : List Nat) (WW : XK) (n : Nat) (L : XLs) (st : List XV) (M : XM) : yru (xlk (pL_lorries Post)) cut WW (n + 1) 333 L st M = j_ald 3 1 333 L st M (ykk (xlk (pL_lorries Post)) cut WW n) := yf rfl
set_option maxRecDepth 100000 in
theorem fL_lorries_334 (Post : XPo) (cut : List Nat) (WW : XK) (n : Nat) (L : XLs) (st : List XV) (M : XM) : yru (xlk (pL_lorries Post)) cut WW (n + 1) 334 L st M = j_ald 8 2 334 L st M (ykk (xlk (pL_lorries Post)) cut WW n) := yf rfl
set_option maxRecDepth 100000 in
theorem fL_lorries_336 (Post : XPo) (cut : List Nat) (WW : XK) (n : Nat) (L : XLs) (st : List XV) (M : XM) : yru (xlk (pL_lorries Post)) cut WW (n + 1) 336 L st M = j_c 4 1 336 L st M (ykk (xlk (pL_lorries Post)) cut WW n) := yf rfl
set_option maxRecDepth 100000 in
theorem fL_lorries_337 (Post : XPo) (cut : List Nat) (WW : XK) (n : Nat) (L : XLs) (st : List XV) (M : XM) : yru (xlk (pL_lorries Post)) cut WW (n + 1) 337 L st M = j_ild 9 2 337 L st M (ykk (xlk (pL_lorries Post)) cut WW n) := yf rfl
set_option maxRecDepth 100000 in
theorem fL_lorries_339 (Post : XPo) (cut : List Nat) (WW : XK) (n : Nat) (L : XLs) (st : List XV) (M : XM) : yru (xlk (pL_lorries Post)) cut WW (n + 1) 339 L st M = j_add 339 L st M (ykk (xlk (pL_lorries Post)) cut WW n) := yf rfl
set_option maxRecDepth 100000 in
theorem fL_lorries_340 (Post : XPo) (cut : List Nat) (WW : XK) (n : Nat) (L : XLs) (st : List XV) (M : XM) : yru (xlk (pL_lorries Post)) cut WW (n + 1) 340 L st M = j_Sn 3 sL_all 340 L st M (ykk (xlk (pL_lorries Post)) cut WW n) := yf rfl
set_option maxRecDepth 100000 in
theorem fL_lorries_343 (Post : XPo) (cut : List Nat) (WW : XK) (n : Nat) (L : XLs) (st : List XV) (M : XM) : yru (xlk (pL_lorries Post)) cut WW (n + 1) 343 L st M = j_ine 350 343 L st M (ykk (xlk (pL_lorries Post)) cut WW n) := yf rfl
set_option maxRecDepth 100000 in
theorem fL_lorries_346 (Post : XPo) (cut : List Nat) (WW : XK) (n : Nat) (L : XLs) (st : List XV) (M : XM) : yru (xlk (pL_lorries Post)) cut WW (n + 1) 346 L st M = j_c 1 1 346 L st M (ykk (xlk (pL_lorries Post)) cut WW n) := yf rfl
set_option maxRecDepth 100000 in
theorem fL_lorries_347 (Post : XPo) (cut : List Nat) (WW : XK) (n : Nat) (L : XLs) (st : List XV) (M : XM) : yru (xlk (pL_lorries Post)) cut WW (n + 1) 347 L st M = j_goto 351 347 L st M (ykk (xlk (pL_lorries Post)) cut WW n) := yf rfl
set_option maxRecDepth 100000 in
theorem fL_lorries_350 (Post : XPo) (cut : List Nat) (WW : XK) (n : Nat) (L : XLs) (st : List XV) (M : XM) : yru (xlk (pL_lorries Post)) cut WW (n + 1) 350 L st M = j_c 0 1 350 L st M (ykk (xlk (pL_lorries Post)) cut WW n) := yf rfl
set_option maxRecDepth 100000 in
theorem fL_lorries_351 (Post : XPo) (cut : List Nat) (WW : XK) (n : Nat) (L : XLs) (st : List XV) (M : XM) : yru (xlk (pL_lorries Post)) cut WW (n + 1) 351 L st M = j_zret Post 351 L st M (ykk (xlk (pL_lorries Post)) cut WW n) := yf rfl
set_option maxRecDepth 100000 in
theorem fL_lorries_352 (Post : XPo) (cut : List Nat) (WW : XK) (n : Nat) (L : XLs) (st : List XV) (M : XM) : yru (xlk (pL_lorries Post)) cut WW (n + 1) 352 L st M = j_ald 3 1 352 L st M (ykk (xlk (pL_lorries Post)) cut WW n) := yf rfl
set_option maxRecDepth 100000 in
theorem fL_lorries_353 (Post : XPo) (cut : List Nat) (WW : XK) (n : Nat) (L : XLs) (st : List XV) (M : XM) : yru (xlk (pL_lorries Post)) cut WW (n + 1) 353 L st M = j_ald 8 2 353 L st M (ykk (xlk (pL_lorries Post)) cut WW n) := yf rfl
set_option maxRecDepth 100000 in
theorem fL_lorries_355 (Post : XPo) (cut : List Nat) (WW : XK) (n : Nat) (L : XLs) (st : List XV) (M : XM) : yru (xlk (pL_lorries Post)) cut WW (n + 1) 355 L st M = j_c 4 1 355 L st M (ykk (xlk (pL_lorries Post)) cut WW n) := yf rfl
set_option maxRecDepth 100000 in
theorem fL_lorries_356 (Post : XPo) (cut : List Nat) (WW : XK) (n : Nat) (L : XLs) (st : List XV) (M : XM) : yru (xlk (pL_lorries Post)) cut WW (n + 1) 356 L st M = j_ild 9 2 356 L st M (ykk (xlk (pL_lorries Post)) cut WW n) := yf rfl
set_option maxRecDepth 100000 in
theorem fL_lorries_358 (Post : XPo) (cut : List Nat) (WW : XK) (n : Nat) (L : XLs) (st : List XV) (M : XM) : yru (xlk (pL_lorries Post)) cut WW (n + 1) 358 L st M = j_add 358 L st M (ykk (xlk (pL_lorries Post)) cut WW n) := yf rfl
set_option maxRecDepth 100000 in
theorem fL_lorries_359 (Post : XPo) (cut : List Nat) (WW : XK) (n : Nat) (L : XLs) (st : List XV) (M : XM) : yru (xlk (pL_lorries Post)) cut WW (n + 1) 359 L st M = j_Sn 3 sL_all 359 L st M (ykk (xlk (pL_lorries Post)) cut WW n) := yf rfl
set_option maxRecDepth 100000 in
theorem fL_lorries_362 (Post : XPo) (cut : List Nat) (WW : XK) (n : Nat) (L : XLs) (st : List XV) (M : XM) : yru (xlk (pL_lorries Post)) cut WW (n + 1) 362 L st M = j_ist 12 2 362 L st M (ykk (xlk (pL_lorries Post)) cut WW n) := yf rfl
set_option maxRecDepth 100000 in
theorem fL_lorries_364 (Post : XPo) (cut : List Nat) (WW : XK) (n : Nat) (L : XLs) (st : List XV) (M : XM) : yru (xlk (pL_lorries Post)) cut WW (n + 1) 364 L st M = j_ald 3 1 364 L st M (ykk (xlk (pL_lorries Post)) cut WW n) := yf rfl
set_option maxRecDepth 100000 in
theorem fL_lorries_365 (Post : XPo) (cut : List Nat) (WW : XK) (n : Nat) (L : XLs) (st : List XV) (M : XM) : yru (xlk (pL_lorries Post)) cut WW (n + 1) 365 L st M = j_c 12 2 365 L st M (ykk (xlk (pL_lorries Post)) cut WW n) := yf rfl
set_option maxRecDepth 100000 in
theorem fL_lorries_367 (Post : XPo) (cut : List Nat) (WW : XK) (n : Nat) (L : XLs) (st : List XV) (M : XM) : yru (xlk (pL_lorries Post)) cut WW (n + 1) 367 L st M = j_iald 367 L st M (ykk (xlk (pL_lorries Post)) cut WW n) := yf rfl
set_option maxRecDepth 100000 in
theorem fL_lorries_368 (Post : XPo) (cut : List Nat) (WW : XK) (n : Nat) (L : XLs) (st : List XV) (M : XM) : yru (xlk (pL_lorries Post)) cut WW (n + 1) 368 L st M = j_c 1 1 368 L st M (ykk (xlk (pL_lorries Post)) cut WW n) := yf rfl
set_option maxRecDepth 100000 in
theorem fL_lorries_369 (Post : XPo) (cut : List Nat) (WW : XK) (n : Nat) (L : XLs) (st : List XV) (M : XM) : yru (xlk (pL_lorries Post)) cut WW (n + 1) 369 L st M = j_sub 369 L st M (ykk (xlk (pL_lorries Post)) cut WW n) := yf rfl
set_option maxRecDepth 100000 in
theorem fL_lorries_370 (Post : XPo) (cut : List Nat) (WW : XK) (n : Nat) (L : XLs) (st : List XV) (M : XM) : yru (xlk (pL_lorries Post)) cut WW (n + 1) 370 L st M = j_ist 13 2 370 L st M (ykk (xlk (pL_lorries Post)) cut WW n) := yf rfl
set_option maxRecDepth 100000 in
theorem fL_lorries_372 (Post : XPo) (cut : List Nat) (WW : XK) (n : Nat) (L : XLs) (st : List XV) (M : XM) : yru (xlk (pL_lorries Post)) cut WW (n + 1) 372 L st M = j_ild 13 2 372 L st M (ykk (xlk (pL_lorries Post)) cut WW n) := yf rfl
set_option maxRecDepth 100000 in
theorem fL_lorries_374 (Post : XPo) (cut : List Nat) (WW : XK) (n : Nat) (L : XLs) (st : List XV) (M : XM) : yru (xlk (pL_lorries Post)) cut WW (n + 1) 374 L st M = j_lt 452 374 L st M (ykk (xlk (pL_lorries Post)) cut WW n) := yf rfl
set_option maxRecDepth 100000 in
theorem fL_lorries_377 (Post : XPo) (cut : List Nat) (WW : XK) (n : Nat) (L : XLs) (st : List XV) (M : XM) : yru (xlk (pL_lorries Post)) cut WW (n + 1) 377 L st M = j_ald 8 2 377 L st M (ykk (xlk (pL_lorries Post)) cut WW n) := yf rfl
set_option maxRecDepth 100000 in
theorem fL_lorries_379 (Post : XPo) (cut : List Nat) (WW : XK) (n : Nat) (L : XLs) (st : List XV) (M : XM) : yru (xlk (pL_lorries Post)) cut WW (n + 1) 379 L st M = j_ild 13 2 379 L st M (ykk (xlk (pL_lorries Post)) cut WW n) := yf rfl
set_option maxRecDepth 100000 in
theorem fL_lorries_381 (Post : XPo) (cut : List Nat) (WW : XK) (n : Nat) (L : XLs) (st : List XV) (M : XM) : yru (xlk (pL_lorries Post)) cut WW (n + 1) 381 L st M = j_iald 381 L st M (ykk (xlk (pL_lorries Post)) cut WW n) := yf rfl
set_option maxRecDepth 100000 in
theorem fL_lorries_382 (Post : XPo) (cut : List Nat) (WW : XK) (n : Nat) (L : XLs) (st : List XV) (M : XM) : yru (xlk (pL_lorries Post)) cut WW (n + 1) 382 L st M = j_c 7 2 382 L st M (ykk (xlk (pL_lorries Post)) cut WW n) := yf rfl
set_option maxRecDepth 100000 in
theorem fL_lorries_384 (Post : XPo) (cut : List Nat) (WW : XK) (n : Nat) (L : XLs) (st : List XV) (M : XM) : yru (xlk (pL_lorries Post)) cut WW (n + 1) 384 L st M = j_and 8 384 L st M (ykk (xlk (pL_lorries Post)) cut WW n) := yf rfl
set_option maxRecDepth 100000 in
theorem fL_lorries_385 (Post : XPo) (cut : List Nat) (WW : XK) (n : Nat) (L : XLs) (st : List XV) (M : XM) : yru (xlk (pL_lorries Post)) cut WW (n + 1) 385 L st M = j_c 4 1 385 L st M (ykk (xlk (pL_lorries Post)) cut WW n) := yf rfl
set_option maxRecDepth 100000 in
theorem fL_lorries_386 (Post : XPo) (cut : List Nat) (WW : XK) (n : Nat) (L : XLs) (st : List XV) (M : XM) : yru (xlk (pL_lorries Post)) cut WW (n + 1) 386 L st M = j_ild 9 2 386 L st M (ykk (xlk (pL_lorries Post)) cut WW n) := yf rfl
set_option maxRecDepth 100000 in
theorem fL_lorries_388 (Post : XPo) (cut : List Nat) (WW : XK) (n : Nat) (L : XLs) (st : List XV) (M : XM) : yru (xlk (pL_lorries Post)) cut WW (n + 1) 388 L st M = j_add 388 L st M (ykk (xlk (pL_lorries Post)) cut WW n) := yf rfl
set_option maxRecDepth 100000 in
theorem fL_lorries_389 (Post : XPo) (cut : List Nat) (WW : XK) (n : Nat) (L : XLs) (st : List XV) (M : XM) : yru (xlk (pL_lorries Post)) cut WW (n + 1) 389 L st M = j_ine 446 389 L st M (ykk (xlk (pL_lorries Post)) cut WW n) := yf rfl
set_option maxRecDepth 100000 in
theorem fL_lorries_392 (Post : XPo) (cut : List Nat) (WW : XK) (n : Nat) (L : XLs) (st : List XV) (M : XM) : yru (xlk (pL_lorries Post)) cut WW (n + 1) 392 L st M = j_ald 8 2 392 L st M (ykk (xlk (pL_lorries Post)) cut WW n) := yf rfl
set_option maxRecDepth 100000 in
theorem fL_lorries_394 (Post : XPo) (cut : List Nat) (WW : XK) (n : Nat) (L : XLs) (st : List XV) (M : XM) : yru (xlk (pL_lorries Post)) cut WW (n + 1) 394 L st M = j_ild 13 2 394 L st M (ykk (xlk (pL_lorries Post)) cut WW n) := yf rfl
set_option maxRecDepth 100000 in
theorem fL_lorries_396 (Post : XPo) (cut : List Nat) (WW : XK) (n : Nat) (L : XLs) (st : List XV) (M : XM) : yru (xlk (pL_lorries Post)) cut WW (n + 1) 396 L st M = j_iald 396 L st M (ykk (xlk (pL_lorries Post)) cut WW n) := yf rfl
set_option maxRecDepth 100000 in
theorem fL_lorries_397 (Post : XPo) (cut : List Nat) (WW : XK) (n : Nat) (L : XLs) (st : List XV) (M : XM) : yru (xlk (pL_lorries Post)) cut WW (n + 1) 397 L st M = j_c 131071 2 397 L st M (ykk (xlk (pL_lorries Post)) cut WW n) := yf rfl
set_option maxRecDepth 100000 in
theorem fL_lorries_399 (Post : XPo) (cut : List Nat) (WW : XK) (n : Nat) (L : XLs) (st : List XV) (M : XM) : yru (xlk (pL_lorries Post)) cut WW (n + 1) 399 L st M = j_and 131072 399 L st M (ykk (xlk (pL_lorries Post)) cut WW n) := yf rfl
set_option maxRecDepth 100000 in
theorem fL_lorries_400 (Post : XPo) (cut : List Nat) (WW : XK) (n : Nat) (L : XLs) (st : List XV) (M : XM) : yru (xlk (pL_lorries Post)) cut WW (n + 1) 400 L st M = j_c 4 1 400 L st M (ykk (xlk (pL_lorries Post)) cut WW n) := yf rfl
set_option maxRecDepth 100000 in
theorem fL_lorries_401 (Post : XPo) (cut : List Nat) (WW : XK) (n : Nat) (L : XLs) (st : List XV) (M : XM) : yru (xlk (pL_lorries Post)) cut WW (n + 1) 401 L st M = j_sub 401 L st M (ykk (xlk (pL_lorries Post)) cut WW n) := yf rfl
set_option maxRecDepth 100000 in
theorem fL_lorries_402 (Post : XPo) (cut : List Nat) (WW : XK) (n : Nat) (L : XLs) (st : List XV) (M : XM) : yru (xlk (pL_lorries Post)) cut WW (n + 1) 402 L st M = j_ild 9 2 402 L st M (ykk (xlk (pL_lorries Post)) cut WW n) := yf rfl
set_option maxRecDepth 100000 in
theorem fL_lorries_404 (Post : XPo) (cut : List Nat) (WW : XK) (n : Nat) (L : XLs) (st : List XV) (M : XM) : yru (xlk (pL_lorries Post)) cut WW (n + 1) 404 L st M = j_sub 404 L st M (ykk (xlk (pL_lorries Post)) cut WW n) := yf rfl
set_option maxRecDepth 100000 in
theorem fL_lorries_405 (Post : XPo) (cut : List Nat) (WW : XK) (n : Nat) (L : XLs) (st : List XV) (M : XM) : yru (xlk (pL_lorries Post)) cut WW (n + 1) 405 L st M = j_ild 10 2 405 L st M (ykk (xlk (pL_lorries Post)) cut WW n) := yf rfl
set_option maxRecDepth 100000 in
theorem fL_lorries_407 (Post : XPo) (cut : List Nat) (WW : XK) (n : Nat) (L : XLs) (st : List XV) (M : XM) : yru (xlk (pL_lorries Post)) cut WW (n + 1) 407 L st M = j_add 407 L st M (ykk (xlk (pL_lorries Post)) cut WW n) := yf rfl
set_option maxRecDepth 100000 in
theorem fL_lorries_408 (Post : XPo) (cut : List Nat) (WW : XK) (n : Nat) (L : XLs) (st : List XV) (M : XM) : yru (xlk (pL_lorries Post)) cut WW (n + 1) 408 L st M = j_ist 14 2 408 L st M (ykk (xlk (pL_lorries Post)) cut WW n) := yf rfl
set_option maxRecDepth 100000 in
theorem fL_lorries_410 (Post : XPo) (cut : List Nat) (WW : XK) (n : Nat) (L : XLs) (st : List XV) (M : XM) : yru (xlk (pL_lorries Post)) cut WW (n + 1) 410 L st M = j_ald 8 2 410 L st M (ykk (xlk (pL_lorries Post)) cut WW n) := yf rfl
set_option maxRecDepth 100000 in
theorem fL_lorries_412 (Post : XPo) (cut : List Nat) (WW : XK) (n : Nat) (L : XLs) (st : List XV) (M : XM) : yru (xlk (pL_lorries Post)) cut WW (n + 1) 412 L st M = j_ild 13 2 412 L st M (ykk (xlk (pL_lorries Post)) cut WW n) := yf rfl
set_option maxRecDepth 100000 in
theorem fL_lorries_414 (Post : XPo) (cut : List Nat) (WW : XK) (n : Nat) (L : XLs) (st : List XV) (M : XM) : yru (xlk (pL_lorries Post)) cut WW (n + 1) 414 L st M = j_iald 414 L st M (ykk (xlk (pL_lorries Post)) cut WW n) := yf rfl
set_option maxRecDepth 100000 in
theorem fL_lorries_415 (Post : XPo) (cut : List Nat) (WW : XK) (n : Nat) (L : XLs) (st : List XV) (M : XM) : yru (xlk (pL_lorries Post)) cut WW (n + 1) 415 L st M = j_c 17 2 415 L st M (ykk (xlk (pL_lorries Post)) cut WW n) := yf rfl
set_option maxRecDepth 100000 in
theorem fL_lorries_417 (Post : XPo) (cut : List Nat) (WW : XK) (n : Nat) (L : XLs) (st : List XV) (M : XM) : yru (xlk (pL_lorries Post)) cut WW (n + 1) 417 L st M = j_shr 417 L st M (ykk (xlk (pL_lorries Post)) cut WW n) := yf rfl
set_option maxRecDepth 100000 in
theorem fL_lorries_418 (Post : XPo) (cut : List Nat) (WW : XK) (n : Nat) (L : XLs) (st : List XV) (M : XM) : yru (xlk (pL_lorries Post)) cut WW (n + 1) 418 L st M = j_ist 15 2 418 L st M (ykk (xlk (pL_lorries Post)) cut WW n) := yf rfl
set_option maxRecDepth 100000 in
theorem fL_lorries_420 (Post : XPo) (cut : List Nat) (WW : XK) (n : Nat) (L : XLs) (st : List XV) (M : XM) : yru (xlk (pL_lorries Post)) cut WW (n + 1) 420 L st M = j_ald 3 1 420 L st M (ykk (xlk (pL_lorries Post)) cut WW n) := yf rfl
set_option maxRecDepth 100000 in
theorem fL_lorries_421 (Post : XPo) (cut : List Nat) (WW : XK) (n : Nat) (L : XLs) (st : List XV) (M : XM) : yru (xlk (pL_lorries Post)) cut WW (n + 1) 421 L st M = j_ald 8 2 421 L st M (ykk (xlk (pL_lorries Post)) cut WW n) := yf rfl
set_option maxRecDepth 100000 in
theorem fL_lorries_423 (Post : XPo) (cut : List Nat) (WW : XK) (n : Nat) (L : XLs) (st : List XV) (M : XM) : yru (xlk (pL_lorries Post)) cut WW (n + 1) 423 L st M = j_ild 13 2 423 L st M (ykk (xlk (pL_lorries Post)) cut WW n) := yf rfl
set_option maxRecDepth 100000 in
theorem fL_lorries_425 (Post : XPo) (cut : List Nat) (WW : XK) (n : Nat) (L : XLs) (st : List XV) (M : XM) : yru (xlk (pL_lorries Post)) cut WW (n + 1) 425 L st M = j_ild 15 2 425 L st M (ykk (xlk (pL_lorries Post)) cut WW n) := yf rfl
set_option maxRecDepth 100000 in
theorem fL_lorries_427 (Post : XPo) (cut : List Nat) (WW : XK) (n : Nat) (L : XLs) (st : List XV) (M : XM) : yru (xlk (pL_lorries Post)) cut WW (n + 1) 427 L st M = j_Sn 4 sL_less 427 L st M (ykk (xlk (pL_lorries Post)) cut WW n) := yf rfl
set_option maxRecDepth 100000 in
theorem fL_lorries_430 (Post : XPo) (cut : List Nat) (WW : XK) (n : Nat) (L : XLs) (st : List XV) (M : XM) : yru (xlk (pL_lorries Post)) cut WW (n + 1) 430 L st M = j_ald 3 1 430 L st M (ykk (xlk (pL_lorries Post)) cut WW n) := yf rfl
set_option maxRecDepth 100000 in
theorem fL_lorries_431 (Post : XPo) (cut : List Nat) (WW : XK) (n : Nat) (L : XLs) (st : List XV) (M : XM) : yru (xlk (pL_lorries Post)) cut WW (n + 1) 431 L st M = j_ald 8 2 431 L st M (ykk (xlk (pL_lorries Post)) cut WW n) := yf rfl
set_option maxRecDepth 100000 in
theorem fL_lorries_433 (Post : XPo) (cut : List Nat) (WW : XK) (n : Nat) (L : XLs) (st : List XV) (M : XM) : yru (xlk (pL_lorries Post)) cut WW (n + 1) 433 L st M = j_ild 14 2 433 L st M (ykk (xlk (pL_lorries Post)) cut WW n) := yf rfl
set_option maxRecDepth 100000 in
theorem fL_lorries_435 (Post : XPo) (cut : List Nat) (WW : XK) (n : Nat) (L : XLs) (st : List XV) (M : XM) : yru (xlk (pL_lorries Post)) cut WW (n + 1) 435 L st M = j_ild 15 2 435 L st M (ykk (xlk (pL_lorries Post)) cut WW n) := yf rfl
set_option maxRecDepth 100000 in
theorem fL_lorries_437 (Post : XPo) (cut : List Nat) (WW : XK) (n : Nat) (L : XLs) (st : List XV) (M : XM) : yru (xlk (pL_lorries Post)) cut WW (n + 1) 437 L st M = j_Sn 4 sL_put 437 L st M (ykk (xlk (pL_lorries Post)) cut WW n) := yf rfl
set_option maxRecDepth 100000 in
theorem fL_lorries_440 (Post : XPo) (cut : List Nat) (WW : XK) (n : Nat) (L : XLs) (st : List XV) (M : XM) : yru (xlk (pL_lorries Post)) cut WW (n + 1) 440 L st M = j_ald 3 1 440 L st M (ykk (xlk (pL_lorries Post)) cut WW n) := yf rfl
set_option maxRecDepth 100000 in
theorem fL_lorries_441 (Post : XPo) (cut : List Nat) (WW : XK) (n : Nat) (L : XLs) (st : List XV) (M : XM) : yru (xlk (pL_lorries Post)) cut WW (n + 1) 441 L st M = j_c 12 2 441 L st M (ykk (xlk (pL_lorries Post)) cut WW n) := yf rfl
set_option maxRecDepth 100000 in
theorem fL_lorries_443 (Post : XPo) (cut : List Nat) (WW : XK) (n : Nat) (L : XLs) (st : List XV) (M : XM) : yru (xlk (pL_lorries Post)) cut WW (n + 1) 443 L st M = j_iald 443 L st M (ykk (xlk (pL_lorries Post)) cut WW n) := yf rfl
set_option maxRecDepth 100000 in
theorem fL_lorries_444 (Post : XPo) (cut : List Nat) (WW : XK) (n : Nat) (L : XLs) (st : List XV) (M : XM) : yru (xlk (pL_lorries Post)) cut WW (n + 1) 444 L st M = j_ist 13 2 444 L st M (ykk (xlk (pL_lorries Post)) cut WW n) := yf rfl
set_option maxRecDepth 100000 in
theorem fL_lorries_446 (Post : XPo) (cut : List Nat) (WW : XK) (n : Nat) (L : XLs) (st : List XV) (M : XM) : yru (xlk (pL_lorries Post)) cut WW (n + 1) 446 L st M = j_inc 13 (-1) 446 L st M (ykk (xlk (pL_lorries Post)) cut WW n) := yf rfl
set_option maxRecDepth 100000 in
theorem fL_lorries_449 (Post : XPo) (cut : List Nat) (WW : XK) (n : Nat) (L : XLs) (st : List XV) (M : XM) : yru (xlk (pL_lorries Post)) cut WW (n + 1) 449 L st M = j_goto 372 449 L st M (ykk (xlk (pL_lorries Post)) cut WW n) := yf rfl
set_option maxRecDepth 100000 in
theorem fL_lorries_452 (Post : XPo) (cut : List Nat) (WW : XK) (n : Nat) (L : XLs) (st : List XV) (M : XM) : yru (xlk (pL_lorries Post)) cut WW (n + 1) 452 L st M = j_ald 0 1 452 L st M (ykk (xlk (pL_lorries Post)) cut WW n) := yf rfl
set_option maxRecDepth 100000 in
theorem fL_lorries_453 (Post : XPo) (cut : List Nat) (WW : XK) (n : Nat) (L : XLs) (st : List XV) (M : XM) : yru (xlk (pL_lorries Post)) cut WW (n + 1) 453 L st M = j_ild 9 2 453 L st M (ykk (xlk (pL_lorries Post)) cut WW n) := yf rfl
set_option maxRecDepth 100000 in
theorem fL_lorries_455 (Post : XPo) (cut : List Nat) (WW : XK) (n : Nat) (L : XLs) (st : List XV) (M : XM) : yru (xlk (pL_lorries Post)) cut WW (n + 1) 455 L st M = j_ild 10 2 455 L st M (ykk (xlk (pL_lorries Post)) cut WW n) := yf rfl
set_option maxRecDepth 100000 in
theorem fL_lorries_457 (Post : XPo) (cut : List Nat) (WW : XK) (n : Nat) (L : XLs) (st : List XV) (M : XM) : yru (xlk (pL_lorries Post)) cut WW (n + 1) 457 L st M = j_V2 0 sX7_unload 457 L st M (ykk (xlk (pL_lorries Post)) cut WW n) := yf rfl
set_option maxRecDepth 100000 in
theorem fL_lorries_460 (Post : XPo) (cut : List Nat) (WW : XK) (n : Nat) (L : XLs) (st : List XV) (M : XM) : yru (xlk (pL_lorries Post)) cut WW (n + 1) 460 L st M = j_ild 12 2 460 L st M (ykk (xlk (pL_lorries Post)) cut WW n) := yf rfl
set_option maxRecDepth 100000 in
theorem fL_lorries_462 (Post : XPo) (cut : List Nat) (WW : XK) (n : Nat) (L : XLs) (st : List XV) (M : XM) : yru (xlk (pL_lorries Post)) cut WW (n + 1) 462 L st M = j_ine 469 462 L st M (ykk (xlk (pL_lorries Post)) cut WW n) := yf rfl
set_option maxRecDepth 100000 in
theorem fL_lorries_465 (Post : XPo) (cut : List Nat) (WW : XK) (n : Nat) (L : XLs) (st : List XV) (M : XM) : yru (xlk (pL_lorries Post)) cut WW (n + 1) 465 L st M = j_c 1 1 465 L st M (ykk (xlk (pL_lorries Post)) cut WW n) := yf rfl
set_option maxRecDepth 100000 in
theorem fL_lorries_466 (Post : XPo) (cut : List Nat) (WW : XK) (n : Nat) (L : XLs) (st : List XV) (M : XM) : yru (xlk (pL_lorries Post)) cut WW (n + 1) 466 L st M = j_goto 470 466 L st M (ykk (xlk (pL_lorries Post)) cut WW n) := yf rfl
set_option maxRecDepth 100000 in
theorem fL_lorries_469 (Post : XPo) (cut : List Nat) (WW : XK) (n : Nat) (L : XLs) (st : List XV) (M : XM) : yru (xlk (pL_lorries Post)) cut WW (n + 1) 469 L st M = j_c 0 1 469 L st M (ykk (xlk (pL_lorries Post)) cut WW n) := yf rfl
set_option maxRecDepth 100000 in
theorem fL_lorries_470 (Post : XPo) (cut : List Nat) (WW : XK) (n : Nat) (L : XLs) (st : List XV) (M : XM) : yru (xlk (pL_lorries Post)) cut WW (n + 1) 470 L st M = j_zret Post 470 L st M (ykk (xlk (pL_lorries Post)) cut WW n) := yf rfl
set_option maxRecDepth 100000 in
theorem kL_load_in {Post : XPo} {WW : XK} (hC : XCl (xlk (pL_lorries Post)) WW) {x y l k act d n : Int} {t : Int} (hk : k = 0 ∨ k = 1) (hl : l = 0 ∨ l = 1) (hd : d = 0 ∨ d = 1 ∨ d = 2) : ∀ (L : List Int), (∀ x ∈ L, (0 ≤ x ∧ x < 192) ∧ x / 64 = d) → L.Pairwise (fun x y => kx t k x < kx t k y) → ∀ (S R F : Int → Int) (T w : Int) (x15 x16 x17 : Option XV) (M : XM), BM M F T → SRw 40 t F → (∀ x : Int, 0 ≤ x → x < 192 → S x = F (kx t k x)) → (∀ x : Int, 0 ≤ x → x < 192 → R x = F (kx t (4 + l) x)) → (∀ q : Int, fMt k (2 ^ d.toNat) q → ¬ F q = 0 → ∃ x ∈ L, kx t k x = q) → (0 ≤ w ∧ w ≤ sm S (64 * d) 64) → M 20 0 0 12 ≤ 60 → T ≤ 16000 → (0 ≤ t ∧ t ≤ 4000) →
    (∀ (M' : XM) (F' : Int → Int) (T' : Int) (y14 y15 y16 y17 : Option XV), lEnd t k (4 + l) M M' F F' T T' (cyL L S R w).1 (cyL L S R w).2 → WW 321 [some (xR 0 0 0), some (xI x), some (xI y), some (xR 20 0 0), some (xR 21 0 0), some (xR 22 0 0), some (xR 26 0 0), some (xR 27 0 0), some (xR 29 0 0), some (xI l), some (xI k), some (xI act), some (xI d), some (xI n), y14, y15, y16, y17] [] M') → WW 226 [some (xR 0 0 0), some (xI x), some (xI y), some (xR 20 0 0), some (xR 21 0 0), some (xR 22 0 0), some (xR 26 0 0), some (xR 27 0 0), some (xR 29 0 0), some (xI l), some (xI k), some (xI act), some (xI d), some (xI n), some (xI w), x15, x16, x17] [] M
  | [], _, _, S, R, F, T, w, x15, x16, x17, M, hB, hW, hS, hR, hcov, hw, hN, hT, ht, h => by
    have z : ∀ y : Int, 64 * d ≤ y → y < 64 * d + (64 : Nat) → 0 ≤ S y ∧ S y ≤ 0 := fun y y0 y1 => by
      have kk := kx_st (t := t) (st := k) (x := y) (by omega) (by omega) (by omega)
      rw [hS y (by omega) (by omega)]
      by_cases e : F (kx t k y) = 0
      · rw [e]
        exact ⟨Int.le_refl _, Int.le_refl _⟩
      · obtain ⟨x, hx, -⟩ := hcov _ ((fMt_one hd).mpr ⟨kk.1, by omega⟩) e
        exact absurd hx List.not_mem_nil
    have := sm_bd (S := S) (a := 64 * d) (b := 0) (n := 64) z
    have w0 : w = 0 := by omega
    subst w0
    have hq := fun y14 => h M F T y14 x15 x16 x17 ⟨⟨bSame_refl M, by omega⟩, hB, rfl, hS, hR, fun _ _ _ => rfl, hW⟩
    refine yru_ok hC [321, 231] 4 _ _ _ _ ?_
    simp only [ykk_ap, Int.reduceEq, Int.reduceLT, Int.reduceLE, Int.reduceNeg, Int.reduceAdd, Int.reduceSub, Int.reduceMul, and_self, false_and, and_false, not_true_eq_false, not_false_eq_true, true_implies, false_implies, xq0, xq1, xq2, xq3, xq4, xq5, xqR, xq1R, xq3R, xt1, xt2, xt3, List.mem_cons, List.not_mem_nil, or_false, false_or, or_self, if_false, if_true, reduceIte, reduceCtorEq, xent, xen, List.length_cons, List.length_nil, List.replicate, j_c, j_cJ, j_ild, j_ald, j_lld, j_ist, j_ast, j_lst, j_inc, j_add, j_sub, j_mul, j_neg, j_div, j_rem, j_and, j_shr, j_shl1, j_or, j_ladd, j_lsub, j_lmul, j_i2l, j_lcmp, j_i2c, j_dup, j_dup2, j_pop, j_goto, j_ieq, j_ine, j_ilt, j_ige, j_igt, j_ile, j_eq, j_ne, j_lt, j_ge, j_gt, j_le, xsw, j_tsw, j_gI, j_gJ, j_gR, j_pI, j_pJ, j_gs, j_iald, j_iast, j_cald, j_cast, j_aald, j_cpy, j_min, j_max, j_abs, j_iret, j_zret, j_lret, j_dret, j_ret0, j_V0, j_V1, j_V2, j_V3, j_V4, j_V5, j_S1, j_S2, j_S3, xget, xset, xset2, xclr, xc1, xcat, Nat.reduceAdd, Nat.reduceEqDiff, Nat.reduceLT, Nat.reduceLeDiff, Nat.reduceMul, List.cons_append, List.nil_append, true_and, and_true, List.singleton_append, j_lsw2, j_Sn, j_ush, j_dupx2, List.take_succ_cons, List.take_zero, List.drop_succ_cons, List.drop_zero, List.reverse_cons, List.reverse_nil, Nat.le_refl, fL_lorries_226, fL_lorries_228, xvz_20, xvz_21, xvz_22, xvz_23, xvz_24, xvz_25, xvz_26, xvz_27, xvz_28, xvz_29, xrz_20, xrz_21, xrz_22, xrz_23, xrz_24, xrz_25, xrz_26, xrz_27, xrz_28, xrz_29, xdz_20, xdz_21, xdz_22, xdz_23, xdz_24, xdz_25, xdz_26, xdz_27, xdz_28, xdz_29, xlen, xcat, xc1, Nat.zero_le, Nat.reduceLeDiff, List.length_cons, List.length_nil, Int.le_refl, xr_c (n := 0) rfl]
    exact hq _
  | p :: L, hL1, hL2, S, R, F, T, w, x15, x16, x17, M, hB, hW, hS, hR, hcov, hw, hN, hT, ht, h => by
    have hp := hL1 p List.mem_cons_self
    have hL1' : ∀ y ∈ L, (0 ≤ y ∧ y < 192) ∧ y / 64 = d := fun y hy => hL1 y (List.mem_cons_of_mem _ hy)
    have hL2' := List.pairwise_cons.mp hL2
    have hsk : 0 ≤ k ∧ k < 8 := by omega
    have hsl : 0 ≤ 4 + l ∧ 4 + l < 8 := by omega
    have kk := kx_st (t := t) hsk hp.1.1 hp.1.2
    have kk2 := kx_st (t := t) hsl hp.1.1 hp.1.2
    have hSp := hS p hp.1.1 hp.1.2
    have hFp := BR_F hB (kx t k p)
    have hfm : fMt k (2 ^ d.toNat) (kx t k p) := (fMt_one hd).mpr ⟨kk.1, by omega⟩
    by_cases hz : S p = 0
    case pos =>
      have e : cyL (p :: L) S R w = cyL L S R w := by
        have e0 : min w (S p) = 0 := by omega
        simp only [cyL, e0, Int.sub_zero, Int.add_zero, sup_self]
      rw [e] at h
      refine kL_load_in hC hk hl hd L hL1' hL2'.2 S R F T w x15 x16 x17 M hB hW hS hR (fun q hq hF => ?_) hw hN hT ht h
      obtain ⟨y, hy, ey⟩ := hcov q hq hF
      rcases List.mem_cons.mp hy with rfl | hy
      · exact absurd (by rw [← ey, ← hSp]; exact hz) hF
      · exact ⟨y, hy, ey⟩
    by_cases hw1 : w = 0
    case pos =>
      subst hw1
      have e : cyL (p :: L) S R 0 = (S, R) := cyL_0 (p :: L) S R (fun y hy => by
        have g := (hL1 y hy).1
        rw [hS y g.1 g.2]
        exact (BR_F hB _).1)
      rw [e] at h
      have hq := fun y14 => h M F T y14 x15 x16 x17 ⟨⟨bSame_refl M, by omega⟩, hB, rfl, hS, hR, fun _ _ _ => rfl, hW⟩
      refine yru_ok hC [321, 231] 4 _ _ _ _ ?_
      simp only [ykk_ap, Int.reduceEq, Int.reduceLT, Int.reduceLE, Int.reduceNeg, Int.reduceAdd, Int.reduceSub, Int.reduceMul, and_self, false_and, and_false, not_true_eq_false, not_false_eq_true, true_implies, false_implies, xq0, xq1, xq2, xq3, xq4, xq5, xqR, xq1R, xq3R, xt1, xt2, xt3, List.mem_cons, List.not_mem_nil, or_false, false_or, or_self, if_false, if_true, reduceIte, reduceCtorEq, xent, xen, List.length_cons, List.length_nil, List.replicate, j_c, j_cJ, j_ild, j_ald, j_lld, j_ist, j_ast, j_lst, j_inc, j_add, j_sub, j_mul, j_neg, j_div, j_rem, j_and, j_shr, j_shl1, j_or, j_ladd, j_lsub, j_lmul, j_i2l, j_lcmp, j_i2c, j_dup, j_dup2, j_pop, j_goto, j_ieq, j_ine, j_ilt, j_ige, j_igt, j_ile, j_eq, j_ne, j_lt, j_ge, j_gt, j_le, xsw, j_tsw, j_gI, j_gJ, j_gR, j_pI, j_pJ, j_gs, j_iald, j_iast, j_cald, j_cast, j_aald, j_cpy, j_min, j_max, j_abs, j_iret, j_zret, j_lret, j_dret, j_ret0, j_V0, j_V1, j_V2, j_V3, j_V4, j_V5, j_S1, j_S2, j_S3, xget, xset, xset2, xclr, xc1, xcat, Nat.reduceAdd, Nat.reduceEqDiff, Nat.reduceLT, Nat.reduceLeDiff, Nat.reduceMul, List.cons_append, List.nil_append, true_and, and_true, List.singleton_append, j_lsw2, j_Sn, j_ush, j_dupx2, List.take_succ_cons, List.take_zero, List.drop_succ_cons, List.drop_zero, List.reverse_cons, List.reverse_nil, Nat.le_refl, fL_lorries_226, fL_lorries_228, xvz_20, xvz_21, xvz_22, xvz_23, xvz_24, xvz_25, xvz_26, xvz_27, xvz_28, xvz_29, xrz_20, xrz_21, xrz_22, xrz_23, xrz_24, xrz_25, xrz_26, xrz_27, xrz_28, xrz_29, xdz_20, xdz_21, xdz_22, xdz_23, xdz_24, xdz_25, xdz_26, xdz_27, xdz_28, xdz_29, xlen, xcat, xc1, Nat.zero_le, Nat.reduceLeDiff, List.length_cons, List.length_nil, Int.le_refl, xr_c (n := 0) rfl]
      exact hq _
    have hFz : ¬ F (kx t k p) = 0 := by rw [← hSp]; exact hz
    have rwn : XInR w := by
      have := sm_bd (S := S) (a := 64 * d) (b := 16000) (n := 64) (fun y y0 y1 => by
        rw [hS y (by omega) (by omega)]
        have := BR_F hB (kx t k y)
        omega)
      exact ⟨by omega, by omega⟩
    have hw0' : ¬ w ≤ 0 := by omega
    have d0 : 0 ≤ d := by omega
    have d31 : d < 31 := by omega
    have hds : 0 ≤ (2 : Int) ^ d.toNat ∧ (2 : Int) ^ d.toNat < 8 := by rcases hd with rfl | rfl | rfl <;> decide
    refine yru_ok hC [321, 231] 4 _ _ _ _ ?_
    simp only [ykk_ap, Int.reduceEq, Int.reduceLT, Int.reduceLE, Int.reduceNeg, Int.reduceAdd, Int.reduceSub, Int.reduceMul, and_self, false_and, and_false, not_true_eq_false, not_false_eq_true, true_implies, false_implies, xq0, xq1, xq2, xq3, xq4, xq5, xqR, xq1R, xq3R, xt1, xt2, xt3, List.mem_cons, List.not_mem_nil, or_false, false_or, or_self, if_false, if_true, reduceIte, reduceCtorEq, xent, xen, List.length_cons, List.length_nil, List.replicate, j_c, j_cJ, j_ild, j_ald, j_lld, j_ist, j_ast, j_lst, j_inc, j_add, j_sub, j_mul, j_neg, j_div, j_rem, j_and, j_shr, j_shl1, j_or, j_ladd, j_lsub, j_lmul, j_i2l, j_lcmp, j_i2c, j_dup, j_dup2, j_pop, j_goto, j_ieq, j_ine, j_ilt, j_ige, j_igt, j_ile, j_eq, j_ne, j_lt, j_ge, j_gt, j_le, xsw, j_tsw, j_gI, j_gJ, j_gR, j_pI, j_pJ, j_gs, j_iald, j_iast, j_cald, j_cast, j_aald, j_cpy, j_min, j_max, j_abs, j_iret, j_zret, j_lret, j_dret, j_ret0, j_V0, j_V1, j_V2, j_V3, j_V4, j_V5, j_S1, j_S2, j_S3, xget, xset, xset2, xclr, xc1, xcat, Nat.reduceAdd, Nat.reduceEqDiff, Nat.reduceLT, Nat.reduceLeDiff, Nat.reduceMul, List.cons_append, List.nil_append, true_and, and_true, List.singleton_append, j_lsw2, j_Sn, j_ush, j_dupx2, List.take_succ_cons, List.take_zero, List.drop_succ_cons, List.drop_zero, List.reverse_cons, List.reverse_nil, Nat.le_refl, fL_lorries_226, fL_lorries_228, xvz_20, xvz_21, xvz_22, xvz_23, xvz_24, xvz_25, xvz_26, xvz_27, xvz_28, xvz_29, xrz_20, xrz_21, xrz_22, xrz_23, xrz_24, xrz_25, xrz_26, xrz_27, xrz_28, xrz_29, xdz_20, xdz_21, xdz_22, xdz_23, xdz_24, xdz_25, xdz_26, xdz_27, xdz_28, xdz_29, xlen, xcat, xc1, Nat.zero_le, Nat.reduceLeDiff, List.length_cons, List.length_nil, rwn, hw0', d0, d31, xr_c (n := 0) rfl, xr_c (n := 1) rfl]
    refine yru_ok hC [243] 9 _ _ _ _ ?_
    simp only [ykk_ap, Int.reduceEq, Int.reduceLT, Int.reduceLE, Int.reduceNeg, Int.reduceAdd, Int.reduceSub, Int.reduceMul, and_self, false_and, and_false, not_true_eq_false, not_false_eq_true, true_implies, false_implies, xq0, xq1, xq2, xq3, xq4, xq5, xqR, xq1R, xq3R, xt1, xt2, xt3, List.mem_cons, List.not_mem_nil, or_false, false_or, or_self, if_false, if_true, reduceIte, reduceCtorEq, xent, xen, List.length_cons, List.length_nil, List.replicate, j_c, j_cJ, j_ild, j_ald, j_lld, j_ist, j_ast, j_lst, j_inc, j_add, j_sub, j_mul, j_neg, j_div, j_rem, j_and, j_shr, j_shl1, j_or, j_ladd, j_lsub, j_lmul, j_i2l, j_lcmp, j_i2c, j_dup, j_dup2, j_pop, j_goto, j_ieq, j_ine, j_ilt, j_ige, j_igt, j_ile, j_eq, j_ne, j_lt, j_ge, j_gt, j_le, xsw, j_tsw, j_gI, j_gJ, j_gR, j_pI, j_pJ, j_gs, j_iald, j_iast, j_cald, j_cast, j_aald, j_cpy, j_min, j_max, j_abs, j_iret, j_zret, j_lret, j_dret, j_ret0, j_V0, j_V1, j_V2, j_V3, j_V4, j_V5, j_S1, j_S2, j_S3, xget, xset, xset2, xclr, xc1, xcat, Nat.reduceAdd, Nat.reduceEqDiff, Nat.reduceLT, Nat.reduceLeDiff, Nat.reduceMul, List.cons_append, List.nil_append, true_and, and_true, List.singleton_append, j_lsw2, j_Sn, j_ush, j_dupx2, List.take_succ_cons, List.take_zero, List.drop_succ_cons, List.drop_zero, List.reverse_cons, List.reverse_nil, Nat.le_refl, fL_lorries_231, fL_lorries_232, fL_lorries_234, fL_lorries_236, fL_lorries_237, fL_lorries_239, fL_lorries_240, xvz_20, xvz_21, xvz_22, xvz_23, xvz_24, xvz_25, xvz_26, xvz_27, xvz_28, xvz_29, xrz_20, xrz_21, xrz_22, xrz_23, xrz_24, xrz_25, xrz_26, xrz_27, xrz_28, xrz_29, xdz_20, xdz_21, xdz_22, xdz_23, xdz_24, xdz_25, xdz_26, xdz_27, xdz_28, xdz_29, xlen, xcat, xc1, Nat.zero_le, Nat.reduceLeDiff, List.length_cons, List.length_nil, rwn, hw0', d0, d31, xr_c (n := 0) rfl, xr_c (n := 1) rfl]
    refine ug_first hB ⟨by omega, by omega⟩ hds (fun b hb => ?_)
    rcases hb with ⟨-, hb⟩ | ⟨⟨b0, bN⟩, hbf, hbm⟩
    · exact absurd (hb _ hfm) hFz
    have hka := hB.2.1 b b0 bN
    have hkey : kx t k p = M 29 0 0 b % 131072 := by
      have h1 := hbm _ hfm hFz
      obtain ⟨y, hy, ey⟩ := hcov _ hbf (by omega)
      rcases List.mem_cons.mp hy with rfl | hy
      · exact ey
      · have := hL2'.1 y hy
        omega
    have hSa : S p = M 29 0 0 b / 131072 := by rw [hSp, hkey]; exact hka.2.2
    have hto : M 29 0 0 b % 131072 - k + 4 + l = kx t (4 + l) p := by
      rw [← hkey]
      unfold kx
      omega
    obtain ⟨v, hv⟩ : ∃ v : Int, v = min w (S p) := ⟨_, rfl⟩
    have b64 : b < 64 := by have := hB.1; omega
    have ra : XInR (M 29 0 0 b) := ⟨by omega, by omega⟩
    have rv : XInR (M 29 0 0 b / 131072) := ⟨by omega, by omega⟩
    have p17 : M 29 0 0 b / 2 ^ (17 : Int).toNat = M 29 0 0 b / 131072 := rfl
    obtain ⟨F1, hF1⟩ : ∃ F1 : Int → Int, F1 = sup F (kx t k p) (F (kx t k p) - v) := ⟨_, rfl⟩
    obtain ⟨F2, hF2⟩ : ∃ F2 : Int → Int, F2 = sup F1 (kx t (4 + l) p) (F1 (kx t (4 + l) p) + v) := ⟨_, rfl⟩
    have mv := mv_F hsk hsl (by omega) (by omega) hp.1.1 hp.1.2 hW hFz hS hR hF1 hF2
    have ecy : cyL (p :: L) S R w = cyL L (sup S p (S p - v)) (sup R p (R p + v)) (w - v) := by rw [hv]; rfl
    rw [ecy] at h
    have hq131 : 0 ≤ kx t (4 + l) p ∧ kx t (4 + l) p < 131072 := by omega
    have esm : sm (sup S p (S p - v)) (64 * d) 64 = sm S (64 * d) 64 - v := by
      rw [sm_sup, if_pos (by omega)]
      omega
    have fin : ∀ (M1 M2 : XM) (y17 : Option XV), pLess M M1 F T b v → pPut M1 M2 F1 (T - v) (kx t (4 + l) p) v → WW 226 [some (xR 0 0 0), some (xI x), some (xI y), some (xR 20 0 0), some (xR 21 0 0), some (xR 22 0 0), some (xR 26 0 0), some (xR 27 0 0), some (xR 29 0 0), some (xI l), some (xI k), some (xI act), some (xI d), some (xI n), some (xI (w - v)), some (xI b), some (xI v), y17] [] M2 := fun M1 M2 y17 hL hP => by
      have hB2 : BM M2 F2 T := by
        have := hP.2.1
        rw [← hF2, show T - v + v = T by omega] at this
        exact this
      have sm1 : bSame M M2 := bSame_trans hL.1 hP.1
      have hN2 : (v = S p → M2 20 0 0 12 ≤ M 20 0 0 12) ∧ M2 20 0 0 12 ≤ M 20 0 0 12 + 1 := by
        refine ⟨fun e => ?_, ?_⟩
        · have := (hL.2.2.2 (by rw [← hkey, ← hSp]; exact e.symm)).1
          rcases hP.2.2 with z | z <;> omega
        · rcases hL.2.2.1 with z | z <;> rcases hP.2.2 with z2 | z2 <;> omega
      by_cases ev : v = S p
      · refine kL_load_in hC hk hl hd L hL1' hL2'.2 (sup S p (S p - v)) (sup R p (R p + v)) F2 T (w - v) (some (xI b)) (some (xI v)) y17 M2 hB2 mv.2.2.2 mv.1 mv.2.1 (fun q hq hF => ?_) (by rw [esm]; omega) (by have := hN2.1 ev; omega) hT ht (fun M' F' T' y14 y15 y16 y17 he => h M' F' T' y14 y15 y16 y17 ⟨⟨bSame_trans sm1 he.1.1, by have := he.1.2; have := hN2.1 ev; omega⟩, he.2.1, he.2.2.1, he.2.2.2.1, he.2.2.2.2.1, fun q a b => (he.2.2.2.2.2.1 q a b).trans (mv.2.2.1 q a b), he.2.2.2.2.2.2⟩)
        have hqk := ((fMt_one hd).mp hq).1
        have eF2 : F2 q = F1 q := by
          rw [hF2]
          simp only [sup_at]
          rw [if_neg (fun z => by rw [z] at hqk; omega)]
        rw [eF2, hF1] at hF
        simp only [sup_at] at hF
        by_cases e : q = kx t k p
        · rw [if_pos e] at hF
          exact absurd (by omega) hF
        · rw [if_neg e] at hF
          obtain ⟨y, hy, ey⟩ := hcov q hq hF
          rcases List.mem_cons.mp hy with rfl | hy
          · exact absurd ey.symm e
          · exact ⟨y, hy, ey⟩
      · have ew : w - v = 0 := by omega
        rw [ew] at h ⊢
        have e0 : cyL L (sup S p (S p - v)) (sup R p (R p + v)) 0 = (sup S p (S p - v), sup R p (R p + v)) := cyL_0 L _ _ (fun y hy => by
          have g := (hL1' y hy).1
          rw [mv.1 y g.1 g.2]
          exact (BR_F hB2 _).1)
        rw [e0] at h
        have hq := fun y14 => h M2 F2 T y14 (some (xI b)) (some (xI v)) y17 ⟨⟨sm1, hN2.2⟩, hB2, rfl, mv.1, mv.2.1, mv.2.2.1, mv.2.2.2⟩
        refine yru_ok hC [321, 231] 4 _ _ _ _ ?_
        simp only [ykk_ap, Int.reduceEq, Int.reduceLT, Int.reduceLE, Int.reduceNeg, Int.reduceAdd, Int.reduceSub, Int.reduceMul, and_self, false_and, and_false, not_true_eq_false, not_false_eq_true, true_implies, false_implies, xq0, xq1, xq2, xq3, xq4, xq5, xqR, xq1R, xq3R, xt1, xt2, xt3, List.mem_cons, List.not_mem_nil, or_false, false_or, or_self, if_false, if_true, reduceIte, reduceCtorEq, xent, xen, List.length_cons, List.length_nil, List.replicate, j_c, j_cJ, j_ild, j_ald, j_lld, j_ist, j_ast, j_lst, j_inc, j_add, j_sub, j_mul, j_neg, j_div, j_rem, j_and, j_shr, j_shl1, j_or, j_ladd, j_lsub, j_lmul, j_i2l, j_lcmp, j_i2c, j_dup, j_dup2, j_pop, j_goto, j_ieq, j_ine, j_ilt, j_ige, j_igt, j_ile, j_eq, j_ne, j_lt, j_ge, j_gt, j_le, xsw, j_tsw, j_gI, j_gJ, j_gR, j_pI, j_pJ, j_gs, j_iald, j_iast, j_cald, j_cast, j_aald, j_cpy, j_min, j_max, j_abs, j_iret, j_zret, j_lret, j_dret, j_ret0, j_V0, j_V1, j_V2, j_V3, j_V4, j_V5, j_S1, j_S2, j_S3, xget, xset, xset2, xclr, xc1, xcat, Nat.reduceAdd, Nat.reduceEqDiff, Nat.reduceLT, Nat.reduceLeDiff, Nat.reduceMul, List.cons_append, List.nil_append, true_and, and_true, List.singleton_append, j_lsw2, j_Sn, j_ush, j_dupx2, List.take_succ_cons, List.take_zero, List.drop_succ_cons, List.drop_zero, List.reverse_cons, List.reverse_nil, Nat.le_refl, fL_lorries_226, fL_lorries_228, xvz_20, xvz_21, xvz_22, xvz_23, xvz_24, xvz_25, xvz_26, xvz_27, xvz_28, xvz_29, xrz_20, xrz_21, xrz_22, xrz_23, xrz_24, xrz_25, xrz_26, xrz_27, xrz_28, xrz_29, xdz_20, xdz_21, xdz_22, xdz_23, xdz_24, xdz_25, xdz_26, xdz_27, xdz_28, xdz_29, xlen, xcat, xc1, Nat.zero_le, Nat.reduceLeDiff, List.length_cons, List.length_nil, Int.le_refl, xr_c (n := 0) rfl]
        exact hq _
    by_cases hc : w ≤ M 29 0 0 b / 131072
    · have hvw : v = w := by omega
      refine yru_ok hC [269, 258] 10 _ _ _ _ ?_
      simp only [ykk_ap, Int.reduceEq, Int.reduceLT, Int.reduceLE, Int.reduceNeg, Int.reduceAdd, Int.reduceSub, Int.reduceMul, and_self, false_and, and_false, not_true_eq_false, not_false_eq_true, true_implies, false_implies, xq0, xq1, xq2, xq3, xq4, xq5, xqR, xq1R, xq3R, xt1, xt2, xt3, List.mem_cons, List.not_mem_nil, or_false, false_or, or_self, if_false, if_true, reduceIte, reduceCtorEq, xent, xen, List.length_cons, List.length_nil, List.replicate, j_c, j_cJ, j_ild, j_ald, j_lld, j_ist, j_ast, j_lst, j_inc, j_add, j_sub, j_mul, j_neg, j_div, j_rem, j_and, j_shr, j_shl1, j_or, j_ladd, j_lsub, j_lmul, j_i2l, j_lcmp, j_i2c, j_dup, j_dup2, j_pop, j_goto, j_ieq, j_ine, j_ilt, j_ige, j_igt, j_ile, j_eq, j_ne, j_lt, j_ge, j_gt, j_le, xsw, j_tsw, j_gI, j_gJ, j_gR, j_pI, j_pJ, j_gs, j_iald, j_iast, j_cald, j_cast, j_aald, j_cpy, j_min, j_max, j_abs, j_iret, j_zret, j_lret, j_dret, j_ret0, j_V0, j_V1, j_V2, j_V3, j_V4, j_V5, j_S1, j_S2, j_S3, xget, xset, xset2, xclr, xc1, xcat, Nat.reduceAdd, Nat.reduceEqDiff, Nat.reduceLT, Nat.reduceLeDiff, Nat.reduceMul, List.cons_append, List.nil_append, true_and, and_true, List.singleton_append, j_lsw2, j_Sn, j_ush, j_dupx2, List.take_succ_cons, List.take_zero, List.drop_succ_cons, List.drop_zero, List.reverse_cons, List.reverse_nil, Nat.le_refl, fL_lorries_243, fL_lorries_245, fL_lorries_247, fL_lorries_249, fL_lorries_250, fL_lorries_252, fL_lorries_253, fL_lorries_255, xvz_20, xvz_21, xvz_22, xvz_23, xvz_24, xvz_25, xvz_26, xvz_27, xvz_28, xvz_29, xrz_20, xrz_21, xrz_22, xrz_23, xrz_24, xrz_25, xrz_26, xrz_27, xrz_28, xrz_29, xdz_20, xdz_21, xdz_22, xdz_23, xdz_24, xdz_25, xdz_26, xdz_27, xdz_28, xdz_29, xlen, xcat, xc1, Nat.zero_le, Nat.reduceLeDiff, List.length_cons, List.length_nil, b0, b64, ra, rv, p17, rwn, hc]
      refine yru_ok hC [271] 3 _ _ _ _ ?_
      simp only [ykk_ap, Int.reduceEq, Int.reduceLT, Int.reduceLE, Int.reduceNeg, Int.reduceAdd, Int.reduceSub, Int.reduceMul, and_self, false_and, and_false, not_true_eq_false, not_false_eq_true, true_implies, false_implies, xq0, xq1, xq2, xq3, xq4, xq5, xqR, xq1R, xq3R, xt1, xt2, xt3, List.mem_cons, List.not_mem_nil, or_false, false_or, or_self, if_false, if_true, reduceIte, reduceCtorEq, xent, xen, List.length_cons, List.length_nil, List.replicate, j_c, j_cJ, j_ild, j_ald, j_lld, j_ist, j_ast, j_lst, j_inc, j_add, j_sub, j_mul, j_neg, j_div, j_rem, j_and, j_shr, j_shl1, j_or, j_ladd, j_lsub, j_lmul, j_i2l, j_lcmp, j_i2c, j_dup, j_dup2, j_pop, j_goto, j_ieq, j_ine, j_ilt, j_ige, j_igt, j_ile, j_eq, j_ne, j_lt, j_ge, j_gt, j_le, xsw, j_tsw, j_gI, j_gJ, j_gR, j_pI, j_pJ, j_gs, j_iald, j_iast, j_cald, j_cast, j_aald, j_cpy, j_min, j_max, j_abs, j_iret, j_zret, j_lret, j_dret, j_ret0, j_V0, j_V1, j_V2, j_V3, j_V4, j_V5, j_S1, j_S2, j_S3, xget, xset, xset2, xclr, xc1, xcat, Nat.reduceAdd, Nat.reduceEqDiff, Nat.reduceLT, Nat.reduceLeDiff, Nat.reduceMul, List.cons_append, List.nil_append, true_and, and_true, List.singleton_append, j_lsw2, j_Sn, j_ush, j_dupx2, List.take_succ_cons, List.take_zero, List.drop_succ_cons, List.drop_zero, List.reverse_cons, List.reverse_nil, Nat.le_refl, fL_lorries_269, xvz_20, xvz_21, xvz_22, xvz_23, xvz_24, xvz_25, xvz_26, xvz_27, xvz_28, xvz_29, xrz_20, xrz_21, xrz_22, xrz_23, xrz_24, xrz_25, xrz_26, xrz_27, xrz_28, xrz_29, xdz_20, xdz_21, xdz_22, xdz_23, xdz_24, xdz_25, xdz_26, xdz_27, xdz_28, xdz_29, xlen, xcat, xc1, Nat.zero_le, Nat.reduceLeDiff, List.length_cons, List.length_nil, b0, b64, ra, rv, p17, rwn, hc]
      refine yru_ok hC [301] 20 _ _ _ _ ?_
      simp only [ykk_ap, Int.reduceEq, Int.reduceLT, Int.reduceLE, Int.reduceNeg, Int.reduceAdd, Int.reduceSub, Int.reduceMul, and_self, false_and, and_false, not_true_eq_false, not_false_eq_true, true_implies, false_implies, xq0, xq1, xq2, xq3, xq4, xq5, xqR, xq1R, xq3R, xt1, xt2, xt3, List.mem_cons, List.not_mem_nil, or_false, false_or, or_self, if_false, if_true, reduceIte, reduceCtorEq, xent, xen, List.length_cons, List.length_nil, List.replicate, j_c, j_cJ, j_ild, j_ald, j_lld, j_ist, j_ast, j_lst, j_inc, j_add, j_sub, j_mul, j_neg, j_div, j_rem, j_and, j_shr, j_shl1, j_or, j_ladd, j_lsub, j_lmul, j_i2l, j_lcmp, j_i2c, j_dup, j_dup2, j_pop, j_goto, j_ieq, j_ine, j_ilt, j_ige, j_igt, j_ile, j_eq, j_ne, j_lt, j_ge, j_gt, j_le, xsw, j_tsw, j_gI, j_gJ, j_gR, j_pI, j_pJ, j_gs, j_iald, j_iast, j_cald, j_cast, j_aald, j_cpy, j_min, j_max, j_abs, j_iret, j_zret, j_lret, j_dret, j_ret0, j_V0, j_V1, j_V2, j_V3, j_V4, j_V5, j_S1, j_S2, j_S3, xget, xset, xset2, xclr, xc1, xcat, Nat.reduceAdd, Nat.reduceEqDiff, Nat.reduceLT, Nat.reduceLeDiff, Nat.reduceMul, List.cons_append, List.nil_append, true_and, and_true, List.singleton_append, j_lsw2, j_Sn, j_ush, j_dupx2, List.take_succ_cons, List.take_zero, List.drop_succ_cons, List.drop_zero, List.reverse_cons, List.reverse_nil, Nat.le_refl, fL_lorries_271, fL_lorries_273, fL_lorries_275, fL_lorries_277, fL_lorries_278, fL_lorries_280, fL_lorries_281, fL_lorries_283, fL_lorries_284, fL_lorries_285, fL_lorries_286, fL_lorries_288, fL_lorries_289, fL_lorries_291, fL_lorries_292, fL_lorries_294, fL_lorries_296, fL_lorries_298, xvz_20, xvz_21, xvz_22, xvz_23, xvz_24, xvz_25, xvz_26, xvz_27, xvz_28, xvz_29, xrz_20, xrz_21, xrz_22, xrz_23, xrz_24, xrz_25, xrz_26, xrz_27, xrz_28, xrz_29, xdz_20, xdz_21, xdz_22, xdz_23, xdz_24, xdz_25, xdz_26, xdz_27, xdz_28, xdz_29, xlen, xcat, xc1, Nat.zero_le, Nat.reduceLeDiff, List.length_cons, List.length_nil, b0, b64, ra, rv, p17, rwn, hc]
      refine ug_less hB ⟨b0, bN⟩ ⟨by omega, by omega⟩ (fun M1 hL => ?_)
      rw [← hvw] at hL
      have hB1 : BM M1 F1 (T - v) := by rw [hF1, hkey]; exact hL.2.1
      refine yru_ok hC [311] 7 _ _ _ _ ?_
      simp only [ykk_ap, Int.reduceEq, Int.reduceLT, Int.reduceLE, Int.reduceNeg, Int.reduceAdd, Int.reduceSub, Int.reduceMul, and_self, false_and, and_false, not_true_eq_false, not_false_eq_true, true_implies, false_implies, xq0, xq1, xq2, xq3, xq4, xq5, xqR, xq1R, xq3R, xt1, xt2, xt3, List.mem_cons, List.not_mem_nil, or_false, false_or, or_self, if_false, if_true, reduceIte, reduceCtorEq, xent, xen, List.length_cons, List.length_nil, List.replicate, j_c, j_cJ, j_ild, j_ald, j_lld, j_ist, j_ast, j_lst, j_inc, j_add, j_sub, j_mul, j_neg, j_div, j_rem, j_and, j_shr, j_shl1, j_or, j_ladd, j_lsub, j_lmul, j_i2l, j_lcmp, j_i2c, j_dup, j_dup2, j_pop, j_goto, j_ieq, j_ine, j_ilt, j_ige, j_igt, j_ile, j_eq, j_ne, j_lt, j_ge, j_gt, j_le, xsw, j_tsw, j_gI, j_gJ, j_gR, j_pI, j_pJ, j_gs, j_iald, j_iast, j_cald, j_cast, j_aald, j_cpy, j_min, j_max, j_abs, j_iret, j_zret, j_lret, j_dret, j_ret0, j_V0, j_V1, j_V2, j_V3, j_V4, j_V5, j_S1, j_S2, j_S3, xget, xset, xset2, xclr, xc1, xcat, Nat.reduceAdd, Nat.reduceEqDiff, Nat.reduceLT, Nat.reduceLeDiff, Nat.reduceMul, List.cons_append, List.nil_append, true_and, and_true, List.singleton_append, j_lsw2, j_Sn, j_ush, j_dupx2, List.take_succ_cons, List.take_zero, List.drop_succ_cons, List.drop_zero, List.reverse_cons, List.reverse_nil, Nat.le_refl, fL_lorries_301, fL_lorries_302, fL_lorries_304, fL_lorries_306, fL_lorries_308, xvz_20, xvz_21, xvz_22, xvz_23, xvz_24, xvz_25, xvz_26, xvz_27, xvz_28, xvz_29, xrz_20, xrz_21, xrz_22, xrz_23, xrz_24, xrz_25, xrz_26, xrz_27, xrz_28, xrz_29, xdz_20, xdz_21, xdz_22, xdz_23, xdz_24, xdz_25, xdz_26, xdz_27, xdz_28, xdz_29, xlen, xcat, xc1, Nat.zero_le, Nat.reduceLeDiff, List.length_cons, List.length_nil]
      rw [hto, ← hvw]
      refine ug_put hB1 (by rcases hL.2.2.1 with z | z <;> omega) hq131 (by omega) (by omega) (fun M2 hP => ?_)
      refine yru_ok hC [226] 7 _ _ _ _ ?_
      simp only [ykk_ap, Int.reduceEq, Int.reduceLT, Int.reduceLE, Int.reduceNeg, Int.reduceAdd, Int.reduceSub, Int.reduceMul, and_self, false_and, and_false, not_true_eq_false, not_false_eq_true, true_implies, false_implies, xq0, xq1, xq2, xq3, xq4, xq5, xqR, xq1R, xq3R, xt1, xt2, xt3, List.mem_cons, List.not_mem_nil, or_false, false_or, or_self, if_false, if_true, reduceIte, reduceCtorEq, xent, xen, List.length_cons, List.length_nil, List.replicate, j_c, j_cJ, j_ild, j_ald, j_lld, j_ist, j_ast, j_lst, j_inc, j_add, j_sub, j_mul, j_neg, j_div, j_rem, j_and, j_shr, j_shl1, j_or, j_ladd, j_lsub, j_lmul, j_i2l, j_lcmp, j_i2c, j_dup, j_dup2, j_pop, j_goto, j_ieq, j_ine, j_ilt, j_ige, j_igt, j_ile, j_eq, j_ne, j_lt, j_ge, j_gt, j_le, xsw, j_tsw, j_gI, j_gJ, j_gR, j_pI, j_pJ, j_gs, j_iald, j_iast, j_cald, j_cast, j_aald, j_cpy, j_min, j_max, j_abs, j_iret, j_zret, j_lret, j_dret, j_ret0, j_V0, j_V1, j_V2, j_V3, j_V4, j_V5, j_S1, j_S2, j_S3, xget, xset, xset2, xclr, xc1, xcat, Nat.reduceAdd, Nat.reduceEqDiff, Nat.reduceLT, Nat.reduceLeDiff, Nat.reduceMul, List.cons_append, List.nil_append, true_and, and_true, List.singleton_append, j_lsw2, j_Sn, j_ush, j_dupx2, List.take_succ_cons, List.take_zero, List.drop_succ_cons, List.drop_zero, List.reverse_cons, List.reverse_nil, Nat.le_refl, fL_lorries_311, fL_lorries_313, fL_lorries_315, fL_lorries_316, fL_lorries_318, xvz_20, xvz_21, xvz_22, xvz_23, xvz_24, xvz_25, xvz_26, xvz_27, xvz_28, xvz_29, xrz_20, xrz_21, xrz_22, xrz_23, xrz_24, xrz_25, xrz_26, xrz_27, xrz_28, xrz_29, xdz_20, xdz_21, xdz_22, xdz_23, xdz_24, xdz_25, xdz_26, xdz_27, xdz_28, xdz_29, xlen, xcat, xc1, Nat.zero_le, Nat.reduceLeDiff, List.length_cons, List.length_nil]
      have := fin M1 M2 (some (xI (kx t (4 + l) p))) hL hP
      rw [hvw] at this ⊢
      exact this
    · have hvw : v = M 29 0 0 b / 131072 := by omega
      refine yru_ok hC [269, 258] 10 _ _ _ _ ?_
      simp only [ykk_ap, Int.reduceEq, Int.reduceLT, Int.reduceLE, Int.reduceNeg, Int.reduceAdd, Int.reduceSub, Int.reduceMul, and_self, false_and, and_false, not_true_eq_false, not_false_eq_true, true_implies, false_implies, xq0, xq1, xq2, xq3, xq4, xq5, xqR, xq1R, xq3R, xt1, xt2, xt3, List.mem_cons, List.not_mem_nil, or_false, false_or, or_self, if_false, if_true, reduceIte, reduceCtorEq, xent, xen, List.length_cons, List.length_nil, List.replicate, j_c, j_cJ, j_ild, j_ald, j_lld, j_ist, j_ast, j_lst, j_inc, j_add, j_sub, j_mul, j_neg, j_div, j_rem, j_and, j_shr, j_shl1, j_or, j_ladd, j_lsub, j_lmul, j_i2l, j_lcmp, j_i2c, j_dup, j_dup2, j_pop, j_goto, j_ieq, j_ine, j_ilt, j_ige, j_igt, j_ile, j_eq, j_ne, j_lt, j_ge, j_gt, j_le, xsw, j_tsw, j_gI, j_gJ, j_gR, j_pI, j_pJ, j_gs, j_iald, j_iast, j_cald, j_cast, j_aald, j_cpy, j_min, j_max, j_abs, j_iret, j_zret, j_lret, j_dret, j_ret0, j_V0, j_V1, j_V2, j_V3, j_V4, j_V5, j_S1, j_S2, j_S3, xget, xset, xset2, xclr, xc1, xcat, Nat.reduceAdd, Nat.reduceEqDiff, Nat.reduceLT, Nat.reduceLeDiff, Nat.reduceMul, List.cons_append, List.nil_append, true_and, and_true, List.singleton_append, j_lsw2, j_Sn, j_ush, j_dupx2, List.take_succ_cons, List.take_zero, List.drop_succ_cons, List.drop_zero, List.reverse_cons, List.reverse_nil, Nat.le_refl, fL_lorries_243, fL_lorries_245, fL_lorries_247, fL_lorries_249, fL_lorries_250, fL_lorries_252, fL_lorries_253, fL_lorries_255, xvz_20, xvz_21, xvz_22, xvz_23, xvz_24, xvz_25, xvz_26, xvz_27, xvz_28, xvz_29, xrz_20, xrz_21, xrz_22, xrz_23, xrz_24, xrz_25, xrz_26, xrz_27, xrz_28, xrz_29, xdz_20, xdz_21, xdz_22, xdz_23, xdz_24, xdz_25, xdz_26, xdz_27, xdz_28, xdz_29, xlen, xcat, xc1, Nat.zero_le, Nat.reduceLeDiff, List.length_cons, List.length_nil, b0, b64, ra, rv, p17, rwn, hc]
      refine yru_ok hC [271] 8 _ _ _ _ ?_
      simp only [ykk_ap, Int.reduceEq, Int.reduceLT, Int.reduceLE, Int.reduceNeg, Int.reduceAdd, Int.reduceSub, Int.reduceMul, and_self, false_and, and_false, not_true_eq_false, not_false_eq_true, true_implies, false_implies, xq0, xq1, xq2, xq3, xq4, xq5, xqR, xq1R, xq3R, xt1, xt2, xt3, List.mem_cons, List.not_mem_nil, or_false, false_or, or_self, if_false, if_true, reduceIte, reduceCtorEq, xent, xen, List.length_cons, List.length_nil, List.replicate, j_c, j_cJ, j_ild, j_ald, j_lld, j_ist, j_ast, j_lst, j_inc, j_add, j_sub, j_mul, j_neg, j_div, j_rem, j_and, j_shr, j_shl1, j_or, j_ladd, j_lsub, j_lmul, j_i2l, j_lcmp, j_i2c, j_dup, j_dup2, j_pop, j_goto, j_ieq, j_ine, j_ilt, j_ige, j_igt, j_ile, j_eq, j_ne, j_lt, j_ge, j_gt, j_le, xsw, j_tsw, j_gI, j_gJ, j_gR, j_pI, j_pJ, j_gs, j_iald, j_iast, j_cald, j_cast, j_aald, j_cpy, j_min, j_max, j_abs, j_iret, j_zret, j_lret, j_dret, j_ret0, j_V0, j_V1, j_V2, j_V3, j_V4, j_V5, j_S1, j_S2, j_S3, xget, xset, xset2, xclr, xc1, xcat, Nat.reduceAdd, Nat.reduceEqDiff, Nat.reduceLT, Nat.reduceLeDiff, Nat.reduceMul, List.cons_append, List.nil_append, true_and, and_true, List.singleton_append, j_lsw2, j_Sn, j_ush, j_dupx2, List.take_succ_cons, List.take_zero, List.drop_succ_cons, List.drop_zero, List.reverse_cons, List.reverse_nil, Nat.le_refl, fL_lorries_258, fL_lorries_260, fL_lorries_262, fL_lorries_263, fL_lorries_265, fL_lorries_266, xvz_20, xvz_21, xvz_22, xvz_23, xvz_24, xvz_25, xvz_26, xvz_27, xvz_28, xvz_29, xrz_20, xrz_21, xrz_22, xrz_23, xrz_24, xrz_25, xrz_26, xrz_27, xrz_28, xrz_29, xdz_20, xdz_21, xdz_22, xdz_23, xdz_24, xdz_25, xdz_26, xdz_27, xdz_28, xdz_29, xlen, xcat, xc1, Nat.zero_le, Nat.reduceLeDiff, List.length_cons, List.length_nil, b0, b64, ra, rv, p17, rwn, hc]
      refine yru_ok hC [301] 20 _ _ _ _ ?_
      simp only [ykk_ap, Int.reduceEq, Int.reduceLT, Int.reduceLE, Int.reduceNeg, Int.reduceAdd, Int.reduceSub, Int.reduceMul, and_self, false_and, and_false, not_true_eq_false, not_false_eq_true, true_implies, false_implies, xq0, xq1, xq2, xq3, xq4, xq5, xqR, xq1R, xq3R, xt1, xt2, xt3, List.mem_cons, List.not_mem_nil, or_false, false_or, or_self, if_false, if_true, reduceIte, reduceCtorEq, xent, xen, List.length_cons, List.length_nil, List.replicate, j_c, j_cJ, j_ild, j_ald, j_lld, j_ist, j_ast, j_lst, j_inc, j_add, j_sub, j_mul, j_neg, j_div, j_rem, j_and, j_shr, j_shl1, j_or, j_ladd, j_lsub, j_lmul, j_i2l, j_lcmp, j_i2c, j_dup, j_dup2, j_pop, j_goto, j_ieq, j_ine, j_ilt, j_ige, j_igt, j_ile, j_eq, j_ne, j_lt, j_ge, j_gt, j_le, xsw, j_tsw, j_gI, j_gJ, j_gR, j_pI, j_pJ, j_gs, j_iald, j_iast, j_cald, j_cast, j_aald, j_cpy, j_min, j_max, j_abs, j_iret, j_zret, j_lret, j_dret, j_ret0, j_V0, j_V1, j_V2, j_V3, j_V4, j_V5, j_S1, j_S2, j_S3, xget, xset, xset2, xclr, xc1, xcat, Nat.reduceAdd, Nat.reduceEqDiff, Nat.reduceLT, Nat.reduceLeDiff, Nat.reduceMul, List.cons_append, List.nil_append, true_and, and_true, List.singleton_append, j_lsw2, j_Sn, j_ush, j_dupx2, List.take_succ_cons, List.take_zero, List.drop_succ_cons, List.drop_zero, List.reverse_cons, List.reverse_nil, Nat.le_refl, fL_lorries_271, fL_lorries_273, fL_lorries_275, fL_lorries_277, fL_lorries_278, fL_lorries_280, fL_lorries_281, fL_lorries_283, fL_lorries_284, fL_lorries_285, fL_lorries_286, fL_lorries_288, fL_lorries_289, fL_lorries_291, fL_lorries_292, fL_lorries_294, fL_lorries_296, fL_lorries_298, xvz_20, xvz_21, xvz_22, xvz_23, xvz_24, xvz_25, xvz_26, xvz_27, xvz_28, xvz_29, xrz_20, xrz_21, xrz_22, xrz_23, xrz_24, xrz_25, xrz_26, xrz_27, xrz_28, xrz_29, xdz_20, xdz_21, xdz_22, xdz_23, xdz_24, xdz_25, xdz_26, xdz_27, xdz_28, xdz_29, xlen, xcat, xc1, Nat.zero_le, Nat.reduceLeDiff, List.length_cons, List.length_nil, b0, b64, ra, rv, p17, rwn, hc]
      refine ug_less hB ⟨b0, bN⟩ ⟨by omega, by omega⟩ (fun M1 hL => ?_)
      rw [← hvw] at hL
      have hB1 : BM M1 F1 (T - v) := by rw [hF1, hkey]; exact hL.2.1
      refine yru_ok hC [311] 7 _ _ _ _ ?_
      simp only [ykk_ap, Int.reduceEq, Int.reduceLT, Int.reduceLE, Int.reduceNeg, Int.reduceAdd, Int.reduceSub, Int.reduceMul, and_self, false_and, and_false, not_true_eq_false, not_false_eq_true, true_implies, false_implies, xq0, xq1, xq2, xq3, xq4, xq5, xqR, xq1R, xq3R, xt1, xt2, xt3, List.mem_cons, List.not_mem_nil, or_false, false_or, or_self, if_false, if_true, reduceIte, reduceCtorEq, xent, xen, List.length_cons, List.length_nil, List.replicate, j_c, j_cJ, j_ild, j_ald, j_lld, j_ist, j_ast, j_lst, j_inc, j_add, j_sub, j_mul, j_neg, j_div, j_rem, j_and, j_shr, j_shl1, j_or, j_ladd, j_lsub, j_lmul, j_i2l, j_lcmp, j_i2c, j_dup, j_dup2, j_pop, j_goto, j_ieq, j_ine, j_ilt, j_ige, j_igt, j_ile, j_eq, j_ne, j_lt, j_ge, j_gt, j_le, xsw, j_tsw, j_gI, j_gJ, j_gR, j_pI, j_pJ, j_gs, j_iald, j_iast, j_cald, j_cast, j_aald, j_cpy, j_min, j_max, j_abs, j_iret, j_zret, j_lret, j_dret, j_ret0, j_V0, j_V1, j_V2, j_V3, j_V4, j_V5, j_S1, j_S2, j_S3, xget, xset, xset2, xclr, xc1, xcat, Nat.reduceAdd, Nat.reduceEqDiff, Nat.reduceLT, Nat.reduceLeDiff, Nat.reduceMul, List.cons_append, List.nil_append, true_and, and_true, List.singleton_append, j_lsw2, j_Sn, j_ush, j_dupx2, List.take_succ_cons, List.take_zero, List.drop_succ_cons, List.drop_zero, List.reverse_cons, List.reverse_nil, Nat.le_refl, fL_lorries_301, fL_lorries_302, fL_lorries_304, fL_lorries_306, fL_lorries_308, xvz_20, xvz_21, xvz_22, xvz_23, xvz_24, xvz_25, xvz_26, xvz_27, xvz_28, xvz_29, xrz_20, xrz_21, xrz_22, xrz_23, xrz_24, xrz_25, xrz_26, xrz_27, xrz_28, xrz_29, xdz_20, xdz_21, xdz_22, xdz_23, xdz_24, xdz_25, xdz_26, xdz_27, xdz_28, xdz_29, xlen, xcat, xc1, Nat.zero_le, Nat.reduceLeDiff, List.length_cons, List.length_nil]
      rw [hto, ← hvw]
      refine ug_put hB1 (by rcases hL.2.2.1 with z | z <;> omega) hq131 (by omega) (by omega) (fun M2 hP => ?_)
      refine yru_ok hC [226] 7 _ _ _ _ ?_
      simp only [ykk_ap, Int.reduceEq, Int.reduceLT, Int.reduceLE, Int.reduceNeg, Int.reduceAdd, Int.reduceSub, Int.reduceMul, and_self, false_and, and_false, not_true_eq_false, not_false_eq_true, true_implies, false_implies, xq0, xq1, xq2, xq3, xq4, xq5, xqR, xq1R, xq3R, xt1, xt2, xt3, List.mem_cons, List.not_mem_nil, or_false, false_or, or_self, if_false, if_true, reduceIte, reduceCtorEq, xent, xen, List.length_cons, List.length_nil, List.replicate, j_c, j_cJ, j_ild, j_ald, j_lld, j_ist, j_ast, j_lst, j_inc, j_add, j_sub, j_mul, j_neg, j_div, j_rem, j_and, j_shr, j_shl1, j_or, j_ladd, j_lsub, j_lmul, j_i2l, j_lcmp, j_i2c, j_dup, j_dup2, j_pop, j_goto, j_ieq, j_ine, j_ilt, j_ige, j_igt, j_ile, j_eq, j_ne, j_lt, j_ge, j_gt, j_le, xsw, j_tsw, j_gI, j_gJ, j_gR, j_pI, j_pJ, j_gs, j_iald, j_iast, j_cald, j_cast, j_aald, j_cpy, j_min, j_max, j_abs, j_iret, j_zret, j_lret, j_dret, j_ret0, j_V0, j_V1, j_V2, j_V3, j_V4, j_V5, j_S1, j_S2, j_S3, xget, xset, xset2, xclr, xc1, xcat, Nat.reduceAdd, Nat.reduceEqDiff, Nat.reduceLT, Nat.reduceLeDiff, Nat.reduceMul, List.cons_append, List.nil_append, true_and, and_true, List.singleton_append, j_lsw2, j_Sn, j_ush, j_dupx2, List.take_succ_cons, List.take_zero, List.drop_succ_cons, List.drop_zero, List.reverse_cons, List.reverse_nil, Nat.le_refl, fL_lorries_311, fL_lorries_313, fL_lorries_315, fL_lorries_316, fL_lorries_318, xvz_20, xvz_21, xvz_22, xvz_23, xvz_24, xvz_25, xvz_26, xvz_27, xvz_28, xvz_29, xrz_20, xrz_21, xrz_22, xrz_23, xrz_24, xrz_25, xrz_26, xrz_27, xrz_28, xrz_29, xdz_20, xdz_21, xdz_22, xdz_23, xdz_24, xdz_25, xdz_26, xdz_27, xdz_28, xdz_29, xlen, xcat, xc1, Nat.zero_le, Nat.reduceLeDiff, List.length_cons, List.length_nil]
      have := fin M1 M2 (some (xI (kx t (4 + l) p))) hL hP
      rw [hvw] at this ⊢
      exact this
end XLd

