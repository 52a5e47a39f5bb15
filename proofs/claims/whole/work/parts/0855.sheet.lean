section XSt
/-- a unit of a sheet: place, people, greens, minutes to its first call, interval -/
abbrev Tu : Type := Int × Int × Int × Int × Int
def tuOK (t : Tu) : Prop := (0 ≤ t.1 ∧ t.1 ≤ 7) ∧ (1 ≤ t.2.1 ∧ t.2.1 ≤ 300) ∧ (0 ≤ t.2.2.1 ∧ t.2.2.1 ≤ 300) ∧ (1 ≤ t.2.2.2.1 ∧ t.2.2.2.1 ≤ 600) ∧ (30 ≤ t.2.2.2.2 ∧ t.2.2.2.2 ≤ 600)
abbrev maT (F : XM) (f : Int) (t : Tu) : Prop := t.1 < F 1 f 0 3 ∧ t.2.2.1 ≤ t.2.1 ∧ F 1 f 0 10 < 12
def nuT (F : XM) (f : Int) (t : Tu) : XM := fNewU F f t.1 t.2.1 t.2.2.1 (F 1 f 0 0 + t.2.2.2.1) t.2.2.2.2
def adL (f : Int) : List Tu → XM → Int × XM
  | [], F => (0, F)
  | t :: ts, F => if maT F f t then ((adL f ts (nuT F f t)).1 + 1, (adL f ts (nuT F f t)).2) else (0, F)
def PA (M : XM) (j : Int) (t : Tu) : Prop := M 24 0 0 (5 * j) = t.1 ∧ M 24 0 0 (5 * j + 1) = t.2.1 ∧ M 24 0 0 (5 * j + 2) = t.2.2.1 ∧ M 24 0 0 (5 * j + 3) = t.2.2.2.1 ∧ M 24 0 0 (5 * j + 4) = t.2.2.2.2
def PS (M : XM) : Int → List Tu → Prop
  | _, [] => True
  | j, t :: ts => PA M j t ∧ PS M (j + 1) ts
theorem PS_24 {M N : XM} (e : N 24 = M 24) : ∀ (l : List Tu) (j : Int), PS M j l → PS N j l
  | [], _, _ => trivial
  | t :: ts, j, h => by
    refine ⟨?_, PS_24 e ts (j + 1) h.2⟩
    have q := h.1
    unfold PA at q ⊢
    rw [e]
    exact q
theorem fI7_nu {F : XM} {f : Int} {t : Tu} (h : fI7 F f) (ht : tuOK t) (hm : maT F f t) : fI7 (nuT F f t) f := by
  obtain ⟨t1, t2, t3, t4, t5⟩ := ht
  obtain ⟨m1, m2, m3⟩ := hm
  have hC := h.1.1
  have c3 := hC.1
  have c0 := hC.2.2.2.2.1
  refine ⟨fI_newU h.1 m3 (by omega) (by omega) ⟨t3.1, m2⟩ (by omega) (by omega), ?_⟩
  have e : nuT F f t 1 f 0 0 = F 1 f 0 0 := by
    unfold nuT fNewU
    simp only [xup_app, Nat.reduceEqDiff, Int.reduceEq, false_and, and_false, if_false]
  rw [e]
  exact h.2
/-- UnitKitchensModel.adds(I)Z -/
abbrev wX8_adds : List Cond := Cond.code yX8_adds cX8_adds 4 (some .boolean) :: xT
abbrev rX8_adds : Room := { frames := 3, cells := 0, slots := 0, locals := 69 }
def pX8_adds (Post : XPo) : List (Nat × XStp) := [(0, j_c 5 1), (1, j_ild 1 1), (2, j_mul), (3, j_ist 2 1), (4, j_ald 0 1), (5, j_ald 0 1), (6, j_gR 20 (fun i k => (24, 0, 0))), (9, j_ild 2 1), (10, j_iald), (11, j_ald 0 1), (12, j_gR 20 (fun i k => (24, 0, 0))), (15, j_ild 2 1), (16, j_c 1 1), (17, j_add), (18, j_iald), (19, j_ald 0 1), (20, j_gR 20 (fun i k => (24, 0, 0))), (23, j_ild 2 1), (24, j_c 2 1), (25, j_add), (26, j_iald), (27, j_ald 0 1), (28, j_gR 20 (fun i k => (24, 0, 0))), (31, j_ild 2 1), (32, j_c 3 1), (33, j_add), (34, j_iald), (35, j_ald 0 1), (36, j_gR 20 (fun i k => (24, 0, 0))), (39, j_ild 2 1), (40, j_c 4 1), (41, j_add), (42, j_iald), (43, j_V5 20 sX8_refusedUnit), (46, j_ist 3 1), (47, j_ild 3 1), (48, j_ne 102), (51, j_ald 0 1), (52, j_ald 0 1), (53, j_gR 20 (fun i k => (24, 0, 0))), (56, j_ild 2 1), (57, j_iald), (58, j_ald 0 1), (59, j_gR 20 (fun i k => (24, 0, 0))), (62, j_ild 2 1), (63, j_c 1 1), (64, j_add), (65, j_iald), (66, j_ald 0 1), (67, j_gR 20 (fun i k => (24, 0, 0))), (70, j_ild 2 1), (71, j_c 2 1), (72, j_add), (73, j_iald), (74, j_ald 0 1), (75, j_gR 20 (fun i k => (21, 0, 0))), (78, j_c 10 2), (80, j_iald), (81, j_ald 0 1), (82, j_gR 20 (fun i k => (24, 0, 0))), (85, j_ild 2 1), (86, j_c 3 1), (87, j_add), (88, j_iald), (89, j_add), (90, j_ald 0 1), (91, j_gR 20 (fun i k => (24, 0, 0))), (94, j_ild 2 1), (95, j_c 4 1), (96, j_add), (97, j_iald), (98, j_V5 20 sX8_putUnit), (101, j_pop), (102, j_ild 3 1), (103, j_ne 110), (106, j_c 1 1), (107, j_goto 111), (110, j_c 0 1), (111, j_zret Post)]
set_option maxRecDepth 100000 in
theorem aX8_adds (Post : XPo) : XAll rX8_adds cX8_adds 4 RX8 wX8_adds (some .boolean) Post (pX8_adds Post) := XAll.cons (xs_iconst dX8_adds_0) (XAll.cons (xs_iload_n dX8_adds_1 rfl) (XAll.cons (xs_imul dX8_adds_2) (XAll.cons (xs_istore_n dX8_adds_3 rfl (by decide)) (XAll.cons (xs_aload_n dX8_adds_4 rfl) (XAll.cons (xs_aload_n dX8_adds_5 rfl) (XAll.cons (fgX8_8 tw_1056 dX8_adds_6) (XAll.cons (xs_iload_n dX8_adds_9 rfl) (XAll.cons (xs_iald dX8_adds_10) (XAll.cons (xs_aload_n dX8_adds_11 rfl) (XAll.cons (fgX8_8 tw_1056 dX8_adds_12) (XAll.cons (xs_iload_n dX8_adds_15 rfl) (XAll.cons (xs_iconst dX8_adds_16) (XAll.cons (xs_iadd dX8_adds_17) (XAll.cons (xs_iald dX8_adds_18) (XAll.cons (xs_aload_n dX8_adds_19 rfl) (XAll.cons (fgX8_8 tw_1056 dX8_adds_20) (XAll.cons (xs_iload_n dX8_adds_23 rfl) (XAll.cons (xs_iconst dX8_adds_24) (XAll.cons (xs_iadd dX8_adds_25) (XAll.cons (xs_iald dX8_adds_26) (XAll.cons (xs_aload_n dX8_adds_27 rfl) (XAll.cons (fgX8_8 tw_1056 dX8_adds_28) (XAll.cons (xs_iload_n dX8_adds_31 rfl) (XAll.cons (xs_iconst dX8_adds_32) (XAll.cons (xs_iadd dX8_adds_33) (XAll.cons (xs_iald dX8_adds_34) (XAll.cons (xs_aload_n dX8_adds_35 rfl) (XAll.cons (fgX8_8 tw_1056 dX8_adds_36) (XAll.cons (xs_iload_n dX8_adds_39 rfl) (XAll.cons (xs_iconst dX8_adds_40) (XAll.cons (xs_iadd dX8_adds_41) (XAll.cons (xs_iald dX8_adds_42) (XAll.cons (xs_V5 kX8_refusedUnit ⟨⟨rfl, rfl, by decide, by decide⟩, ⟨by decide, by decide, by decide +kernel⟩, ⟨tw_1200, tw_1202, tp_21, tw_9, tw_1203⟩, 8, TX8, _, rfl, fun G ρ f i k => ⟨_, rfl⟩⟩ dX8_adds_43) (XAll.cons (xs_istore_n dX8_adds_46 rfl (by decide)) (XAll.cons (xs_iload_n dX8_adds_47 rfl) (XAll.cons (xs_if_ne dX8_adds_48 (by decide)) (XAll.cons (xs_aload_n dX8_adds_51 rfl) (XAll.cons (xs_aload_n dX8_adds_52 rfl) (XAll.cons (fgX8_8 tw_1056 dX8_adds_53) (XAll.cons (xs_iload_n dX8_adds_56 rfl) (XAll.cons (xs_iald dX8_adds_57) (XAll.cons (xs_aload_n dX8_adds_58 rfl) (XAll.cons (fgX8_8 tw_1056 dX8_adds_59) (XAll.cons (xs_iload_n dX8_adds_62 rfl) (XAll.cons (xs_iconst dX8_adds_63) (XAll.cons (xs_iadd dX8_adds_64) (XAll.cons (xs_iald dX8_adds_65) (XAll.cons (xs_aload_n dX8_adds_66 rfl) (XAll.cons (fgX8_8 tw_1056 dX8_adds_67) (XAll.cons (xs_iload_n dX8_adds_70 rfl) (XAll.cons (xs_iconst dX8_adds_71) (XAll.cons (xs_iadd dX8_adds_72) (XAll.cons (xs_iald dX8_adds_73) (XAll.cons (xs_aload_n dX8_adds_74 rfl) (XAll.cons (fgX8_0 tw_1048 dX8_adds_75) (XAll.cons (xs_bipush dX8_adds_78 rfl) (XAll.cons (xs_iald dX8_adds_80) (XAll.cons (xs_aload_n dX8_adds_81 rfl) (XAll.cons (fgX8_8 tw_1056 dX8_adds_82) (XAll.cons (xs_iload_n dX8_adds_85 rfl) (XAll.cons (xs_iconst dX8_adds_86) (XAll.cons (xs_iadd dX8_adds_87) (XAll.cons (xs_iald dX8_adds_88) (XAll.cons (xs_iadd dX8_adds_89) (XAll.cons (xs_aload_n dX8_adds_90 rfl) (XAll.cons (fgX8_8 tw_1056 dX8_adds_91) (XAll.cons (xs_iload_n dX8_adds_94 rfl) (XAll.cons (xs_iconst dX8_adds_95) (XAll.cons (xs_iadd dX8_adds_96) (XAll.cons (xs_iald dX8_adds_97) (XAll.cons (xs_V5 kX8_putUnit ⟨⟨rfl, rfl, by decide, by decide⟩, ⟨by decide, by decide, by decide +kernel⟩, ⟨tw_1204, tw_1206, tp_22, tw_9, tw_1207⟩, 8, TX8, _, rfl, fun G ρ f i k => ⟨_, rfl⟩⟩ dX8_adds_98) (XAll.cons (xs_pop dX8_adds_101) (XAll.cons (xs_iload_n dX8_adds_102 rfl) (XAll.cons (xs_if_ne dX8_adds_103 (by decide)) (XAll.cons (xs_iconst dX8_adds_106) (XAll.cons (xs_goto dX8_adds_107 (by decide)) (XAll.cons (xs_iconst dX8_adds_110) (XAll.cons (xs_zret rfl dX8_adds_111) (XAll.nil)))))))))))))))))))))))))))))))))))))))))))))))))))))))))))))))))))))))))))))))
theorem fX8_adds_0 (Post : XPo) (cut : List Nat) (WW : XK) (n : Nat) (L : XLs) (st : List XV) (M : XM) : yru (xlk (pX8_adds Post)) cut WW (n + 1) 0 L st M = j_c 5 1 0 L st M (ykk (xlk (pX8_adds Post)) cut WW n) := yf rfl
theorem fX8_adds_1 (Post : XPo) (cut : List Nat) (WW : XK) (n : Nat) (L : XLs) (st : List XV) (M : XM) : yru (xlk (pX8_adds Post)) cut WW (n + 1) 1 L st M = j_ild 1 1 1 L st M (ykk (xlk (pX8_adds Post)) cut WW n) := yf rfl
theorem fX8_adds_2 (Post : XPo) (cut : List Nat) (WW : XK) (n : Nat) (L : XLs) (st : List XV) (M : XM) : yru (xlk (pX8_adds Post)) cut WW (n + 1) 2 L st M = j_mul 2 L st M (ykk (xlk (pX8_adds Post)) cut WW n) := yf rfl
theorem fX8_adds_3 (Post : XPo) (cut : List Nat) (WW : XK) (n : Nat) (L : XLs) (st : List XV) (M : XM) : yru (xlk (pX8_adds Post)) cut WW (n + 1) 3 L st M = j_ist 2 1 3 L st M (ykk (xlk (pX8_adds Post)) cut WW n) := yf rfl
theorem fX8_adds_4 (Post : XPo) (cut : List Nat) (WW : XK) (n : Nat) (L : XLs) (st : List XV) (M : XM) : yru (xlk (pX8_adds Post)) cut WW (n + 1) 4 L st M = j_ald 0 1 4 L st M (ykk (xlk (pX8_adds Post)) cut WW n) := yf rfl
theorem fX8_adds_5 (Post : XPo) (cut : List Nat) (WW : XK) (n : Nat) (L : XLs) (st : List XV) (M : XM) : yru (xlk (pX8_adds Post)) cut WW (n + 1) 5 L st M = j_ald 0 1 5 L st M (ykk (xlk (pX8_adds Post)) cut WW n) := yf rfl
theorem fX8_adds_6 (Post : XPo) (cut : List Nat) (WW : XK) (n : Nat) (L : XLs) (st : List XV) (M : XM) : yru (xlk (pX8_adds Post)) cut WW (n + 1) 6 L st M = j_gR 20 (fun i k => (24, 0, 0)) 6 L st M (ykk (xlk (pX8_adds Post)) cut WW n) := yf rfl
theorem fX8_adds_9 (Post : XPo) (cut : List Nat) (WW : XK) (n : Nat) (L : XLs) (st : List XV) (M : XM) : yru (xlk (pX8_adds Post)) cut WW (n + 1) 9 L st M = j_ild 2 1 9 L st M (ykk (xlk (pX8_adds Post)) cut WW n) := yf rfl
theorem fX8_adds_10 (Post : XPo) (cut : List Nat) (WW : XK) (n : Nat) (L : XLs) (st : List XV) (M : XM) : yru (xlk (pX8_adds Post)) cut WW (n + 1) 10 L st M = j_iald 10 L st M (ykk (xlk (pX8_adds Post)) cut WW n) := yf rfl
theorem fX8_adds_11 (Post : XPo) (cut : List Nat) (WW : XK) (n : Nat) (L : XLs) (st : List XV) (M : XM) : yru (xlk (pX8_adds Post)) cut WW (n + 1) 11 L st M = j_ald 0 1 11 L st M (ykk (xlk (pX8_adds Post)) cut WW n) := yf rfl
theorem fX8_adds_12 (Post : XPo) (cut : List Nat) (WW : XK) (n : Nat) (L : XLs) (st : List XV) (M : XM) : yru (xlk (pX8_adds Post)) cut WW (n + 1) 12 L st M = j_gR 20 (fun i k => (24, 0, 0)) 12 L st M (ykk (xlk (pX8_adds Post)) cut WW n) := yf rfl
theorem fX8_adds_15 (Post : XPo) (cut : List Nat) (WW : XK) (n : Nat) (L : XLs) (st : List XV) (M : XM) : yru (xlk (pX8_adds Post)) cut WW (n + 1) 15 L st M = j_ild 2 1 15 L st M (ykk (xlk (pX8_adds Post)) cut WW n) := yf rfl
theorem fX8_adds_16 (Post : XPo) (cut : List Nat) (WW : XK) (n : Nat) (L : XLs) (st : List XV) (M : XM) : yru (xlk (pX8_adds Post)) cut WW (n + 1) 16 L st M = j_c 1 1 16 L st M (ykk (xlk (pX8_adds Post)) cut WW n) := yf rfl
theorem fX8_adds_17 (Post : XPo) (cut : List Nat) (WW : XK) (n : Nat) (L : XLs) (st : List XV) (M : XM) : yru (xlk (pX8_adds Post)) cut WW (n + 1) 17 L st M = j_add 17 L st M (ykk (xlk (pX8_adds Post)) cut WW n) := yf rfl
theorem fX8_adds_18 (Post : XPo) (cut : List Nat) (WW : XK) (n : Nat) (L : XLs) (st : List XV) (M : XM) : yru (xlk (pX8_adds Post)) cut WW (n + 1) 18 L st M = j_iald 18 L st M (ykk (xlk (pX8_adds Post)) cut WW n) := yf rfl
theorem fX8_adds_19 (Post : XPo) (cut : List Nat) (WW : XK) (n : Nat) (L : XLs) (st : List XV) (M : XM) : yru (xlk (pX8_adds Post)) cut WW (n + 1) 19 L st M = j_ald 0 1 19 L st M (ykk (xlk (pX8_adds Post)) cut WW n) := yf rfl
theorem fX8_adds_20 (Post : XPo) (cut : List Nat) (WW : XK) (n : Nat) (L : XLs) (st : List XV) (M : XM) : yru (xlk (pX8_adds Post)) cut WW (n + 1) 20 L st M = j_gR 20 (fun i k => (24, 0, 0)) 20 L st M (ykk (xlk (pX8_adds Post)) cut WW n) := yf rfl
theorem fX8_adds_23 (Post : XPo) (cut : List Nat) (WW : XK) (n : Nat) (L : XLs) (st : List XV) (M : XM) : yru (xlk (pX8_adds Post)) cut WW (n + 1) 23 L st M = j_ild 2 1 23 L st M (ykk (xlk (pX8_adds Post)) cut WW n) := yf rfl
theorem fX8_adds_24 (Post : XPo) (cut : List Nat) (WW : XK) (n : Nat) (L : XLs) (st : List XV) (M : XM) : yru (xlk (pX8_adds Post)) cut WW (n + 1) 24 L st M = j_c 2 1 24 L st M (ykk (xlk (pX8_adds Post)) cut WW n) := yf rfl
theorem fX8_adds_25 (Post : XPo) (cut : List Nat) (WW : XK) (n : Nat) (L : XLs) (st : List XV) (M : XM) : yru (xlk (pX8_adds Post)) cut WW (n + 1) 25 L st M = j_add 25 L st M (ykk (xlk (pX8_adds Post)) cut WW n) := yf rfl
theorem fX8_adds_26 (Post : XPo) (cut : List Nat) (WW : XK) (n : Nat) (L : XLs) (st : List XV) (M : XM) : yru (xlk (pX8_adds Post)) cut WW (n + 1) 26 L st M = j_iald 26 L st M (ykk (xlk (pX8_adds Post)) cut WW n) := yf rfl
theorem fX8_adds_27 (Post : XPo) (cut : List Nat) (WW : XK) (n : Nat) (L : XLs) (st : List XV) (M : XM) : yru (xlk (pX8_adds Post)) cut WW (n + 1) 27 L st M = j_ald 0 1 27 L st M (ykk (xlk (pX8_adds Post)) cut WW n) := yf rfl
theorem fX8_adds_28 (Post : XPo) (cut : List Nat) (WW : XK) (n : Nat) (L : XLs) (st : List XV) (M : XM) : yru (xlk (pX8_adds Post)) cut WW (n + 1) 28 L st M = j_gR 20 (fun i k => (24, 0, 0)) 28 L st M (ykk (xlk (pX8_adds Post)) cut WW n) := yf rfl
theorem fX8_adds_31 (Post : XPo) (cut : List Nat) (WW : XK) (n : Nat) (L : XLs) (st : List XV) (M : XM) : yru (xlk (pX8_adds Post)) cut WW (n + 1) 31 L st M = j_ild 2 1 31 L st M (ykk (xlk (pX8_adds Post)) cut WW n) := yf rfl
theorem fX8_adds_32 (Post : XPo) (cut : List Nat) (WW : XK) (n : Nat) (L : XLs) (st : List XV) (M : XM) : yru (xlk (pX8_adds Post)) cut WW (n + 1) 32 L st M = j_c 3 1 32 L st M (ykk (xlk (pX8_adds Post)) cut WW n) := yf rfl
theorem fX8_adds_33 (Post : XPo) (cut : List Nat) (WW : XK) (n : Nat) (L : XLs) (st : List XV) (M : XM) : yru (xlk (pX8_adds Post)) cut WW (n + 1) 33 L st M = j_add 33 L st M (ykk (xlk (pX8_adds Post)) cut WW n) := yf rfl
theorem fX8_adds_34 (Post : XPo) (cut : List Nat) (WW : XK) (n : Nat) (L : XLs) (st : List XV) (M : XM) : yru (xlk (pX8_adds Post)) cut WW (n + 1) 34 L st M = j_iald 34 L st M (ykk (xlk (pX8_adds Post)) cut WW n) := yf rfl
theorem fX8_adds_35 (Post : XPo) (cut : List Nat) (WW : XK) (n : Nat) (L : XLs) (st : List XV) (M : XM) : yru (xlk (pX8_adds Post)) cut WW (n + 1) 35 L st M = j_ald 0 1 35 L st M (ykk (xlk (pX8_adds Post)) cut WW n) := yf rfl
theorem fX8_adds_36 (Post : XPo) (cut : List Nat) (WW : XK) (n : Nat) (L : XLs) (st : List XV) (M : XM) : yru (xlk (pX8_adds Post)) cut WW (n + 1) 36 L st M = j_gR 20 (fun i k => (24, 0, 0)) 36 L st M (ykk (xlk (pX8_adds Post)) cut WW n) := yf rfl
theorem fX8_adds_39 (Post : XPo) (cut : List Nat) (WW : XK) (n : Nat) (L : XLs) (st : List XV) (M : XM) : yru (xlk (pX8_adds Post)) cut WW (n + 1) 39 L st M = j_ild 2 1 39 L st M (ykk (xlk (pX8_adds Post)) cut WW n) := yf rfl
theorem fX8_adds_40 (Post : XPo) (cut : List Nat) (WW : XK) (n : Nat) (L : XLs) (st : List XV) (M : XM) : yru (xlk (pX8_adds Post)) cut WW (n + 1) 40 L st M = j_c 4 1 40 L st M (ykk (xlk (pX8_adds Post)) cut WW n) := yf rfl
theorem fX8_adds_41 (Post : XPo) (cut : List Nat) (WW : XK) (n : Nat) (L : XLs) (st : List XV) (M : XM) : yru (xlk (pX8_adds Post)) cut WW (n + 1) 41 L st M = j_add 41 L st M (ykk (xlk (pX8_adds Post)) cut WW n) := yf rfl
theorem fX8_adds_42 (Post : XPo) (cut : List Nat) (WW : XK) (n : Nat) (L : XLs) (st : List XV) (M : XM) : yru (xlk (pX8_adds Post)) cut WW (n + 1) 42 L st M = j_iald 42 L st M (ykk (xlk (pX8_adds Post)) cut WW n) := yf rfl
theorem fX8_adds_43 (Post : XPo) (cut : List Nat) (WW : XK) (n : Nat) (L : XLs) (st : List XV) (M : XM) : yru (xlk (pX8_adds Post)) cut WW (n + 1) 43 L st M = j_V5 20 sX8_refusedUnit 43 L st M (ykk (xlk (pX8_adds Post)) cut WW n) := yf rfl
theorem fX8_adds_46 (Post : XPo) (cut : List Nat) (WW : XK) (n : Nat) (L : XLs) (st : List XV) (M : XM) : yru (xlk (pX8_adds Post)) cut WW (n + 1) 46 L st M = j_ist 3 1 46 L st M (ykk (xlk (pX8_adds Post)) cut WW n) := yf rfl
theorem fX8_adds_47 (Post : XPo) (cut : List Nat) (WW : XK) (n : Nat) (L : XLs) (st : List XV) (M : XM) : yru (xlk (pX8_adds Post)) cut WW (n + 1) 47 L st M = j_ild 3 1 47 L st M (ykk (xlk (pX8_adds Post)) cut WW n) := yf rfl
theorem fX8_adds_48 (Post : XPo) (cut : List Nat) (WW : XK) (n : Nat) (L : XLs) (st : List XV) (M : XM) : yru (xlk (pX8_adds Post)) cut WW (n + 1) 48 L st M = j_ne 102 48 L st M (ykk (xlk (pX8_adds Post)) cut WW n) := yf rfl
theorem fX8_adds_51 (Post : XPo) (cut : List Nat) (WW : XK) (n : Nat) (L : XLs) (st : List XV) (M : XM) : yru (xlk (pX8_adds Post)) cut WW (n + 1) 51 L st M = j_ald 0 1 51 L st M (ykk (xlk (pX8_adds Post)) cut WW n) := yf rfl
theorem fX8_adds_52 (Post : XPo) (cut : List Nat) (WW : XK) (n : Nat) (L : XLs) (st : List XV) (M : XM) : yru (xlk (pX8_adds Post)) cut WW (n + 1) 52 L st M = j_ald 0 1 52 L st M (ykk (xlk (pX8_adds Post)) cut WW n) := yf rfl
theorem fX8_adds_53 (Post : XPo) (cut : List Nat) (WW : XK) (n : Nat) (L : XLs) (st : List XV) (M : XM) : yru (xlk (pX8_adds Post)) cut WW (n + 1) 53 L st M = j_gR 20 (fun i k => (24, 0, 0)) 53 L st M (ykk (xlk (pX8_adds Post)) cut WW n) := yf rfl
theorem fX8_adds_56 (Post : XPo) (cut : List Nat) (WW : XK) (n : Nat) (L : XLs) (st : List XV) (M : XM) : yru (xlk (pX8_adds Post)) cut WW (n + 1) 56 L st M = j_ild 2 1 56 L st M (ykk (xlk (pX8_adds Post)) cut WW n) := yf rfl
theorem fX8_adds_57 (Post : XPo) (cut : List Nat) (WW : XK) (n : Nat) (L : XLs) (st : List XV) (M : XM) : yru (xlk (pX8_adds Post)) cut WW (n + 1) 57 L st M = j_iald 57 L st M (ykk (xlk (pX8_adds Post)) cut WW n) := yf rfl
theorem fX8_adds_58 (Post : XPo) (cut : List Nat) (WW : XK) (n : Nat) (L : XLs) (st : List XV) (M : XM) : yru (xlk (pX8_adds Post)) cut WW (n + 1) 58 L st M = j_ald 0 1 58 L st M (ykk (xlk (pX8_adds Post)) cut WW n) := yf rfl
theorem fX8_adds_59 (Post : XPo) (cut : List Nat) (WW : XK) (n : Nat) (L : XLs) (st : List XV) (M : XM) : yru (xlk (pX8_adds Post)) cut WW (n + 1) 59 L st M = j_gR 20 (fun i k => (24, 0, 0)) 59 L st M (ykk (xlk (pX8_adds Post)) cut WW n) := yf rfl
theorem fX8_adds_62 (Post : XPo) (cut : List Nat) (WW : XK) (n : Nat) (L : XLs) (st : List XV) (M : XM) : yru (xlk (pX8_adds Post)) cut WW (n + 1) 62 L st M = j_ild 2 1 62 L st M (ykk (xlk (pX8_adds Post)) cut WW n) := yf rfl
theorem fX8_adds_63 (Post : XPo) (cut : List Nat) (WW : XK) (n : Nat) (L : XLs) (st : List XV) (M : XM) : yru (xlk (pX8_adds Post)) cut WW (n + 1) 63 L st M = j_c 1 1 63 L st M (ykk (xlk (pX8_adds Post)) cut WW n) := yf rfl
theorem fX8_adds_64 (Post : XPo) (cut : List Nat) (WW : XK) (n : Nat) (L : XLs) (st : List XV) (M : XM) : yru (xlk (pX8_adds Post)) cut WW (n + 1) 64 L st M = j_add 64 L st M (ykk (xlk (pX8_adds Post)) cut WW n) := yf rfl
theorem fX8_adds_65 (Post : XPo) (cut : List Nat) (WW : XK) (n : Nat) (L : XLs) (st : List XV) (M : XM) : yru (xlk (pX8_adds Post)) cut WW (n + 1) 65 L st M = j_iald 65 L st M (ykk (xlk (pX8_adds Post)) cut WW n) := yf rfl
theorem fX8_adds_66 (Post : XPo) (cut : List Nat) (WW : XK) (n : Nat) (L : XLs) (st : List XV) (M : XM) : yru (xlk (pX8_adds Post)) cut WW (n + 1) 66 L st M = j_ald 0 1 66 L st M (ykk (xlk (pX8_adds Post)) cut WW n) := yf rfl
theorem fX8_adds_67 (Post : XPo) (cut : List Nat) (WW : XK) (n : Nat) (L : XLs) (st : List XV) (M : XM) : yru (xlk (pX8_adds Post)) cut WW (n + 1) 67 L st M = j_gR 20 (fun i k => (24, 0, 0)) 67 L st M (ykk (xlk (pX8_adds Post)) cut WW n) := yf rfl
theorem fX8_adds_70 (Post : XPo) (cut : List Nat) (WW : XK) (n : Nat) (L : XLs) (st : List XV) (M : XM) : yru (xlk (pX8_adds Post)) cut WW (n + 1) 70 L st M = j_ild 2 1 70 L st M (ykk (xlk (pX8_adds Post)) cut WW n) := yf rfl
theorem fX8_adds_71 (Post : XPo) (cut : List Nat) (WW : XK) (n : Nat) (L : XLs) (st : List XV) (M : XM) : yru (xlk (pX8_adds Post)) cut WW (n + 1) 71 L st M = j_c 2 1 71 L st M (ykk (xlk (pX8_adds Post)) cut WW n) := yf rfl
theorem fX8_adds_72 (Post : XPo) (cut : List Nat) (WW : XK) (n : Nat) (L : XLs) (st : List XV) (M : XM) : yru (xlk (pX8_adds Post)) cut WW (n + 1) 72 L st M = j_add 72 L st M (ykk (xlk (pX8_adds Post)) cut WW n) := yf rfl
theorem fX8_adds_73 (Post : XPo) (cut : List Nat) (WW : XK) (n : Nat) (L : XLs) (st : List XV) (M : XM) : yru (xlk (pX8_adds Post)) cut WW (n + 1) 73 L st M = j_iald 73 L st M (ykk (xlk (pX8_adds Post)) cut WW n) := yf rfl
theorem fX8_adds_74 (Post : XPo) (cut : List Nat) (WW : XK) (n : Nat) (L : XLs) (st : List XV) (M : XM) : yru (xlk (pX8_adds Post)) cut WW (n + 1) 74 L st M = j_ald 0 1 74 L st M (ykk (xlk (pX8_adds Post)) cut WW n) := yf rfl
theorem fX8_adds_75 (Post : XPo) (cut : List Nat) (WW : XK) (n : Nat) (L : XLs) (st : List XV) (M : XM) : yru (xlk (pX8_adds Post)) cut WW (n + 1) 75 L st M = j_gR 20 (fun i k => (21, 0, 0)) 75 L st M (ykk (xlk (pX8_adds Post)) cut WW n) := yf rfl
theorem fX8_adds_78 (Post : XPo) (cut : List Nat) (WW : XK) (n : Nat) (L : XLs) (st : List XV) (M : XM) : yru (xlk (pX8_adds Post)) cut WW (n + 1) 78 L st M = j_c 10 2 78 L st M (ykk (xlk (pX8_adds Post)) cut WW n) := yf rfl
theorem fX8_adds_80 (Post : XPo) (cut : List Nat) (WW : XK) (n : Nat) (L : XLs) (st : List XV) (M : XM) : yru (xlk (pX8_adds Post)) cut WW (n + 1) 80 L st M = j_iald 80 L st M (ykk (xlk (pX8_adds Post)) cut WW n) := yf rfl
theorem fX8_adds_81 (Post : XPo) (cut : List Nat) (WW : XK) (n : Nat) (L : XLs) (st : List XV) (M : XM) : yru (xlk (pX8_adds Post)) cut WW (n + 1) 81 L st M = j_ald 0 1 81 L st M (ykk (xlk (pX8_adds Post)) cut WW n) := yf rfl
theorem fX8_adds_82 (Post : XPo) (cut : List Nat) (WW : XK) (n : Nat) (L : XLs) (st : List XV) (M : XM) : yru (xlk (pX8_adds Post)) cut WW (n + 1) 82 L st M = j_gR 20 (fun i k => (24, 0, 0)) 82 L st M (ykk (xlk (pX8_adds Post)) cut WW n) := yf rfl
theorem fX8_adds_85 (Post : XPo) (cut : List Nat) (WW : XK) (n : Nat) (L : XLs) (st : List XV) (M : XM) : yru (xlk (pX8_adds Post)) cut WW (n + 1) 85 L st M = j_ild 2 1 85 L st M (ykk (xlk (pX8_adds Post)) cut WW n) := yf rfl
theorem fX8_adds_86 (Post : XPo) (cut : List Nat) (WW : XK) (n : Nat) (L : XLs) (st : List XV) (M : XM) : yru (xlk (pX8_adds Post)) cut WW (n + 1) 86 L st M = j_c 3 1 86 L st M (ykk (xlk (pX8_adds Post)) cut WW n) := yf rfl
theorem fX8_adds_87 (Post : XPo) (cut : List Nat) (WW : XK) (n : Nat) (L : XLs) (st : List XV) (M : XM) : yru (xlk (pX8_adds Post)) cut WW (n + 1) 87 L st M = j_add 87 L st M (ykk (xlk (pX8_adds Post)) cut WW n) := yf rfl
theorem fX8_adds_88 (Post : XPo) (cut : List Nat) (WW : XK) (n : Nat) (L : XLs) (st : List XV) (M : XM) : yru (xlk (pX8_adds Post)) cut WW (n + 1) 88 L st M = j_iald 88 L st M (ykk (xlk (pX8_adds Post)) cut WW n) := yf rfl
theorem fX8_adds_89 (Post : XPo) (cut : List Nat) (WW : XK) (n : Nat) (L : XLs) (st : List XV) (M : XM) : yru (xlk (pX8_adds Post)) cut WW (n + 1) 89 L st M = j_add 89 L st M (ykk (xlk (pX8_adds Post)) cut WW n) := yf rfl
theorem fX8_adds_90 (Post : XPo) (cut : List Nat) (WW : XK) (n : Nat) (L : XLs) (st : List XV) (M : XM) : yru (xlk (pX8_adds Post)) cut WW (n + 1) 90 L st M = j_ald 0 1 90 L st M (ykk (xlk (pX8_adds Post)) cut WW n) := yf rfl
theorem fX8_adds_91 (Post : XPo) (cut : List Nat) (WW : XK) (n : Nat) (L : XLs) (st : List XV) (M : XM) : yru (xlk (pX8_adds Post)) cut WW (n + 1) 91 L st M = j_gR 20 (fun i k => (24, 0, 0)) 91 L st M (ykk (xlk (pX8_adds Post)) cut WW n) := yf rfl
theorem fX8_adds_94 (Post : XPo) (cut : List Nat) (WW : XK) (n : Nat) (L : XLs) (st : List XV) (M : XM) : yru (xlk (pX8_adds Post)) cut WW (n + 1) 94 L st M = j_ild 2 1 94 L st M (ykk (xlk (pX8_adds Post)) cut WW n) := yf rfl
theorem fX8_adds_95 (Post : XPo) (cut : List Nat) (WW : XK) (n : Nat) (L : XLs) (st : List XV) (M : XM) : yru (xlk (pX8_adds Post)) cut WW (n + 1) 95 L st M = j_c 4 1 95 L st M (ykk (xlk (pX8_adds Post)) cut WW n) := yf rfl
theorem fX8_adds_96 (Post : XPo) (cut : List Nat) (WW : XK) (n : Nat) (L : XLs) (st : List XV) (M : XM) : yru (xlk (pX8_adds Post)) cut WW (n + 1) 96 L st M = j_add 96 L st M (ykk (xlk (pX8_adds Post)) cut WW n) := yf rfl
theorem fX8_adds_97 (Post : XPo) (cut : List Nat) (WW : XK) (n : Nat) (L : XLs) (st : List XV) (M : XM) : yru (xlk (pX8_adds Post)) cut WW (n + 1) 97 L st M = j_iald 97 L st M (ykk (xlk (pX8_adds Post)) cut WW n) := yf rfl
theorem fX8_adds_98 (Post : XPo) (cut : List Nat) (WW : XK) (n : Nat) (L : XLs) (st : List XV) (M : XM) : yru (xlk (pX8_adds Post)) cut WW (n + 1) 98 L st M = j_V5 20 sX8_putUnit 98 L st M (ykk (xlk (pX8_adds Post)) cut WW n) := yf rfl
theorem fX8_adds_101 (Post : XPo) (cut : List Nat) (WW : XK) (n : Nat) (L : XLs) (st : List XV) (M : XM) : yru (xlk (pX8_adds Post)) cut WW (n + 1) 101 L st M = j_pop 101 L st M (ykk (xlk (pX8_adds Post)) cut WW n) := yf rfl
theorem fX8_adds_102 (Post : XPo) (cut : List Nat) (WW : XK) (n : Nat) (L : XLs) (st : List XV) (M : XM) : yru (xlk (pX8_adds Post)) cut WW (n + 1) 102 L st M = j_ild 3 1 102 L st M (ykk (xlk (pX8_adds Post)) cut WW n) := yf rfl
theorem fX8_adds_103 (Post : XPo) (cut : List Nat) (WW : XK) (n : Nat) (L : XLs) (st : List XV) (M : XM) : yru (xlk (pX8_adds Post)) cut WW (n + 1) 103 L st M = j_ne 110 103 L st M (ykk (xlk (pX8_adds Post)) cut WW n) := yf rfl
theorem fX8_adds_106 (Post : XPo) (cut : List Nat) (WW : XK) (n : Nat) (L : XLs) (st : List XV) (M : XM) : yru (xlk (pX8_adds Post)) cut WW (n + 1) 106 L st M = j_c 1 1 106 L st M (ykk (xlk (pX8_adds Post)) cut WW n) := yf rfl
theorem fX8_adds_107 (Post : XPo) (cut : List Nat) (WW : XK) (n : Nat) (L : XLs) (st : List XV) (M : XM) : yru (xlk (pX8_adds Post)) cut WW (n + 1) 107 L st M = j_goto 111 107 L st M (ykk (xlk (pX8_adds Post)) cut WW n) := yf rfl
theorem fX8_adds_110 (Post : XPo) (cut : List Nat) (WW : XK) (n : Nat) (L : XLs) (st : List XV) (M : XM) : yru (xlk (pX8_adds Post)) cut WW (n + 1) 110 L st M = j_c 0 1 110 L st M (ykk (xlk (pX8_adds Post)) cut WW n) := yf rfl
theorem fX8_adds_111 (Post : XPo) (cut : List Nat) (WW : XK) (n : Nat) (L : XLs) (st : List XV) (M : XM) : yru (xlk (pX8_adds Post)) cut WW (n + 1) 111 L st M = j_zret Post 111 L st M (ykk (xlk (pX8_adds Post)) cut WW n) := yf rfl
def sX8_adds : XSp := xq1 20 (fun _ _ j M Q => ∃ (F : XM) (f : Int) (t : Tu), ((0 ≤ j ∧ j ≤ 8) ∧ GZ 60 F f (M 21 0 0) ∧ fI7 F f ∧ PA M j t ∧ tuOK t) ∧ (maT F f t → ∀ M' : XM, (∀ q : Nat, ¬ q = 21 → M' q = M q) → GZ 60 (nuT F f t) f (M' 21 0 0) → Q [xI 1] M') ∧ (¬ maT F f t → Q [xI 0] M))
theorem xg_adds {F : XM} {f : Int} {t : Tu} {j : Int} {M : XM} {Q : XPo} (hc : (0 ≤ j ∧ j ≤ 8) ∧ GZ 60 F f (M 21 0 0) ∧ fI7 F f ∧ PA M j t ∧ tuOK t) (h1 : maT F f t → ∀ M' : XM, (∀ q : Nat, ¬ q = 21 → M' q = M q) → GZ 60 (nuT F f t) f (M' 21 0 0) → Q [xI 1] M') (h0 : ¬ maT F f t → Q [xI 0] M) : sX8_adds [xR 20 0 0, xI j] M Q := @id ((20 = 20 ∧ xval 20 0 0) ∧ ∃ (F : XM) (f : Int) (t : Tu), ((0 ≤ j ∧ j ≤ 8) ∧ GZ 60 F f (M 21 0 0) ∧ fI7 F f ∧ PA M j t ∧ tuOK t) ∧ (maT F f t → ∀ M' : XM, (∀ q : Nat, ¬ q = 21 → M' q = M q) → GZ 60 (nuT F f t) f (M' 21 0 0) → Q [xI 1] M') ∧ (¬ maT F f t → Q [xI 0] M)) ⟨⟨rfl, xvz_20⟩, F, f, t, hc, h1, h0⟩
set_option maxRecDepth 100000 in
theorem kX8_adds : XCn yX8_adds wX8_adds rX8_adds sX8_adds := XC1 pX8_adds rfl rfl aX8_adds (by decide) (fun i0 k0 j M Post hv h WW hC => by
  obtain ⟨rfl, rfl⟩ := xk20 hv
  obtain ⟨F, f, ⟨p, n, g, c, v⟩, ⟨hj, hz, h7, ⟨e0, e1, e2, e3, e4⟩, ht⟩, h1, h0⟩ := h
  obtain ⟨tp, tn, tg, tc, tv⟩ := ht
  dsimp only at e0 e1 e2 e3 e4 tp tn tg tc tv h1 h0
  have hG := fI7_G h7
  have hB := GZ_zB hz hG.1
  obtain ⟨z6, z7, z8, z9, z10⟩ := GZ_6 hz
  have g3 := hG.1.1
  have g10 := hG.1.2.2.2.1
  have g0 := hG.1.2.2.2.2.1
  have a0 : 0 ≤ 5 * j := by omega
  have a1 : 5 * j < 45 := by omega
  have b0 : 0 ≤ 5 * j + 1 := by omega
  have b1 : 5 * j + 1 < 45 := by omega
  have c0 : 0 ≤ 5 * j + 2 := by omega
  have c1 : 5 * j + 2 < 45 := by omega
  have d0 : 0 ≤ 5 * j + 3 := by omega
  have d1 : 5 * j + 3 < 45 := by omega
  have f0 : 0 ≤ 5 * j + 4 := by omega
  have f1 : 5 * j + 4 < 45 := by omega
  have rp : XInR p := ⟨by omega, by omega⟩
  have rn : XInR n := ⟨by omega, by omega⟩
  have rg : XInR g := ⟨by omega, by omega⟩
  have rc : XInR c := ⟨by omega, by omega⟩
  have rv : XInR v := ⟨by omega, by omega⟩
  show WW 0 [some (xR 20 0 0), some (xI j), none, none] [] M
  by_cases hm : maT F f (p, n, g, c, v)
  · have h := h1 hm
    obtain ⟨m1, m2, m3⟩ := hm
    dsimp only at m1 m2 m3
    have zr : zRef M p n g c v = 0 := by
      unfold zRef
      rw [z6, z9]
      rw [if_neg (fun q => q ⟨tp.1, m1⟩), if_neg (fun q => q ⟨tn, ⟨tg.1, m2⟩, tc, tv⟩), if_neg (show ¬ F 1 f 0 10 = 12 by omega)]
    refine yru_ok hC [] 100 _ _ _ _ ?_
    simp only [ykk_ap, Int.reduceEq, Int.reduceLT, Int.reduceLE, Int.reduceNeg, Int.reduceAdd, Int.reduceSub, Int.reduceMul, and_self, false_and, and_false, not_true_eq_false, not_false_eq_true, true_implies, false_implies, xq0, xq1, xq2, xq3, xq4, xq5, xqR, xq1R, xq3R, xt1, xt2, xt3, List.mem_cons, List.not_mem_nil, or_false, false_or, or_self, if_false, if_true, reduceIte, reduceCtorEq, xent, xen, List.length_cons, List.length_nil, List.replicate, j_c, j_cJ, j_ild, j_ald, j_lld, j_ist, j_ast, j_lst, j_inc, j_add, j_sub, j_mul, j_neg, j_div, j_rem, j_and, j_shr, j_shl1, j_or, j_ladd, j_lsub, j_lmul, j_i2l, j_lcmp, j_i2c, j_dup, j_dup2, j_pop, j_goto, j_ieq, j_ine, j_ilt, j_ige, j_igt, j_ile, j_eq, j_ne, j_lt, j_ge, j_gt, j_le, xsw, j_tsw, j_lsw2, j_gI, j_gJ, j_gR, j_pI, j_pJ, j_gs, j_iald, j_iast, j_cald, j_cast, j_lald, j_last, j_aald, j_cpy, j_min, j_max, j_abs, j_iret, j_zret, j_lret, j_dret, j_ret0, j_V0, j_V1, j_V2, j_V3, j_V4, j_V5, j_S1, j_S2, j_S3, xget, xset, xset2, xclr, xc1, xcat, Nat.reduceAdd, Nat.reduceEqDiff, Nat.reduceLT, Nat.reduceLeDiff, Nat.reduceMul, List.cons_append, List.nil_append, true_and, and_true, List.singleton_append, j_i2lw, j_i2d, j_cF, j_ddiv, j_dmul, j_dsub, j_dcp, j_d2l, j_dld, j_dst, j_lshl, j_lor, j_raw, xtF, xqJ, fX8_adds_0, fX8_adds_1, fX8_adds_2, fX8_adds_3, fX8_adds_4, fX8_adds_5, fX8_adds_6, fX8_adds_9, fX8_adds_10, fX8_adds_11, fX8_adds_12, fX8_adds_15, fX8_adds_16, fX8_adds_17, fX8_adds_18, fX8_adds_19, fX8_adds_20, fX8_adds_23, fX8_adds_24, fX8_adds_25, fX8_adds_26, fX8_adds_27, fX8_adds_28, fX8_adds_31, fX8_adds_32, fX8_adds_33, fX8_adds_34, fX8_adds_35, fX8_adds_36, fX8_adds_39, fX8_adds_40, fX8_adds_41, fX8_adds_42, fX8_adds_43, fX8_adds_46, fX8_adds_47, fX8_adds_48, fX8_adds_51, fX8_adds_52, fX8_adds_53, fX8_adds_56, fX8_adds_57, fX8_adds_58, fX8_adds_59, fX8_adds_62, fX8_adds_63, fX8_adds_64, fX8_adds_65, fX8_adds_66, fX8_adds_67, fX8_adds_70, fX8_adds_71, fX8_adds_72, fX8_adds_73, fX8_adds_74, fX8_adds_75, fX8_adds_78, fX8_adds_80, fX8_adds_81, fX8_adds_82, fX8_adds_85, fX8_adds_86, fX8_adds_87, fX8_adds_88, fX8_adds_89, fX8_adds_90, fX8_adds_91, fX8_adds_94, fX8_adds_95, fX8_adds_96, fX8_adds_97, fX8_adds_98, fX8_adds_101, fX8_adds_102, fX8_adds_103, fX8_adds_106, fX8_adds_107, fX8_adds_110, fX8_adds_111, sX8_refusedUnit, sX8_putUnit, e0, e1, e2, e3, e4, a0, a1, b0, b1, c0, c1, d0, d1, f0, f1, hB, rp, rn, rg, rc, rv, zr, z9, z10, g10, m3, xvz_20, xvz_21, xrz_21, xdz_21, xvz_23, xrz_23, xdz_23, xvz_24, xrz_24, xdz_24, xlen, xcat, xc1, Nat.zero_le, Nat.reduceLeDiff, xr_c (n := 0) rfl, xr_c (n := 1) rfl, xr_c (n := 2) rfl, xr_c (n := 3) rfl, xr_c (n := 4) rfl, xr_c (n := 5) rfl, xr_c (n := 30) rfl]
    refine h _ (fun q a => zto_tag a) ?_
    rw [zto_at]
    exact GZ_newU hz hG.1 m3 ⟨tp.1, m1⟩ tn ⟨tg.1, m2⟩ ⟨by show 0 ≤ F 1 f 0 0 + c; omega, by show F 1 f 0 0 + c ≤ 50000; omega⟩ tv
  · have h := h0 hm
    have zr : zRef M p n g c v = 1 ∨ zRef M p n g c v = 2 ∨ zRef M p n g c v = 3 := by
      unfold zRef
      rw [z6, z9]
      by_cases q1 : 0 ≤ p ∧ p < F 1 f 0 3
      · rw [if_neg (fun q => q q1)]
        by_cases q2 : ((1 ≤ n ∧ n ≤ 300) ∧ (0 ≤ g ∧ g ≤ n) ∧ (1 ≤ c ∧ c ≤ 600) ∧ (30 ≤ v ∧ v ≤ 600))
        · rw [if_neg (fun q => q q2)]
          by_cases q3 : F 1 f 0 10 = 12
          · rw [if_pos q3]
            exact Or.inr (Or.inr rfl)
          · exact absurd ⟨q1.2, q2.2.1.2, by omega⟩ hm
        · rw [if_pos q2]
          exact Or.inr (Or.inl rfl)
      · rw [if_pos q1]
        exact Or.inl rfl
    rcases zr with zr | zr | zr
    all_goals
      refine yru_ok hC [] 100 _ _ _ _ ?_
      simp only [ykk_ap, Int.reduceEq, Int.reduceLT, Int.reduceLE, Int.reduceNeg, Int.reduceAdd, Int.reduceSub, Int.reduceMul, and_self, false_and, and_false, not_true_eq_false, not_false_eq_true, true_implies, false_implies, xq0, xq1, xq2, xq3, xq4, xq5, xqR, xq1R, xq3R, xt1, xt2, xt3, List.mem_cons, List.not_mem_nil, or_false, false_or, or_self, if_false, if_true, reduceIte, reduceCtorEq, xent, xen, List.length_cons, List.length_nil, List.replicate, j_c, j_cJ, j_ild, j_ald, j_lld, j_ist, j_ast, j_lst, j_inc, j_add, j_sub, j_mul, j_neg, j_div, j_rem, j_and, j_shr, j_shl1, j_or, j_ladd, j_lsub, j_lmul, j_i2l, j_lcmp, j_i2c, j_dup, j_dup2, j_pop, j_goto, j_ieq, j_ine, j_ilt, j_ige, j_igt, j_ile, j_eq, j_ne, j_lt, j_ge, j_gt, j_le, xsw, j_tsw, j_lsw2, j_gI, j_gJ, j_gR, j_pI, j_pJ, j_gs, j_iald, j_iast, j_cald, j_cast, j_lald, j_last, j_aald, j_cpy, j_min, j_max, j_abs, j_iret, j_zret, j_lret, j_dret, j_ret0, j_V0, j_V1, j_V2, j_V3, j_V4, j_V5, j_S1, j_S2, j_S3, xget, xset, xset2, xclr, xc1, xcat, Nat.reduceAdd, Nat.reduceEqDiff, Nat.reduceLT, Nat.reduceLeDiff, Nat.reduceMul, List.cons_append, List.nil_append, true_and, and_true, List.singleton_append, j_i2lw, j_i2d, j_cF, j_ddiv, j_dmul, j_dsub, j_dcp, j_d2l, j_dld, j_dst, j_lshl, j_lor, j_raw, xtF, xqJ, fX8_adds_0, fX8_adds_1, fX8_adds_2, fX8_adds_3, fX8_adds_4, fX8_adds_5, fX8_adds_6, fX8_adds_9, fX8_adds_10, fX8_adds_11, fX8_adds_12, fX8_adds_15, fX8_adds_16, fX8_adds_17, fX8_adds_18, fX8_adds_19, fX8_adds_20, fX8_adds_23, fX8_adds_24, fX8_adds_25, fX8_adds_26, fX8_adds_27, fX8_adds_28, fX8_adds_31, fX8_adds_32, fX8_adds_33, fX8_adds_34, fX8_adds_35, fX8_adds_36, fX8_adds_39, fX8_adds_40, fX8_adds_41, fX8_adds_42, fX8_adds_43, fX8_adds_46, fX8_adds_47, fX8_adds_48, fX8_adds_51, fX8_adds_52, fX8_adds_53, fX8_adds_56, fX8_adds_57, fX8_adds_58, fX8_adds_59, fX8_adds_62, fX8_adds_63, fX8_adds_64, fX8_adds_65, fX8_adds_66, fX8_adds_67, fX8_adds_70, fX8_adds_71, fX8_adds_72, fX8_adds_73, fX8_adds_74, fX8_adds_75, fX8_adds_78, fX8_adds_80, fX8_adds_81, fX8_adds_82, fX8_adds_85, fX8_adds_86, fX8_adds_87, fX8_adds_88, fX8_adds_89, fX8_adds_90, fX8_adds_91, fX8_adds_94, fX8_adds_95, fX8_adds_96, fX8_adds_97, fX8_adds_98, fX8_adds_101, fX8_adds_102, fX8_adds_103, fX8_adds_106, fX8_adds_107, fX8_adds_110, fX8_adds_111, sX8_refusedUnit, sX8_putUnit, e0, e1, e2, e3, e4, a0, a1, b0, b1, c0, c1, d0, d1, f0, f1, hB, rp, rn, rg, rc, rv, zr, xvz_20, xvz_21, xrz_21, xdz_21, xvz_23, xrz_23, xdz_23, xvz_24, xrz_24, xdz_24, xlen, xcat, xc1, Nat.zero_le, Nat.reduceLeDiff, xr_c (n := 0) rfl, xr_c (n := 1) rfl, xr_c (n := 2) rfl, xr_c (n := 3) rfl, xr_c (n := 4) rfl, xr_c (n := 5) rfl, xr_c (n := 30) rfl]
      exact h)
/-- UnitKitchensModel.addSheet()I -/
abbrev wX8_addSheet : List Cond := Cond.code yX8_addSheet cX8_addSheet 3 (some .int) :: xT
abbrev rX8_addSheet : Room := { frames := 4, cells := 0, slots := 0, locals := 92 }
def pX8_addSheet (Post : XPo) : List (Nat × XStp) := [(0, j_ald 0 1), (1, j_V0 20 sX8_rightUpTo), (4, j_ald 0 1), (5, j_gI 20 3), (8, j_ine 32), (11, j_ald 0 1), (12, j_gI 20 11), (15, j_c 5 1), (16, j_ine 32), (19, j_ald 0 1), (20, j_gI 20 10), (23, j_c 30 2), (25, j_ilt 32), (28, j_c 1 1), (29, j_goto 33), (32, j_c 0 1), (33, j_ist 1 1), (34, j_ald 0 1), (35, j_ild 1 1), (36, j_eq 43), (39, j_c 0 1), (40, j_goto 44), (43, j_c 1 1), (44, j_pI 20 5), (47, j_ald 0 1), (48, j_gI 20 5), (51, j_le 56), (54, j_c 0 1), (55, j_iret Post), (56, j_ald 0 1), (57, j_V0 20 sX8_save), (60, j_ald 0 1), (61, j_c 0 1), (62, j_V1 20 sX8_ends), (65, j_pop), (66, j_ald 0 1), (67, j_c 0 1), (68, j_pI 20 3), (71, j_c 0 1), (72, j_ist 2 1), (73, j_ild 2 1), (74, j_ald 0 1), (75, j_gI 20 9), (78, j_igt 95), (81, j_ald 0 1), (82, j_ild 2 1), (83, j_V1 20 sX8_adds), (86, j_eq 95), (89, j_inc 2 1), (92, j_goto 73), (95, j_ild 2 1), (96, j_iret Post)]
set_option maxRecDepth 100000 in
theorem aX8_addSheet (Post : XPo) : XAll rX8_addSheet cX8_addSheet 3 RX8 wX8_addSheet (some .int) Post (pX8_addSheet Post) := XAll.cons (xs_aload_n dX8_addSheet_0 rfl) (XAll.cons (xs_V0 kX8_rightUpTo ⟨⟨rfl, rfl, by decide, by decide⟩, ⟨by decide, by decide, by decide +kernel⟩, ⟨tw_1317, tw_1319, tp_42, tw_9, tw_1320⟩, 8, TX8, _, rfl, fun G ρ f i k => ⟨_, rfl⟩⟩ dX8_addSheet_1) (XAll.cons (xs_aload_n dX8_addSheet_4 rfl) (XAll.cons (fgX8_3 tw_1051 dX8_addSheet_5) (XAll.cons (xs_icmp_ne dX8_addSheet_8 (by decide)) (XAll.cons (xs_aload_n dX8_addSheet_11 rfl) (XAll.cons (fgX8_11 tw_1059 dX8_addSheet_12) (XAll.cons (xs_iconst dX8_addSheet_15) (XAll.cons (xs_icmp_ne dX8_addSheet_16 (by decide)) (XAll.cons (xs_aload_n dX8_addSheet_19 rfl) (XAll.cons (fgX8_10 tw_1058 dX8_addSheet_20) (XAll.cons (xs_bipush dX8_addSheet_23 rfl) (XAll.cons (xs_icmp_lt dX8_addSheet_25 (by decide)) (XAll.cons (xs_iconst dX8_addSheet_28) (XAll.cons (xs_goto dX8_addSheet_29 (by decide)) (XAll.cons (xs_iconst dX8_addSheet_32) (XAll.cons (xs_istore_n dX8_addSheet_33 rfl (by decide)) (XAll.cons (xs_aload_n dX8_addSheet_34 rfl) (XAll.cons (xs_iload_n dX8_addSheet_35 rfl) (XAll.cons (xs_if_eq dX8_addSheet_36 (by decide)) (XAll.cons (xs_iconst dX8_addSheet_39) (XAll.cons (xs_goto dX8_addSheet_40 (by decide)) (XAll.cons (xs_iconst dX8_addSheet_43) (XAll.cons (fpX8_5 tw_1053 dX8_addSheet_44) (XAll.cons (xs_aload_n dX8_addSheet_47 rfl) (XAll.cons (fgX8_5 tw_1053 dX8_addSheet_48) (XAll.cons (xs_if_le dX8_addSheet_51 (by decide)) (XAll.cons (xs_iconst dX8_addSheet_54) (XAll.cons (xs_iret rfl dX8_addSheet_55) (XAll.cons (xs_aload_n dX8_addSheet_56 rfl) (XAll.cons (xs_V0 kX8_save ⟨⟨rfl, rfl, by decide, by decide⟩, ⟨by decide, by decide, by decide +kernel⟩, ⟨tw_1102, tw_1104, tp_10, tw_9, tw_1105⟩, 8, TX8, _, rfl, fun G ρ f i k => ⟨_, rfl⟩⟩ dX8_addSheet_57) (XAll.cons (xs_aload_n dX8_addSheet_60 rfl) (XAll.cons (xs_iconst dX8_addSheet_61) (XAll.cons (xs_V1 kX8_ends ⟨⟨rfl, rfl, by decide, by decide⟩, ⟨by decide, by decide, by decide +kernel⟩, ⟨tw_1329, tw_1331, tp_45, tw_9, tw_1332⟩, 8, TX8, _, rfl, fun G ρ f i k => ⟨_, rfl⟩⟩ dX8_addSheet_62) (XAll.cons (xs_pop dX8_addSheet_65) (XAll.cons (xs_aload_n dX8_addSheet_66 rfl) (XAll.cons (xs_iconst dX8_addSheet_67) (XAll.cons (fpX8_3 tw_1051 dX8_addSheet_68) (XAll.cons (xs_iconst dX8_addSheet_71) (XAll.cons (xs_istore_n dX8_addSheet_72 rfl (by decide)) (XAll.cons (xs_iload_n dX8_addSheet_73 rfl) (XAll.cons (xs_aload_n dX8_addSheet_74 rfl) (XAll.cons (fgX8_9 tw_1057 dX8_addSheet_75) (XAll.cons (xs_icmp_gt dX8_addSheet_78 (by decide)) (XAll.cons (xs_aload_n dX8_addSheet_81 rfl) (XAll.cons (xs_iload_n dX8_addSheet_82 rfl) (XAll.cons (xs_V1 kX8_adds ⟨⟨rfl, rfl, by decide, by decide⟩, ⟨by decide, by decide, by decide +kernel⟩, ⟨tw_1344, tw_1346, tp_47, tw_9, tw_1347⟩, 8, TX8, _, rfl, fun G ρ f i k => ⟨_, rfl⟩⟩ dX8_addSheet_83) (XAll.cons (xs_if_eq dX8_addSheet_86 (by decide)) (XAll.cons (xs_iinc dX8_addSheet_89 (by decide)) (XAll.cons (xs_goto dX8_addSheet_92 (by decide)) (XAll.cons (xs_iload_n dX8_addSheet_95 rfl) (XAll.cons (xs_iret rfl dX8_addSheet_96) (XAll.nil))))))))))))))))))))))))))))))))))))))))))))))))))))
theorem fX8_addSheet_0 (Post : XPo) (cut : List Nat) (WW : XK) (n : Nat) (L : XLs) (st : List XV) (M : XM) : yru (xlk (pX8_addSheet Post)) cut WW (n + 1) 0 L st M = j_ald 0 1 0 L st M (ykk (xlk (pX8_addSheet Post)) cut WW n) := yf rfl
theorem fX8_addSheet_1 (Post : XPo) (cut : List Nat) (WW : XK) (n : Nat) (L : XLs) (st : List XV) (M : XM) : yru (xlk (pX8_addSheet Post)) cut WW (n + 1) 1 L st M = j_V0 20 sX8_rightUpTo 1 L st M (ykk (xlk (pX8_addSheet Post)) cut WW n) := yf rfl
theorem fX8_addSheet_4 (Post : XPo) (cut : List Nat) (WW : XK) (n : Nat) (L : XLs) (st : List XV) (M : XM) : yru (xlk (pX8_addSheet Post)) cut WW (n + 1) 4 L st M = j_ald 0 1 4 L st M (ykk (xlk (pX8_addSheet Post)) cut WW n) := yf rfl
theorem fX8_addSheet_5 (Post : XPo) (cut : List Nat) (WW : XK) (n : Nat) (L : XLs) (st : List XV) (M : XM) : yru (xlk (pX8_addSheet Post)) cut WW (n + 1) 5 L st M = j_gI 20 3 5 L st M (ykk (xlk (pX8_addSheet Post)) cut WW n) := yf rfl
theorem fX8_addSheet_8 (Post : XPo) (cut : List Nat) (WW : XK) (n : Nat) (L : XLs) (st : List XV) (M : XM) : yru (xlk (pX8_addSheet Post)) cut WW (n + 1) 8 L st M = j_ine 32 8 L st M (ykk (xlk (pX8_addSheet Post)) cut WW n) := yf rfl
theorem fX8_addSheet_11 (Post : XPo) (cut : List Nat) (WW : XK) (n : Nat) (L : XLs) (st : List XV) (M : XM) : yru (xlk (pX8_addSheet Post)) cut WW (n + 1) 11 L st M = j_ald 0 1 11 L st M (ykk (xlk (pX8_addSheet Post)) cut WW n) := yf rfl
theorem fX8_addSheet_12 (Post : XPo) (cut : List Nat) (WW : XK) (n : Nat) (L : XLs) (st : List XV) (M : XM) : yru (xlk (pX8_addSheet Post)) cut WW (n + 1) 12 L st M = j_gI 20 11 12 L st M (ykk (xlk (pX8_addSheet Post)) cut WW n) := yf rfl
theorem fX8_addSheet_15 (Post : XPo) (cut : List Nat) (WW : XK) (n : Nat) (L : XLs) (st : List XV) (M : XM) : yru (xlk (pX8_addSheet Post)) cut WW (n + 1) 15 L st M = j_c 5 1 15 L st M (ykk (xlk (pX8_addSheet Post)) cut WW n) := yf rfl
theorem fX8_addSheet_16 (Post : XPo) (cut : List Nat) (WW : XK) (n : Nat) (L : XLs) (st : List XV) (M : XM) : yru (xlk (pX8_addSheet Post)) cut WW (n + 1) 16 L st M = j_ine 32 16 L st M (ykk (xlk (pX8_addSheet Post)) cut WW n) := yf rfl
theorem fX8_addSheet_19 (Post : XPo) (cut : List Nat) (WW : XK) (n : Nat) (L : XLs) (st : List XV) (M : XM) : yru (xlk (pX8_addSheet Post)) cut WW (n + 1) 19 L st M = j_ald 0 1 19 L st M (ykk (xlk (pX8_addSheet Post)) cut WW n) := yf rfl
theorem fX8_addSheet_20 (Post : XPo) (cut : List Nat) (WW : XK) (n : Nat) (L : XLs) (st : List XV) (M : XM) : yru (xlk (pX8_addSheet Post)) cut WW (n + 1) 20 L st M = j_gI 20 10 20 L st M (ykk (xlk (pX8_addSheet Post)) cut WW n) := yf rfl
theorem fX8_addSheet_23 (Post : XPo) (cut : List Nat) (WW : XK) (n : Nat) (L : XLs) (st : List XV) (M : XM) : yru (xlk (pX8_addSheet Post)) cut WW (n + 1) 23 L st M = j_c 30 2 23 L st M (ykk (xlk (pX8_addSheet Post)) cut WW n) := yf rfl
theorem fX8_addSheet_25 (Post : XPo) (cut : List Nat) (WW : XK) (n : Nat) (L : XLs) (st : List XV) (M : XM) : yru (xlk (pX8_addSheet Post)) cut WW (n + 1) 25 L st M = j_ilt 32 25 L st M (ykk (xlk (pX8_addSheet Post)) cut WW n) := yf rfl
theorem fX8_addSheet_28 (Post : XPo) (cut : List Nat) (WW : XK) (n : Nat) (L : XLs) (st : List XV) (M : XM) : yru (xlk (pX8_addSheet Post)) cut WW (n + 1) 28 L st M = j_c 1 1 28 L st M (ykk (xlk (pX8_addSheet Post)) cut WW n) := yf rfl
theorem fX8_addSheet_29 (Post : XPo) (cut : List Nat) (WW : XK) (n : Nat) (L : XLs) (st : List XV) (M : XM) : yru (xlk (pX8_addSheet Post)) cut WW (n + 1) 29 L st M = j_goto 33 29 L st M (ykk (xlk (pX8_addSheet Post)) cut WW n) := yf rfl
theorem fX8_addSheet_32 (Post : XPo) (cut : List Nat) (WW : XK) (n : Nat) (L : XLs) (st : List XV) (M : XM) : yru (xlk (pX8_addSheet Post)) cut WW (n + 1) 32 L st M = j_c 0 1 32 L st M (ykk (xlk (pX8_addSheet Post)) cut WW n) := yf rfl
theorem fX8_addSheet_33 (Post : XPo) (cut : List Nat) (WW : XK) (n : Nat) (L : XLs) (st : List XV) (M : XM) : yru (xlk (pX8_addSheet Post)) cut WW (n + 1) 33 L st M = j_ist 1 1 33 L st M (ykk (xlk (pX8_addSheet Post)) cut WW n) := yf rfl
theorem fX8_addSheet_34 (Post : XPo) (cut : List Nat) (WW : XK) (n : Nat) (L : XLs) (st : List XV) (M : XM) : yru (xlk (pX8_addSheet Post)) cut WW (n + 1) 34 L st M = j_ald 0 1 34 L st M (ykk (xlk (pX8_addSheet Post)) cut WW n) := yf rfl
theorem fX8_addSheet_35 (Post : XPo) (cut : List Nat) (WW : XK) (n : Nat) (L : XLs) (st : List XV) (M : XM) : yru (xlk (pX8_addSheet Post)) cut WW (n + 1) 35 L st M = j_ild 1 1 35 L st M (ykk (xlk (pX8_addSheet Post)) cut WW n) := yf rfl
theorem fX8_addSheet_36 (Post : XPo) (cut : List Nat) (WW : XK) (n : Nat) (L : XLs) (st : List XV) (M : XM) : yru (xlk (pX8_addSheet Post)) cut WW (n + 1) 36 L st M = j_eq 43 36 L st M (ykk (xlk (pX8_addSheet Post)) cut WW n) := yf rfl
theorem fX8_addSheet_39 (Post : XPo) (cut : List Nat) (WW : XK) (n : Nat) (L : XLs) (st : List XV) (M : XM) : yru (xlk (pX8_addSheet Post)) cut WW (n + 1) 39 L st M = j_c 0 1 39 L st M (ykk (xlk (pX8_addSheet Post)) cut WW n) := yf rfl
theorem fX8_addSheet_40 (Post : XPo) (cut : List Nat) (WW : XK) (n : Nat) (L : XLs) (st : List XV) (M : XM) : yru (xlk (pX8_addSheet Post)) cut WW (n + 1) 40 L st M = j_goto 44 40 L st M (ykk (xlk (pX8_addSheet Post)) cut WW n) := yf rfl
theorem fX8_addSheet_43 (Post : XPo) (cut : List Nat) (WW : XK) (n : Nat) (L : XLs) (st : List XV) (M : XM) : yru (xlk (pX8_addSheet Post)) cut WW (n + 1) 43 L st M = j_c 1 1 43 L st M (ykk (xlk (pX8_addSheet Post)) cut WW n) := yf rfl
theorem fX8_addSheet_44 (Post : XPo) (cut : List Nat) (WW : XK) (n : Nat) (L : XLs) (st : List XV) (M : XM) : yru (xlk (pX8_addSheet Post)) cut WW (n + 1) 44 L st M = j_pI 20 5 44 L st M (ykk (xlk (pX8_addSheet Post)) cut WW n) := yf rfl
theorem fX8_addSheet_47 (Post : XPo) (cut : List Nat) (WW : XK) (n : Nat) (L : XLs) (st : List XV) (M : XM) : yru (xlk (pX8_addSheet Post)) cut WW (n + 1) 47 L st M = j_ald 0 1 47 L st M (ykk (xlk (pX8_addSheet Post)) cut WW n) := yf rfl
theorem fX8_addSheet_48 (Post : XPo) (cut : List Nat) (WW : XK) (n : Nat) (L : XLs) (st : List XV) (M : XM) : yru (xlk (pX8_addSheet Post)) cut WW (n + 1) 48 L st M = j_gI 20 5 48 L st M (ykk (xlk (pX8_addSheet Post)) cut WW n) := yf rfl
theorem fX8_addSheet_51 (Post : XPo) (cut : List Nat) (WW : XK) (n : Nat) (L : XLs) (st : List XV) (M : XM) : yru (xlk (pX8_addSheet Post)) cut WW (n + 1) 51 L st M = j_le 56 51 L st M (ykk (xlk (pX8_addSheet Post)) cut WW n) := yf rfl
theorem fX8_addSheet_54 (Post : XPo) (cut : List Nat) (WW : XK) (n : Nat) (L : XLs) (st : List XV) (M : XM) : yru (xlk (pX8_addSheet Post)) cut WW (n + 1) 54 L st M = j_c 0 1 54 L st M (ykk (xlk (pX8_addSheet Post)) cut WW n) := yf rfl
theorem fX8_addSheet_55 (Post : XPo) (cut : List Nat) (WW : XK) (n : Nat) (L : XLs) (st : List XV) (M : XM) : yru (xlk (pX8_addSheet Post)) cut WW (n + 1) 55 L st M = j_iret Post 55 L st M (ykk (xlk (pX8_addSheet Post)) cut WW n) := yf rfl
theorem fX8_addSheet_56 (Post : XPo) (cut : List Nat) (WW : XK) (n : Nat) (L : XLs) (st : List XV) (M : XM) : yru (xlk (pX8_addSheet Post)) cut WW (n + 1) 56 L st M = j_ald 0 1 56 L st M (ykk (xlk (pX8_addSheet Post)) cut WW n) := yf rfl
theorem fX8_addSheet_57 (Post : XPo) (cut : List Nat) (WW : XK) (n : Nat) (L : XLs) (st : List XV) (M : XM) : yru (xlk (pX8_addSheet Post)) cut WW (n + 1) 57 L st M = j_V0 20 sX8_save 57 L st M (ykk (xlk (pX8_addSheet Post)) cut WW n) := yf rfl
theorem fX8_addSheet_60 (Post : XPo) (cut : List Nat) (WW : XK) (n : Nat) (L : XLs) (st : List XV) (M : XM) : yru (xlk (pX8_addSheet Post)) cut WW (n + 1) 60 L st M = j_ald 0 1 60 L st M (ykk (xlk (pX8_addSheet Post)) cut WW n) := yf rfl
theorem fX8_addSheet_61 (Post : XPo) (cut : List Nat) (WW : XK) (n : Nat) (L : XLs) (st : List XV) (M : XM) : yru (xlk (pX8_addSheet Post)) cut WW (n + 1) 61 L st M = j_c 0 1 61 L st M (ykk (xlk (pX8_addSheet Post)) cut WW n) := yf rfl
theorem fX8_addSheet_62 (Post : XPo) (cut : List Nat) (WW : XK) (n : Nat) (L : XLs) (st : List XV) (M : XM) : yru (xlk (pX8_addSheet Post)) cut WW (n + 1) 62 L st M = j_V1 20 sX8_ends 62 L st M (ykk (xlk (pX8_addSheet Post)) cut WW n) := yf rfl
theorem fX8_addSheet_65 (Post : XPo) (cut : List Nat) (WW : XK) (n : Nat) (L : XLs) (st : List XV) (M : XM) : yru (xlk (pX8_addSheet Post)) cut WW (n + 1) 65 L st M = j_pop 65 L st M (ykk (xlk (pX8_addSheet Post)) cut WW n) := yf rfl
theorem fX8_addSheet_66 (Post : XPo) (cut : List Nat) (WW : XK) (n : Nat) (L : XLs) (st : List XV) (M : XM) : yru (xlk (pX8_addSheet Post)) cut WW (n + 1) 66 L st M = j_ald 0 1 66 L st M (ykk (xlk (pX8_addSheet Post)) cut WW n) := yf rfl
theorem fX8_addSheet_67 (Post : XPo) (cut : List Nat) (WW : XK) (n : Nat) (L : XLs) (st : List XV) (M : XM) : yru (xlk (pX8_addSheet Post)) cut WW (n + 1) 67 L st M = j_c 0 1 67 L st M (ykk (xlk (pX8_addSheet Post)) cut WW n) := yf rfl
theorem fX8_addSheet_68 (Post : XPo) (cut : List Nat) (WW : XK) (n : Nat) (L : XLs) (st : List XV) (M : XM) : yru (xlk (pX8_addSheet Post)) cut WW (n + 1) 68 L st M = j_pI 20 3 68 L st M (ykk (xlk (pX8_addSheet Post)) cut WW n) := yf rfl
theorem fX8_addSheet_71 (Post : XPo) (cut : List Nat) (WW : XK) (n : Nat) (L : XLs) (st : List XV) (M : XM) : yru (xlk (pX8_addSheet Post)) cut WW (n + 1) 71 L st M = j_c 0 1 71 L st M (ykk (xlk (pX8_addSheet Post)) cut WW n) := yf rfl
theorem fX8_addSheet_72 (Post : XPo) (cut : List Nat) (WW : XK) (n : Nat) (L : XLs) (st : List XV) (M : XM) : yru (xlk (pX8_addSheet Post)) cut WW (n + 1) 72 L st M = j_ist 2 1 72 L st M (ykk (xlk (pX8_addSheet Post)) cut WW n) := yf rfl
theorem fX8_addSheet_73 (Post : XPo) (cut : List Nat) (WW : XK) (n : Nat) (L : XLs) (st : List XV) (M : XM) : yru (xlk (pX8_addSheet Post)) cut WW (n + 1) 73 L st M = j_ild 2 1 73 L st M (ykk (xlk (pX8_addSheet Post)) cut WW n) := yf rfl
theorem fX8_addSheet_74 (Post : XPo) (cut : List Nat) (WW : XK) (n : Nat) (L : XLs) (st : List XV) (M : XM) : yru (xlk (pX8_addSheet Post)) cut WW (n + 1) 74 L st M = j_ald 0 1 74 L st M (ykk (xlk (pX8_addSheet Post)) cut WW n) := yf rfl
theorem fX8_addSheet_75 (Post : XPo) (cut : List Nat) (WW : XK) (n : Nat) (L : XLs) (st : List XV) (M : XM) : yru (xlk (pX8_addSheet Post)) cut WW (n + 1) 75 L st M = j_gI 20 9 75 L st M (ykk (xlk (pX8_addSheet Post)) cut WW n) := yf rfl
theorem fX8_addSheet_78 (Post : XPo) (cut : List Nat) (WW : XK) (n : Nat) (L : XLs) (st : List XV) (M : XM) : yru (xlk (pX8_addSheet Post)) cut WW (n + 1) 78 L st M = j_igt 95 78 L st M (ykk (xlk (pX8_addSheet Post)) cut WW n) := yf rfl
theorem fX8_addSheet_81 (Post : XPo) (cut : List Nat) (WW : XK) (n : Nat) (L : XLs) (st : List XV) (M : XM) : yru (xlk (pX8_addSheet Post)) cut WW (n + 1) 81 L st M = j_ald 0 1 81 L st M (ykk (xlk (pX8_addSheet Post)) cut WW n) := yf rfl
theorem fX8_addSheet_82 (Post : XPo) (cut : List Nat) (WW : XK) (n : Nat) (L : XLs) (st : List XV) (M : XM) : yru (xlk (pX8_addSheet Post)) cut WW (n + 1) 82 L st M = j_ild 2 1 82 L st M (ykk (xlk (pX8_addSheet Post)) cut WW n) := yf rfl
theorem fX8_addSheet_83 (Post : XPo) (cut : List Nat) (WW : XK) (n : Nat) (L : XLs) (st : List XV) (M : XM) : yru (xlk (pX8_addSheet Post)) cut WW (n + 1) 83 L st M = j_V1 20 sX8_adds 83 L st M (ykk (xlk (pX8_addSheet Post)) cut WW n) := yf rfl
theorem fX8_addSheet_86 (Post : XPo) (cut : List Nat) (WW : XK) (n : Nat) (L : XLs) (st : List XV) (M : XM) : yru (xlk (pX8_addSheet Post)) cut WW (n + 1) 86 L st M = j_eq 95 86 L st M (ykk (xlk (pX8_addSheet Post)) cut WW n) := yf rfl
theorem fX8_addSheet_89 (Post : XPo) (cut : List Nat) (WW : XK) (n : Nat) (L : XLs) (st : List XV) (M : XM) : yru (xlk (pX8_addSheet Post)) cut WW (n + 1) 89 L st M = j_inc 2 1 89 L st M (ykk (xlk (pX8_addSheet Post)) cut WW n) := yf rfl
theorem fX8_addSheet_92 (Post : XPo) (cut : List Nat) (WW : XK) (n : Nat) (L : XLs) (st : List XV) (M : XM) : yru (xlk (pX8_addSheet Post)) cut WW (n + 1) 92 L st M = j_goto 73 92 L st M (ykk (xlk (pX8_addSheet Post)) cut WW n) := yf rfl
theorem fX8_addSheet_95 (Post : XPo) (cut : List Nat) (WW : XK) (n : Nat) (L : XLs) (st : List XV) (M : XM) : yru (xlk (pX8_addSheet Post)) cut WW (n + 1) 95 L st M = j_ild 2 1 95 L st M (ykk (xlk (pX8_addSheet Post)) cut WW n) := yf rfl
theorem fX8_addSheet_96 (Post : XPo) (cut : List Nat) (WW : XK) (n : Nat) (L : XLs) (st : List XV) (M : XM) : yru (xlk (pX8_addSheet Post)) cut WW (n + 1) 96 L st M = j_iret Post 96 L st M (ykk (xlk (pX8_addSheet Post)) cut WW n) := yf rfl
/-- what a sheet leaves -/
def shS (F' : XM) (f : Int) (M M' : XM) : Prop := (∀ t : Nat, ¬ t = 20 → ¬ t = 21 → ¬ t = 22 → ¬ t = 24 → M' t = M t) ∧ (∀ s : Int, ¬ s = 1 → ¬ s = 3 → ¬ s = 5 → ¬ s = 9 → ¬ s = 10 → ¬ s = 11 → M' 20 0 0 s = M 20 0 0 s) ∧ M' 20 0 0 3 = 0 ∧ M' 20 0 0 5 = 0 ∧ svh M M' ∧ GZ 60 F' f (M' 21 0 0)
def shN (M : XM) : XM := (reF (M 20 0 0 3).toNat 0 (rbM M)).2
abbrev shW (M : XM) : Prop := (reF (M 20 0 0 3).toNat 0 (rbM M)).1 = M 20 0 0 3 ∧ shN M 20 0 0 11 = 5 ∧ 30 ≤ shN M 20 0 0 10
theorem reF_tag {t : Nat} (h : ¬ t = 20) (h2 : ¬ t = 24) : ∀ (n : Nat) (i : Int) (M : XM), (reF n i M).2 t = M t
  | 0, _, _ => rfl
  | n + 1, i, M => by
    simp only [reF]
    split
    · exact tkR_tag h h2
    · rw [reF_tag h h2 n, tkR_tag h h2]
theorem reF_20 {s : Int} (h9 : ¬ s = 9) (h10 : ¬ s = 10) (h11 : ¬ s = 11) : ∀ (n : Nat) (i : Int) (M : XM), (reF n i M).2 20 0 0 s = M 20 0 0 s
  | 0, _, _ => rfl
  | n + 1, i, M => by
    simp only [reF]
    split
    · exact tkR_20 h9 h10 h11
    · rw [reF_20 h9 h10 h11 n, tkR_20 h9 h10 h11]
theorem shN_tag {M : XM} {t : Nat} (h : ¬ t = 20) (h2 : ¬ t = 24) : shN M t = M t := by
  unfold shN rbM
  rw [reF_tag h h2, xup_tag h, xup_tag h, xup_tag h]
theorem shN_20 {M : XM} {s : Int} (h9 : ¬ s = 9) (h10 : ¬ s = 10) (h11 : ¬ s = 11) : shN M 20 0 0 s = M 20 0 0 s := by
  unfold shN rbM
  rw [reF_20 h9 h10 h11, xup_app, if_neg (fun q => h11 q.2.2.2), xup_app, if_neg (fun q => h10 q.2.2.2), xup_app, if_neg (fun q => h9 q.2.2.2)]
theorem reF_le : ∀ (n : Nat) (i : Int) (M : XM), i ≤ (reF n i M).1 ∧ (reF n i M).1 ≤ i + n
  | 0, i, M => by simp only [reF]; omega
  | n + 1, i, M => by
    simp only [reF]
    split
    · dsimp only
      omega
    · have := reF_le n (i + 1) (tkR M (M 23 0 0 i)).2
      omega
/-- the numbers of the reader stay small -/
theorem reF_in : ∀ (n : Nat) (i k : Int) (M : XM), TI k M → (reF n i M).1 = i + n → TI (k + n) (reF n i M).2
  | 0, i, k, M, h, _ => by
    have e : k + ((0 : Nat) : Int) = k := by omega
    rw [e]
    exact h
  | n + 1, i, k, M, h, hq => by
    simp only [reF] at hq ⊢
    by_cases q : (tkR M (M 23 0 0 i)).1 = 0
    · rw [if_pos q] at hq
      dsimp only at hq
      omega
    · rw [if_neg q] at hq ⊢
      have h1 := (tkR_01 M (M 23 0 0 i)).resolve_left q
      have r := reF_in n (i + 1) (k + 1) _ (TI_step h h1) (by omega)
      have e : k + 1 + (n : Int) = k + ((n + 1 : Nat) : Int) := by omega
      rw [e] at r
      exact r
set_option maxRecDepth 100000 in
theorem kX8_addSheet_loop {Post : XPo} {WW : XK} (hC : XCl (xlk (pX8_addSheet Post)) WW) {f : Int} : ∀ (l : List Tu) (j : Int) (F P : XM) (x1 : Option XV), PS P j l → (∀ t ∈ l, tuOK t) → 0 ≤ j → j + l.length = P 20 0 0 9 + 1 → P 20 0 0 9 ≤ 8 → GZ 60 F f (P 21 0 0) → fI7 F f → (∀ P' : XM, (∀ q : Nat, ¬ q = 21 → P' q = P q) → GZ 60 (adL f l F).2 f (P' 21 0 0) → Post [xI (j + (adL f l F).1)] P') → WW 73 [some (xR 20 0 0), x1, some (xI j)] [] P
  | [], j, F, P, x1, hs, ho, h0, hl, h8, hz, h7, h => by
    have e : j = P 20 0 0 9 + 1 := by simpa using hl
    have lt : P 20 0 0 9 < j := by omega
    have r9 : XInR (P 20 0 0 9) := ⟨by omega, by omega⟩
    have rj : XInR j := ⟨by omega, by omega⟩
    have hp := h P (fun _ _ => rfl) hz
    simp only [adL, Int.add_zero] at hp
    refine yru_ok hC [73] 40 _ _ _ _ ?_
    simp only [ykk_ap, Int.reduceEq, Int.reduceLT, Int.reduceLE, Int.reduceNeg, Int.reduceAdd, Int.reduceSub, Int.reduceMul, and_self, false_and, and_false, not_true_eq_false, not_false_eq_true, true_implies, false_implies, xq0, xq1, xq2, xq3, xq4, xq5, xqR, xq1R, xq3R, xt1, xt2, xt3, List.mem_cons, List.not_mem_nil, or_false, false_or, or_self, if_false, if_true, reduceIte, reduceCtorEq, xent, xen, List.length_cons, List.length_nil, List.replicate, j_c, j_cJ, j_ild, j_ald, j_lld, j_ist, j_ast, j_lst, j_inc, j_add, j_sub, j_mul, j_neg, j_div, j_rem, j_and, j_shr, j_shl1, j_or, j_ladd, j_lsub, j_lmul, j_i2l, j_lcmp, j_i2c, j_dup, j_dup2, j_pop, j_goto, j_ieq, j_ine, j_ilt, j_ige, j_igt, j_ile, j_eq, j_ne, j_lt, j_ge, j_gt, j_le, xsw, j_tsw, j_lsw2, j_gI, j_gJ, j_gR, j_pI, j_pJ, j_gs, j_iald, j_iast, j_cald, j_cast, j_lald, j_last, j_aald, j_cpy, j_min, j_max, j_abs, j_iret, j_zret, j_lret, j_dret, j_ret0, j_V0, j_V1, j_V2, j_V3, j_V4, j_V5, j_S1, j_S2, j_S3, xget, xset, xset2, xclr, xc1, xcat, Nat.reduceAdd, Nat.reduceEqDiff, Nat.reduceLT, Nat.reduceLeDiff, Nat.reduceMul, List.cons_append, List.nil_append, true_and, and_true, List.singleton_append, j_i2lw, j_i2d, j_cF, j_ddiv, j_dmul, j_dsub, j_dcp, j_d2l, j_dld, j_dst, j_lshl, j_lor, j_raw, xtF, xqJ, fX8_addSheet_0, fX8_addSheet_1, fX8_addSheet_4, fX8_addSheet_5, fX8_addSheet_8, fX8_addSheet_11, fX8_addSheet_12, fX8_addSheet_15, fX8_addSheet_16, fX8_addSheet_19, fX8_addSheet_20, fX8_addSheet_23, fX8_addSheet_25, fX8_addSheet_28, fX8_addSheet_29, fX8_addSheet_32, fX8_addSheet_33, fX8_addSheet_34, fX8_addSheet_35, fX8_addSheet_36, fX8_addSheet_39, fX8_addSheet_40, fX8_addSheet_43, fX8_addSheet_44, fX8_addSheet_47, fX8_addSheet_48, fX8_addSheet_51, fX8_addSheet_54, fX8_addSheet_55, fX8_addSheet_56, fX8_addSheet_57, fX8_addSheet_60, fX8_addSheet_61, fX8_addSheet_62, fX8_addSheet_65, fX8_addSheet_66, fX8_addSheet_67, fX8_addSheet_68, fX8_addSheet_71, fX8_addSheet_72, fX8_addSheet_73, fX8_addSheet_74, fX8_addSheet_75, fX8_addSheet_78, fX8_addSheet_81, fX8_addSheet_82, fX8_addSheet_83, fX8_addSheet_86, fX8_addSheet_89, fX8_addSheet_92, fX8_addSheet_95, fX8_addSheet_96, sX8_rightUpTo, sX8_ends, r9, rj, lt, xvz_20, xvz_21, xrz_21, xdz_21, xvz_23, xrz_23, xdz_23, xvz_24, xrz_24, xdz_24, xlen, xcat, xc1, Nat.zero_le, Nat.reduceLeDiff]
    exact hp
  | t :: ts, j, F, P, x1, hs, ho, h0, hl, h8, hz, h7, h => by
    have hl' : j + (ts.length + 1 : Nat) = P 20 0 0 9 + 1 := by simpa using hl
    have lt : ¬ P 20 0 0 9 < j := by omega
    have r9 : XInR (P 20 0 0 9) := ⟨by omega, by omega⟩
    have rj : XInR j := ⟨by omega, by omega⟩
    have ht := ho t List.mem_cons_self
    simp only [adL] at h
    refine yru_ok hC [73] 40 _ _ _ _ ?_
    simp only [ykk_ap, Int.reduceEq, Int.reduceLT, Int.reduceLE, Int.reduceNeg, Int.reduceAdd, Int.reduceSub, Int.reduceMul, and_self, false_and, and_false, not_true_eq_false, not_false_eq_true, true_implies, false_implies, xq0, xq1, xq2, xq3, xq4, xq5, xqR, xq1R, xq3R, xt1, xt2, xt3, List.mem_cons, List.not_mem_nil, or_false, false_or, or_self, if_false, if_true, reduceIte, reduceCtorEq, xent, xen, List.length_cons, List.length_nil, List.replicate, j_c, j_cJ, j_ild, j_ald, j_lld, j_ist, j_ast, j_lst, j_inc, j_add, j_sub, j_mul, j_neg, j_div, j_rem, j_and, j_shr, j_shl1, j_or, j_ladd, j_lsub, j_lmul, j_i2l, j_lcmp, j_i2c, j_dup, j_dup2, j_pop, j_goto, j_ieq, j_ine, j_ilt, j_ige, j_igt, j_ile, j_eq, j_ne, j_lt, j_ge, j_gt, j_le, xsw, j_tsw, j_lsw2, j_gI, j_gJ, j_gR, j_pI, j_pJ, j_gs, j_iald, j_iast, j_cald, j_cast, j_lald, j_last, j_aald, j_cpy, j_min, j_max, j_abs, j_iret, j_zret, j_lret, j_dret, j_ret0, j_V0, j_V1, j_V2, j_V3, j_V4, j_V5, j_S1, j_S2, j_S3, xget, xset, xset2, xclr, xc1, xcat, Nat.reduceAdd, Nat.reduceEqDiff, Nat.reduceLT, Nat.reduceLeDiff, Nat.reduceMul, List.cons_append, List.nil_append, true_and, and_true, List.singleton_append, j_i2lw, j_i2d, j_cF, j_ddiv, j_dmul, j_dsub, j_dcp, j_d2l, j_dld, j_dst, j_lshl, j_lor, j_raw, xtF, xqJ, fX8_addSheet_0, fX8_addSheet_1, fX8_addSheet_4, fX8_addSheet_5, fX8_addSheet_8, fX8_addSheet_11, fX8_addSheet_12, fX8_addSheet_15, fX8_addSheet_16, fX8_addSheet_19, fX8_addSheet_20, fX8_addSheet_23, fX8_addSheet_25, fX8_addSheet_28, fX8_addSheet_29, fX8_addSheet_32, fX8_addSheet_33, fX8_addSheet_34, fX8_addSheet_35, fX8_addSheet_36, fX8_addSheet_39, fX8_addSheet_40, fX8_addSheet_43, fX8_addSheet_44, fX8_addSheet_47, fX8_addSheet_48, fX8_addSheet_51, fX8_addSheet_54, fX8_addSheet_55, fX8_addSheet_56, fX8_addSheet_57, fX8_addSheet_60, fX8_addSheet_61, fX8_addSheet_62, fX8_addSheet_65, fX8_addSheet_66, fX8_addSheet_67, fX8_addSheet_68, fX8_addSheet_71, fX8_addSheet_72, fX8_addSheet_73, fX8_addSheet_74, fX8_addSheet_75, fX8_addSheet_78, fX8_addSheet_81, fX8_addSheet_82, fX8_addSheet_83, fX8_addSheet_86, fX8_addSheet_89, fX8_addSheet_92, fX8_addSheet_95, fX8_addSheet_96, sX8_rightUpTo, sX8_ends, r9, rj, lt, xvz_20, xvz_21, xrz_21, xdz_21, xvz_23, xrz_23, xdz_23, xvz_24, xrz_24, xdz_24, xlen, xcat, xc1, Nat.zero_le, Nat.reduceLeDiff]
    refine xg_adds (F := F) (f := f) (t := t) ⟨⟨h0, by omega⟩, hz, h7, hs.1, ht⟩ (fun hm P2 p2 z2 => ?_) (fun hm => ?_)
    · rw [if_pos hm] at h
      have hb := fun x1 => kX8_addSheet_loop hC ts (j + 1) (nuT F f t) P2 x1 (PS_24 (p2 24 (by decide)) ts (j + 1) hs.2) (fun u hu => ho u (List.mem_cons_of_mem _ hu)) (by omega) (by rw [p2 20 (by decide)]; omega) (by rw [p2 20 (by decide)]; exact h8) z2 (fI7_nu h7 ht hm) (fun P' p' z' => by
        have q := h P' (fun q a => (p' q a).trans (p2 q a)) z'
        rw [show j + 1 + (adL f ts (nuT F f t)).1 = j + ((adL f ts (nuT F f t)).1 + 1) from by omega]
        exact q)
      simp only [ykk_ap, Int.reduceEq, Int.reduceLT, Int.reduceLE, Int.reduceNeg, Int.reduceAdd, Int.reduceSub, Int.reduceMul, and_self, false_and, and_false, not_true_eq_false, not_false_eq_true, true_implies, false_implies, xq0, xq1, xq2, xq3, xq4, xq5, xqR, xq1R, xq3R, xt1, xt2, xt3, List.mem_cons, List.not_mem_nil, or_false, false_or, or_self, if_false, if_true, reduceIte, reduceCtorEq, xent, xen, List.length_cons, List.length_nil, List.replicate, j_c, j_cJ, j_ild, j_ald, j_lld, j_ist, j_ast, j_lst, j_inc, j_add, j_sub, j_mul, j_neg, j_div, j_rem, j_and, j_shr, j_shl1, j_or, j_ladd, j_lsub, j_lmul, j_i2l, j_lcmp, j_i2c, j_dup, j_dup2, j_pop, j_goto, j_ieq, j_ine, j_ilt, j_ige, j_igt, j_ile, j_eq, j_ne, j_lt, j_ge, j_gt, j_le, xsw, j_tsw, j_lsw2, j_gI, j_gJ, j_gR, j_pI, j_pJ, j_gs, j_iald, j_iast, j_cald, j_cast, j_lald, j_last, j_aald, j_cpy, j_min, j_max, j_abs, j_iret, j_zret, j_lret, j_dret, j_ret0, j_V0, j_V1, j_V2, j_V3, j_V4, j_V5, j_S1, j_S2, j_S3, xget, xset, xset2, xclr, xc1, xcat, Nat.reduceAdd, Nat.reduceEqDiff, Nat.reduceLT, Nat.reduceLeDiff, Nat.reduceMul, List.cons_append, List.nil_append, true_and, and_true, List.singleton_append, j_i2lw, j_i2d, j_cF, j_ddiv, j_dmul, j_dsub, j_dcp, j_d2l, j_dld, j_dst, j_lshl, j_lor, j_raw, xtF, xqJ, fX8_addSheet_0, fX8_addSheet_1, fX8_addSheet_4, fX8_addSheet_5, fX8_addSheet_8, fX8_addSheet_11, fX8_addSheet_12, fX8_addSheet_15, fX8_addSheet_16, fX8_addSheet_19, fX8_addSheet_20, fX8_addSheet_23, fX8_addSheet_25, fX8_addSheet_28, fX8_addSheet_29, fX8_addSheet_32, fX8_addSheet_33, fX8_addSheet_34, fX8_addSheet_35, fX8_addSheet_36, fX8_addSheet_39, fX8_addSheet_40, fX8_addSheet_43, fX8_addSheet_44, fX8_addSheet_47, fX8_addSheet_48, fX8_addSheet_51, fX8_addSheet_54, fX8_addSheet_55, fX8_addSheet_56, fX8_addSheet_57, fX8_addSheet_60, fX8_addSheet_61, fX8_addSheet_62, fX8_addSheet_65, fX8_addSheet_66, fX8_addSheet_67, fX8_addSheet_68, fX8_addSheet_71, fX8_addSheet_72, fX8_addSheet_73, fX8_addSheet_74, fX8_addSheet_75, fX8_addSheet_78, fX8_addSheet_81, fX8_addSheet_82, fX8_addSheet_83, fX8_addSheet_86, fX8_addSheet_89, fX8_addSheet_92, fX8_addSheet_95, fX8_addSheet_96, sX8_rightUpTo, sX8_ends, xvz_20, xvz_21, xrz_21, xdz_21, xvz_23, xrz_23, xdz_23, xvz_24, xrz_24, xdz_24, xlen, xcat, xc1, Nat.zero_le, Nat.reduceLeDiff, xr_c (n := 0) rfl, xr_c (n := 1) rfl, xr_c (n := 2) rfl, xr_c (n := 3) rfl, xr_c (n := 4) rfl, xr_c (n := 5) rfl, xr_c (n := 30) rfl]
      exact hb _
    · rw [if_neg hm] at h
      have hp := h P (fun _ _ => rfl) hz
      simp only [Int.add_zero] at hp
      simp only [ykk_ap, Int.reduceEq, Int.reduceLT, Int.reduceLE, Int.reduceNeg, Int.reduceAdd, Int.reduceSub, Int.reduceMul, and_self, false_and, and_false, not_true_eq_false, not_false_eq_true, true_implies, false_implies, xq0, xq1, xq2, xq3, xq4, xq5, xqR, xq1R, xq3R, xt1, xt2, xt3, List.mem_cons, List.not_mem_nil, or_false, false_or, or_self, if_false, if_true, reduceIte, reduceCtorEq, xent, xen, List.length_cons, List.length_nil, List.replicate, j_c, j_cJ, j_ild, j_ald, j_lld, j_ist, j_ast, j_lst, j_inc, j_add, j_sub, j_mul, j_neg, j_div, j_rem, j_and, j_shr, j_shl1, j_or, j_ladd, j_lsub, j_lmul, j_i2l, j_lcmp, j_i2c, j_dup, j_dup2, j_pop, j_goto, j_ieq, j_ine, j_ilt, j_ige, j_igt, j_ile, j_eq, j_ne, j_lt, j_ge, j_gt, j_le, xsw, j_tsw, j_lsw2, j_gI, j_gJ, j_gR, j_pI, j_pJ, j_gs, j_iald, j_iast, j_cald, j_cast, j_lald, j_last, j_aald, j_cpy, j_min, j_max, j_abs, j_iret, j_zret, j_lret, j_dret, j_ret0, j_V0, j_V1, j_V2, j_V3, j_V4, j_V5, j_S1, j_S2, j_S3, xget, xset, xset2, xclr, xc1, xcat, Nat.reduceAdd, Nat.reduceEqDiff, Nat.reduceLT, Nat.reduceLeDiff, Nat.reduceMul, List.cons_append, List.nil_append, true_and, and_true, List.singleton_append, j_i2lw, j_i2d, j_cF, j_ddiv, j_dmul, j_dsub, j_dcp, j_d2l, j_dld, j_dst, j_lshl, j_lor, j_raw, xtF, xqJ, fX8_addSheet_0, fX8_addSheet_1, fX8_addSheet_4, fX8_addSheet_5, fX8_addSheet_8, fX8_addSheet_11, fX8_addSheet_12, fX8_addSheet_15, fX8_addSheet_16, fX8_addSheet_19, fX8_addSheet_20, fX8_addSheet_23, fX8_addSheet_25, fX8_addSheet_28, fX8_addSheet_29, fX8_addSheet_32, fX8_addSheet_33, fX8_addSheet_34, fX8_addSheet_35, fX8_addSheet_36, fX8_addSheet_39, fX8_addSheet_40, fX8_addSheet_43, fX8_addSheet_44, fX8_addSheet_47, fX8_addSheet_48, fX8_addSheet_51, fX8_addSheet_54, fX8_addSheet_55, fX8_addSheet_56, fX8_addSheet_57, fX8_addSheet_60, fX8_addSheet_61, fX8_addSheet_62, fX8_addSheet_65, fX8_addSheet_66, fX8_addSheet_67, fX8_addSheet_68, fX8_addSheet_71, fX8_addSheet_72, fX8_addSheet_73, fX8_addSheet_74, fX8_addSheet_75, fX8_addSheet_78, fX8_addSheet_81, fX8_addSheet_82, fX8_addSheet_83, fX8_addSheet_86, fX8_addSheet_89, fX8_addSheet_92, fX8_addSheet_95, fX8_addSheet_96, sX8_rightUpTo, sX8_ends, xvz_20, xvz_21, xrz_21, xdz_21, xvz_23, xrz_23, xdz_23, xvz_24, xrz_24, xdz_24, xlen, xcat, xc1, Nat.zero_le, Nat.reduceLeDiff, xr_c (n := 0) rfl, xr_c (n := 1) rfl, xr_c (n := 2) rfl, xr_c (n := 3) rfl, xr_c (n := 4) rfl, xr_c (n := 5) rfl, xr_c (n := 30) rfl]
      exact hp
def sX8_addSheet : XSp := xq0 20 (fun _ _ M Q => tOK M ∧ (shW M → ∃ (F : XM) (f : Int) (l : List Tu), RB F f M ∧ (PS (enM (shN M) 0) 0 l ∧ (l.length : Int) = shN M 20 0 0 9 + 1 ∧ ∀ t ∈ l, tuOK t) ∧ ∀ M' : XM, shS (adL f l F).2 f M M' → Q [xI (adL f l F).1] M') ∧ (¬ shW M → Q [xI 0] (xup (shN M) 20 0 0 5 1)))
set_option maxRecDepth 100000 in
theorem kX8_addSheet : XCn yX8_addSheet wX8_addSheet rX8_addSheet sX8_addSheet := XC0 pX8_addSheet rfl rfl aX8_addSheet (by decide) (fun i0 k0 M Post hv h WW hC => by
  obtain ⟨rfl, rfl⟩ := xk20 hv
  obtain ⟨hT, h1, h0⟩ := h
  have hl := hT.1
  have le := reF_le (M 20 0 0 3).toNat 0 (rbM M)
  obtain ⟨q, hq⟩ : ∃ q, q = (reF (M 20 0 0 3).toNat 0 (rbM M)).1 := ⟨_, rfl⟩
  obtain ⟨N, hN⟩ : ∃ N, N = shN M := ⟨_, rfl⟩
  have hN2 : (reF (M 20 0 0 3).toNat 0 (rbM M)).2 = N := hN.symm
  have n3 : N 20 0 0 3 = M 20 0 0 3 := by rw [hN]; exact shN_20 (by decide) (by decide) (by decide)
  have rq : XInR q := by rw [hq]; exact ⟨by omega, by omega⟩
  have r3 : XInR (M 20 0 0 3) := ⟨by omega, by omega⟩
  unfold shW at h1 h0
  rw [← hq, ← hN] at h1 h0
  show WW 0 [some (xR 20 0 0), none, none] [] M
  by_cases c1 : q = M 20 0 0 3
  · have ti := reF_in (M 20 0 0 3).toNat 0 0 (rbM M) (TI_rb M) (by rw [← hq, c1]; omega)
    rw [hN2] at ti
    obtain ⟨ti1, ti2, -, ti4, ti5⟩ := ti
    have r11 : XInR (N 20 0 0 11) := ⟨by omega, by omega⟩
    have r10 : XInR (N 20 0 0 10) := ⟨by omega, by omega⟩
    by_cases c2 : N 20 0 0 11 = 5
    · by_cases c3 : 30 ≤ N 20 0 0 10
      · have c4 : ¬ N 20 0 0 10 < 30 := by omega
        obtain ⟨F, f, l, ⟨hz, h7, hst⟩, ⟨l1, l2, l3⟩, h⟩ := h1 ⟨c1, c2, c3⟩
        have m8 : 9 * N 20 0 0 9 ≤ 60 := by
          unfold mmM at ti5
          rw [c2] at ti5
          simp only [Int.reduceEq, if_false] at ti5
          rw [if_neg (by omega), if_neg (by omega)] at ti5
          omega
        have n1 : N 20 0 0 1 = M 20 0 0 1 := by rw [hN]; exact shN_20 (by decide) (by decide) (by decide)
        have n21 : N 21 = M 21 := by rw [hN]; exact shN_tag (by decide) (by decide)
        have n22 : N 22 = M 22 := by rw [hN]; exact shN_tag (by decide) (by decide)
        have j0 : 0 ≤ 5 * N 20 0 0 9 + 5 - 1 := by omega
        have j1 : 5 * N 20 0 0 9 + 5 - 1 < 45 := by omega
        refine yru_ok hC [73] 100 _ _ _ _ ?_
        simp only [ykk_ap, Int.reduceEq, Int.reduceLT, Int.reduceLE, Int.reduceNeg, Int.reduceAdd, Int.reduceSub, Int.reduceMul, and_self, false_and, and_false, not_true_eq_false, not_false_eq_true, true_implies, false_implies, xq0, xq1, xq2, xq3, xq4, xq5, xqR, xq1R, xq3R, xt1, xt2, xt3, List.mem_cons, List.not_mem_nil, or_false, false_or, or_self, if_false, if_true, reduceIte, reduceCtorEq, xent, xen, List.length_cons, List.length_nil, List.replicate, j_c, j_cJ, j_ild, j_ald, j_lld, j_ist, j_ast, j_lst, j_inc, j_add, j_sub, j_mul, j_neg, j_div, j_rem, j_and, j_shr, j_shl1, j_or, j_ladd, j_lsub, j_lmul, j_i2l, j_lcmp, j_i2c, j_dup, j_dup2, j_pop, j_goto, j_ieq, j_ine, j_ilt, j_ige, j_igt, j_ile, j_eq, j_ne, j_lt, j_ge, j_gt, j_le, xsw, j_tsw, j_lsw2, j_gI, j_gJ, j_gR, j_pI, j_pJ, j_gs, j_iald, j_iast, j_cald, j_cast, j_lald, j_last, j_aald, j_cpy, j_min, j_max, j_abs, j_iret, j_zret, j_lret, j_dret, j_ret0, j_V0, j_V1, j_V2, j_V3, j_V4, j_V5, j_S1, j_S2, j_S3, xget, xset, xset2, xclr, xc1, xcat, Nat.reduceAdd, Nat.reduceEqDiff, Nat.reduceLT, Nat.reduceLeDiff, Nat.reduceMul, List.cons_append, List.nil_append, true_and, and_true, List.singleton_append, j_i2lw, j_i2d, j_cF, j_ddiv, j_dmul, j_dsub, j_dcp, j_d2l, j_dld, j_dst, j_lshl, j_lor, j_raw, xtF, xqJ, fX8_addSheet_0, fX8_addSheet_1, fX8_addSheet_4, fX8_addSheet_5, fX8_addSheet_8, fX8_addSheet_11, fX8_addSheet_12, fX8_addSheet_15, fX8_addSheet_16, fX8_addSheet_19, fX8_addSheet_20, fX8_addSheet_23, fX8_addSheet_25, fX8_addSheet_28, fX8_addSheet_29, fX8_addSheet_32, fX8_addSheet_33, fX8_addSheet_34, fX8_addSheet_35, fX8_addSheet_36, fX8_addSheet_39, fX8_addSheet_40, fX8_addSheet_43, fX8_addSheet_44, fX8_addSheet_47, fX8_addSheet_48, fX8_addSheet_51, fX8_addSheet_54, fX8_addSheet_55, fX8_addSheet_56, fX8_addSheet_57, fX8_addSheet_60, fX8_addSheet_61, fX8_addSheet_62, fX8_addSheet_65, fX8_addSheet_66, fX8_addSheet_67, fX8_addSheet_68, fX8_addSheet_71, fX8_addSheet_72, fX8_addSheet_73, fX8_addSheet_74, fX8_addSheet_75, fX8_addSheet_78, fX8_addSheet_81, fX8_addSheet_82, fX8_addSheet_83, fX8_addSheet_86, fX8_addSheet_89, fX8_addSheet_92, fX8_addSheet_95, fX8_addSheet_96, sX8_rightUpTo, sX8_ends, hT, ← hq, hN2, n3, rq, r3, c1, r11, c2, r10, c4, u5a, xvz_20, xvz_21, xrz_21, xdz_21, xvz_23, xrz_23, xdz_23, xvz_24, xrz_24, xdz_24, xlen, xcat, xc1, Nat.zero_le, Nat.reduceLeDiff, xr_c (n := 0) rfl, xr_c (n := 1) rfl, xr_c (n := 2) rfl, xr_c (n := 3) rfl, xr_c (n := 4) rfl, xr_c (n := 5) rfl, xr_c (n := 30) rfl]
        refine xg_save (by rw [u51, n1]; exact hst) (fun M1 hs => ?_)
        obtain ⟨s1, s2, s3, s4, s5⟩ := hs
        have t9 : M1 20 0 0 9 = N 20 0 0 9 := by rw [s2 9 (by decide), xup_app, if_neg (fun q => absurd q.2.2.2 (by decide))]
        have t10 : M1 20 0 0 10 = N 20 0 0 10 := by rw [s2 10 (by decide), xup_app, if_neg (fun q => absurd q.2.2.2 (by decide))]
        have t11 : M1 20 0 0 11 = 5 := by rw [s2 11 (by decide), xup_app, if_neg (fun q => absurd q.2.2.2 (by decide)), c2]
        have t24 : M1 24 = N 24 := by rw [s1 24 (by decide) (by decide), xup_tag (by decide)]
        have t21 : M1 21 = M 21 := by rw [s1 21 (by decide) (by decide), u521, n21]
        simp only [ykk_ap, Int.reduceEq, Int.reduceLT, Int.reduceLE, Int.reduceNeg, Int.reduceAdd, Int.reduceSub, Int.reduceMul, and_self, false_and, and_false, not_true_eq_false, not_false_eq_true, true_implies, false_implies, xq0, xq1, xq2, xq3, xq4, xq5, xqR, xq1R, xq3R, xt1, xt2, xt3, List.mem_cons, List.not_mem_nil, or_false, false_or, or_self, if_false, if_true, reduceIte, reduceCtorEq, xent, xen, List.length_cons, List.length_nil, List.replicate, j_c, j_cJ, j_ild, j_ald, j_lld, j_ist, j_ast, j_lst, j_inc, j_add, j_sub, j_mul, j_neg, j_div, j_rem, j_and, j_shr, j_shl1, j_or, j_ladd, j_lsub, j_lmul, j_i2l, j_lcmp, j_i2c, j_dup, j_dup2, j_pop, j_goto, j_ieq, j_ine, j_ilt, j_ige, j_igt, j_ile, j_eq, j_ne, j_lt, j_ge, j_gt, j_le, xsw, j_tsw, j_lsw2, j_gI, j_gJ, j_gR, j_pI, j_pJ, j_gs, j_iald, j_iast, j_cald, j_cast, j_lald, j_last, j_aald, j_cpy, j_min, j_max, j_abs, j_iret, j_zret, j_lret, j_dret, j_ret0, j_V0, j_V1, j_V2, j_V3, j_V4, j_V5, j_S1, j_S2, j_S3, xget, xset, xset2, xclr, xc1, xcat, Nat.reduceAdd, Nat.reduceEqDiff, Nat.reduceLT, Nat.reduceLeDiff, Nat.reduceMul, List.cons_append, List.nil_append, true_and, and_true, List.singleton_append, j_i2lw, j_i2d, j_cF, j_ddiv, j_dmul, j_dsub, j_dcp, j_d2l, j_dld, j_dst, j_lshl, j_lor, j_raw, xtF, xqJ, fX8_addSheet_0, fX8_addSheet_1, fX8_addSheet_4, fX8_addSheet_5, fX8_addSheet_8, fX8_addSheet_11, fX8_addSheet_12, fX8_addSheet_15, fX8_addSheet_16, fX8_addSheet_19, fX8_addSheet_20, fX8_addSheet_23, fX8_addSheet_25, fX8_addSheet_28, fX8_addSheet_29, fX8_addSheet_32, fX8_addSheet_33, fX8_addSheet_34, fX8_addSheet_35, fX8_addSheet_36, fX8_addSheet_39, fX8_addSheet_40, fX8_addSheet_43, fX8_addSheet_44, fX8_addSheet_47, fX8_addSheet_48, fX8_addSheet_51, fX8_addSheet_54, fX8_addSheet_55, fX8_addSheet_56, fX8_addSheet_57, fX8_addSheet_60, fX8_addSheet_61, fX8_addSheet_62, fX8_addSheet_65, fX8_addSheet_66, fX8_addSheet_67, fX8_addSheet_68, fX8_addSheet_71, fX8_addSheet_72, fX8_addSheet_73, fX8_addSheet_74, fX8_addSheet_75, fX8_addSheet_78, fX8_addSheet_81, fX8_addSheet_82, fX8_addSheet_83, fX8_addSheet_86, fX8_addSheet_89, fX8_addSheet_92, fX8_addSheet_95, fX8_addSheet_96, sX8_rightUpTo, sX8_ends, t9, t10, t11, j0, j1, xvz_20, xvz_21, xrz_21, xdz_21, xvz_23, xrz_23, xdz_23, xvz_24, xrz_24, xdz_24, xlen, xcat, xc1, Nat.zero_le, Nat.reduceLeDiff, xr_c (n := 0) rfl, xr_c (n := 1) rfl, xr_c (n := 2) rfl, xr_c (n := 3) rfl, xr_c (n := 4) rfl, xr_c (n := 5) rfl, xr_c (n := 30) rfl]
        refine kX8_addSheet_loop hC (f := f) l 0 F _ _ ?_ l3 (by decide) ?_ ?_ ?_ h7 (fun P' p' z' => ?_)
        · refine PS_24 ?_ l 0 l1
          unfold enM
          funext i k s
          simp only [xup_app, Nat.reduceEqDiff, false_and, if_false, t24, c2]
        · simp only [xup_app, Nat.reduceEqDiff, Int.reduceEq, true_and, false_and, and_false, if_false, t9]
          omega
        · simp only [xup_app, Nat.reduceEqDiff, Int.reduceEq, true_and, false_and, and_false, if_false, t9]
          omega
        · simp only [xup_tag (show ¬ 21 = 20 by decide), xup_tag (show ¬ 21 = 24 by decide), t21]
          exact hz
        · rw [Int.zero_add]
          refine h P' ⟨fun t a b c d => ?_, fun s a b c d e g => ?_, ?_, ?_, ⟨?_, ?_, ?_⟩, z'⟩
          · rw [p' t b]
            simp only [xup_tag a, xup_tag d]
            rw [s1 t a c, xup_tag a, hN]
            exact shN_tag a d
          · rw [p' 20 (by decide)]
            simp only [xup_app, Nat.reduceEqDiff, b, e, g, false_and, and_false, if_false]
            rw [s2 s a, xup_app, if_neg (fun q => c q.2.2.2), hN]
            exact shN_20 d e g
          · rw [p' 20 (by decide)]
            simp only [xup_app, and_self, if_true]
          · rw [p' 20 (by decide)]
            simp only [xup_app, Nat.reduceEqDiff, Int.reduceEq, false_and, and_false, if_false]
            rw [s2 5 (by decide), u5a]
          · rw [p' 20 (by decide)]
            simp only [xup_app, Nat.reduceEqDiff, Int.reduceEq, false_and, and_false, if_false]
            rw [s3, u51, n1]
          · rw [p' 20 (by decide), p' 22 (by decide)]
            simp only [xup_app, Nat.reduceEqDiff, Int.reduceEq, false_and, and_false, if_false]
            intro j a b
            rw [s4 j a b, u521, n21]
          · rw [p' 20 (by decide), p' 22 (by decide)]
            simp only [xup_app, Nat.reduceEqDiff, Int.reduceEq, false_and, and_false, if_false]
            intro k j a b c d
            rw [s5 k j a b c d, u51, n1, xup_tag (show ¬ 22 = 20 by decide), n22]
      · have c4 : N 20 0 0 10 < 30 := by omega
        have h := h0 (fun q => c3 q.2.2)
        refine yru_ok hC [73] 100 _ _ _ _ ?_
        simp only [ykk_ap, Int.reduceEq, Int.reduceLT, Int.reduceLE, Int.reduceNeg, Int.reduceAdd, Int.reduceSub, Int.reduceMul, and_self, false_and, and_false, not_true_eq_false, not_false_eq_true, true_implies, false_implies, xq0, xq1, xq2, xq3, xq4, xq5, xqR, xq1R, xq3R, xt1, xt2, xt3, List.mem_cons, List.not_mem_nil, or_false, false_or, or_self, if_false, if_true, reduceIte, reduceCtorEq, xent, xen, List.length_cons, List.length_nil, List.replicate, j_c, j_cJ, j_ild, j_ald, j_lld, j_ist, j_ast, j_lst, j_inc, j_add, j_sub, j_mul, j_neg, j_div, j_rem, j_and, j_shr, j_shl1, j_or, j_ladd, j_lsub, j_lmul, j_i2l, j_lcmp, j_i2c, j_dup, j_dup2, j_pop, j_goto, j_ieq, j_ine, j_ilt, j_ige, j_igt, j_ile, j_eq, j_ne, j_lt, j_ge, j_gt, j_le, xsw, j_tsw, j_lsw2, j_gI, j_gJ, j_gR, j_pI, j_pJ, j_gs, j_iald, j_iast, j_cald, j_cast, j_lald, j_last, j_aald, j_cpy, j_min, j_max, j_abs, j_iret, j_zret, j_lret, j_dret, j_ret0, j_V0, j_V1, j_V2, j_V3, j_V4, j_V5, j_S1, j_S2, j_S3, xget, xset, xset2, xclr, xc1, xcat, Nat.reduceAdd, Nat.reduceEqDiff, Nat.reduceLT, Nat.reduceLeDiff, Nat.reduceMul, List.cons_append, List.nil_append, true_and, and_true, List.singleton_append, j_i2lw, j_i2d, j_cF, j_ddiv, j_dmul, j_dsub, j_dcp, j_d2l, j_dld, j_dst, j_lshl, j_lor, j_raw, xtF, xqJ, fX8_addSheet_0, fX8_addSheet_1, fX8_addSheet_4, fX8_addSheet_5, fX8_addSheet_8, fX8_addSheet_11, fX8_addSheet_12, fX8_addSheet_15, fX8_addSheet_16, fX8_addSheet_19, fX8_addSheet_20, fX8_addSheet_23, fX8_addSheet_25, fX8_addSheet_28, fX8_addSheet_29, fX8_addSheet_32, fX8_addSheet_33, fX8_addSheet_34, fX8_addSheet_35, fX8_addSheet_36, fX8_addSheet_39, fX8_addSheet_40, fX8_addSheet_43, fX8_addSheet_44, fX8_addSheet_47, fX8_addSheet_48, fX8_addSheet_51, fX8_addSheet_54, fX8_addSheet_55, fX8_addSheet_56, fX8_addSheet_57, fX8_addSheet_60, fX8_addSheet_61, fX8_addSheet_62, fX8_addSheet_65, fX8_addSheet_66, fX8_addSheet_67, fX8_addSheet_68, fX8_addSheet_71, fX8_addSheet_72, fX8_addSheet_73, fX8_addSheet_74, fX8_addSheet_75, fX8_addSheet_78, fX8_addSheet_81, fX8_addSheet_82, fX8_addSheet_83, fX8_addSheet_86, fX8_addSheet_89, fX8_addSheet_92, fX8_addSheet_95, fX8_addSheet_96, sX8_rightUpTo, sX8_ends, hT, ← hq, hN2, n3, rq, r3, c1, r11, c2, r10, c4, u5a, xvz_20, xvz_21, xrz_21, xdz_21, xvz_23, xrz_23, xdz_23, xvz_24, xrz_24, xdz_24, xlen, xcat, xc1, Nat.zero_le, Nat.reduceLeDiff, xr_c (n := 0) rfl, xr_c (n := 1) rfl, xr_c (n := 2) rfl, xr_c (n := 3) rfl, xr_c (n := 4) rfl, xr_c (n := 5) rfl, xr_c (n := 30) rfl]
        exact h
    · have h := h0 (fun q => c2 q.2.1)
      refine yru_ok hC [73] 100 _ _ _ _ ?_
      simp only [ykk_ap, Int.reduceEq, Int.reduceLT, Int.reduceLE, Int.reduceNeg, Int.reduceAdd, Int.reduceSub, Int.reduceMul, and_self, false_and, and_false, not_true_eq_false, not_false_eq_true, true_implies, false_implies, xq0, xq1, xq2, xq3, xq4, xq5, xqR, xq1R, xq3R, xt1, xt2, xt3, List.mem_cons, List.not_mem_nil, or_false, false_or, or_self, if_false, if_true, reduceIte, reduceCtorEq, xent, xen, List.length_cons, List.length_nil, List.replicate, j_c, j_cJ, j_ild, j_ald, j_lld, j_ist, j_ast, j_lst, j_inc, j_add, j_sub, j_mul, j_neg, j_div, j_rem, j_and, j_shr, j_shl1, j_or, j_ladd, j_lsub, j_lmul, j_i2l, j_lcmp, j_i2c, j_dup, j_dup2, j_pop, j_goto, j_ieq, j_ine, j_ilt, j_ige, j_igt, j_ile, j_eq, j_ne, j_lt, j_ge, j_gt, j_le, xsw, j_tsw, j_lsw2, j_gI, j_gJ, j_gR, j_pI, j_pJ, j_gs, j_iald, j_iast, j_cald, j_cast, j_lald, j_last, j_aald, j_cpy, j_min, j_max, j_abs, j_iret, j_zret, j_lret, j_dret, j_ret0, j_V0, j_V1, j_V2, j_V3, j_V4, j_V5, j_S1, j_S2, j_S3, xget, xset, xset2, xclr, xc1, xcat, Nat.reduceAdd, Nat.reduceEqDiff, Nat.reduceLT, Nat.reduceLeDiff, Nat.reduceMul, List.cons_append, List.nil_append, true_and, and_true, List.singleton_append, j_i2lw, j_i2d, j_cF, j_ddiv, j_dmul, j_dsub, j_dcp, j_d2l, j_dld, j_dst, j_lshl, j_lor, j_raw, xtF, xqJ, fX8_addSheet_0, fX8_addSheet_1, fX8_addSheet_4, fX8_addSheet_5, fX8_addSheet_8, fX8_addSheet_11, fX8_addSheet_12, fX8_addSheet_15, fX8_addSheet_16, fX8_addSheet_19, fX8_addSheet_20, fX8_addSheet_23, fX8_addSheet_25, fX8_addSheet_28, fX8_addSheet_29, fX8_addSheet_32, fX8_addSheet_33, fX8_addSheet_34, fX8_addSheet_35, fX8_addSheet_36, fX8_addSheet_39, fX8_addSheet_40, fX8_addSheet_43, fX8_addSheet_44, fX8_addSheet_47, fX8_addSheet_48, fX8_addSheet_51, fX8_addSheet_54, fX8_addSheet_55, fX8_addSheet_56, fX8_addSheet_57, fX8_addSheet_60, fX8_addSheet_61, fX8_addSheet_62, fX8_addSheet_65, fX8_addSheet_66, fX8_addSheet_67, fX8_addSheet_68, fX8_addSheet_71, fX8_addSheet_72, fX8_addSheet_73, fX8_addSheet_74, fX8_addSheet_75, fX8_addSheet_78, fX8_addSheet_81, fX8_addSheet_82, fX8_addSheet_83, fX8_addSheet_86, fX8_addSheet_89, fX8_addSheet_92, fX8_addSheet_95, fX8_addSheet_96, sX8_rightUpTo, sX8_ends, hT, ← hq, hN2, n3, rq, r3, c1, r11, c2, u5a, xvz_20, xvz_21, xrz_21, xdz_21, xvz_23, xrz_23, xdz_23, xvz_24, xrz_24, xdz_24, xlen, xcat, xc1, Nat.zero_le, Nat.reduceLeDiff, xr_c (n := 0) rfl, xr_c (n := 1) rfl, xr_c (n := 2) rfl, xr_c (n := 3) rfl, xr_c (n := 4) rfl, xr_c (n := 5) rfl, xr_c (n := 30) rfl]
      exact h
  · have h := h0 (fun q => c1 q.1)
    refine yru_ok hC [73] 100 _ _ _ _ ?_
    simp only [ykk_ap, Int.reduceEq, Int.reduceLT, Int.reduceLE, Int.reduceNeg, Int.reduceAdd, Int.reduceSub, Int.reduceMul, and_self, false_and, and_false, not_true_eq_false, not_false_eq_true, true_implies, false_implies, xq0, xq1, xq2, xq3, xq4, xq5, xqR, xq1R, xq3R, xt1, xt2, xt3, List.mem_cons, List.not_mem_nil, or_false, false_or, or_self, if_false, if_true, reduceIte, reduceCtorEq, xent, xen, List.length_cons, List.length_nil, List.replicate, j_c, j_cJ, j_ild, j_ald, j_lld, j_ist, j_ast, j_lst, j_inc, j_add, j_sub, j_mul, j_neg, j_div, j_rem, j_and, j_shr, j_shl1, j_or, j_ladd, j_lsub, j_lmul, j_i2l, j_lcmp, j_i2c, j_dup, j_dup2, j_pop, j_goto, j_ieq, j_ine, j_ilt, j_ige, j_igt, j_ile, j_eq, j_ne, j_lt, j_ge, j_gt, j_le, xsw, j_tsw, j_lsw2, j_gI, j_gJ, j_gR, j_pI, j_pJ, j_gs, j_iald, j_iast, j_cald, j_cast, j_lald, j_last, j_aald, j_cpy, j_min, j_max, j_abs, j_iret, j_zret, j_lret, j_dret, j_ret0, j_V0, j_V1, j_V2, j_V3, j_V4, j_V5, j_S1, j_S2, j_S3, xget, xset, xset2, xclr, xc1, xcat, Nat.reduceAdd, Nat.reduceEqDiff, Nat.reduceLT, Nat.reduceLeDiff, Nat.reduceMul, List.cons_append, List.nil_append, true_and, and_true, List.singleton_append, j_i2lw, j_i2d, j_cF, j_ddiv, j_dmul, j_dsub, j_dcp, j_d2l, j_dld, j_dst, j_lshl, j_lor, j_raw, xtF, xqJ, fX8_addSheet_0, fX8_addSheet_1, fX8_addSheet_4, fX8_addSheet_5, fX8_addSheet_8, fX8_addSheet_11, fX8_addSheet_12, fX8_addSheet_15, fX8_addSheet_16, fX8_addSheet_19, fX8_addSheet_20, fX8_addSheet_23, fX8_addSheet_25, fX8_addSheet_28, fX8_addSheet_29, fX8_addSheet_32, fX8_addSheet_33, fX8_addSheet_34, fX8_addSheet_35, fX8_addSheet_36, fX8_addSheet_39, fX8_addSheet_40, fX8_addSheet_43, fX8_addSheet_44, fX8_addSheet_47, fX8_addSheet_48, fX8_addSheet_51, fX8_addSheet_54, fX8_addSheet_55, fX8_addSheet_56, fX8_addSheet_57, fX8_addSheet_60, fX8_addSheet_61, fX8_addSheet_62, fX8_addSheet_65, fX8_addSheet_66, fX8_addSheet_67, fX8_addSheet_68, fX8_addSheet_71, fX8_addSheet_72, fX8_addSheet_73, fX8_addSheet_74, fX8_addSheet_75, fX8_addSheet_78, fX8_addSheet_81, fX8_addSheet_82, fX8_addSheet_83, fX8_addSheet_86, fX8_addSheet_89, fX8_addSheet_92, fX8_addSheet_95, fX8_addSheet_96, sX8_rightUpTo, sX8_ends, hT, ← hq, hN2, n3, rq, r3, c1, u5a, xvz_20, xvz_21, xrz_21, xdz_21, xvz_23, xrz_23, xdz_23, xvz_24, xrz_24, xdz_24, xlen, xcat, xc1, Nat.zero_le, Nat.reduceLeDiff, xr_c (n := 0) rfl, xr_c (n := 1) rfl, xr_c (n := 2) rfl, xr_c (n := 3) rfl, xr_c (n := 4) rfl, xr_c (n := 5) rfl, xr_c (n := 30) rfl]
    exact h)
end XSt

