section XRb
/-- UnitKitchensModel.callAll()V -/
abbrev wX8_callAll : List Cond := Cond.code yX8_callAll cX8_callAll 2 none :: xT
abbrev rX8_callAll : Room := { frames := 2, cells := 0, slots := 0, locals := 43 }
def pX8_callAll (Post : XPo) : List (Nat × XStp) := [(0, j_c 0 1), (1, j_ist 1 1), (2, j_ild 1 1), (3, j_ald 0 1), (4, j_gR 20 (fun i k => (21, 0, 0))), (7, j_c 9 2), (9, j_iald), (10, j_ige 136), (13, j_ald 0 1), (14, j_ild 1 1), (15, j_V1 20 sX8_works), (18, j_eq 130), (21, j_ald 0 1), (22, j_ild 1 1), (23, j_c 4 1), (24, j_V2 20 sX8_ofUnit), (27, j_ald 0 1), (28, j_gR 20 (fun i k => (21, 0, 0))), (31, j_c 10 2), (33, j_iald), (34, j_ine 130), (37, j_ald 0 1), (38, j_ild 1 1), (39, j_c 8 2), (41, j_ald 0 1), (42, j_ild 1 1), (43, j_V1 20 sX8_owedTo), (46, j_ne 59), (49, j_ald 0 1), (50, j_gR 20 (fun i k => (21, 0, 0))), (53, j_c 10 2), (55, j_iald), (56, j_goto 66), (59, j_ald 0 1), (60, j_ild 1 1), (61, j_c 8 2), (63, j_V2 20 sX8_ofUnit), (66, j_V3 20 sX8_setUnit), (69, j_ald 0 1), (70, j_ild 1 1), (71, j_c 6 2), (73, j_ald 0 1), (74, j_ild 1 1), (75, j_c 3 1), (76, j_V2 20 sX8_ofUnit), (79, j_V3 20 sX8_addTo), (82, j_ald 0 1), (83, j_ild 1 1), (84, j_c 7 2), (86, j_ald 0 1), (87, j_ild 1 1), (88, j_c 2 1), (89, j_V2 20 sX8_ofUnit), (92, j_ald 0 1), (93, j_ild 1 1), (94, j_c 3 1), (95, j_V2 20 sX8_ofUnit), (98, j_sub), (99, j_V3 20 sX8_addTo), (102, j_ald 0 1), (103, j_ild 1 1), (104, j_c 4 1), (105, j_ald 0 1), (106, j_ild 1 1), (107, j_c 5 1), (108, j_V2 20 sX8_ofUnit), (111, j_V3 20 sX8_addTo), (114, j_ald 0 1), (115, j_gR 20 (fun i k => (21, 0, 0))), (118, j_c 14 2), (120, j_dup2), (121, j_iald), (122, j_ald 0 1), (123, j_ild 1 1), (124, j_c 2 1), (125, j_V2 20 sX8_ofUnit), (128, j_add), (129, j_iast), (130, j_inc 1 1), (133, j_goto 2), (136, j_ret0 Post)]
set_option maxRecDepth 100000 in
theorem aX8_callAll (Post : XPo) : XAll rX8_callAll cX8_callAll 2 RX8 wX8_callAll none Post (pX8_callAll Post) := XAll.cons (xs_iconst dX8_callAll_0) (XAll.cons (xs_istore_n dX8_callAll_1 rfl (by decide)) (XAll.cons (xs_iload_n dX8_callAll_2 rfl) (XAll.cons (xs_aload_n dX8_callAll_3 rfl) (XAll.cons (fgX8_0 tw_1048 dX8_callAll_4) (XAll.cons (xs_bipush dX8_callAll_7 rfl) (XAll.cons (xs_iald dX8_callAll_9) (XAll.cons (xs_icmp_ge dX8_callAll_10 (by decide)) (XAll.cons (xs_aload_n dX8_callAll_13 rfl) (XAll.cons (xs_iload_n dX8_callAll_14 rfl) (XAll.cons (xs_V1 kX8_works ⟨⟨rfl, rfl, by decide, by decide⟩, ⟨by decide, by decide, by decide +kernel⟩, ⟨tw_1228, tw_1230, tp_27, tw_9, tw_1231⟩, 8, TX8, _, rfl, fun G ρ f i k => ⟨_, rfl⟩⟩ dX8_callAll_15) (XAll.cons (xs_if_eq dX8_callAll_18 (by decide)) (XAll.cons (xs_aload_n dX8_callAll_21 rfl) (XAll.cons (xs_iload_n dX8_callAll_22 rfl) (XAll.cons (xs_iconst dX8_callAll_23) (XAll.cons (xs_V2 kX8_ofUnit ⟨⟨rfl, rfl, by decide, by decide⟩, ⟨by decide, by decide, by decide +kernel⟩, ⟨tw_1224, tw_1226, tp_26, tw_9, tw_1227⟩, 8, TX8, _, rfl, fun G ρ f i k => ⟨_, rfl⟩⟩ dX8_callAll_24) (XAll.cons (xs_aload_n dX8_callAll_27 rfl) (XAll.cons (fgX8_0 tw_1048 dX8_callAll_28) (XAll.cons (xs_bipush dX8_callAll_31 rfl) (XAll.cons (xs_iald dX8_callAll_33) (XAll.cons (xs_icmp_ne dX8_callAll_34 (by decide)) (XAll.cons (xs_aload_n dX8_callAll_37 rfl) (XAll.cons (xs_iload_n dX8_callAll_38 rfl) (XAll.cons (xs_bipush dX8_callAll_39 rfl) (XAll.cons (xs_aload_n dX8_callAll_41 rfl) (XAll.cons (xs_iload_n dX8_callAll_42 rfl) (XAll.cons (xs_V1 kX8_owedTo ⟨⟨rfl, rfl, by decide, by decide⟩, ⟨by decide, by decide, by decide +kernel⟩, ⟨tw_1252, tw_1254, tp_30, tw_9, tw_1255⟩, 8, TX8, _, rfl, fun G ρ f i k => ⟨_, rfl⟩⟩ dX8_callAll_43) (XAll.cons (xs_if_ne dX8_callAll_46 (by decide)) (XAll.cons (xs_aload_n dX8_callAll_49 rfl) (XAll.cons (fgX8_0 tw_1048 dX8_callAll_50) (XAll.cons (xs_bipush dX8_callAll_53 rfl) (XAll.cons (xs_iald dX8_callAll_55) (XAll.cons (xs_goto dX8_callAll_56 (by decide)) (XAll.cons (xs_aload_n dX8_callAll_59 rfl) (XAll.cons (xs_iload_n dX8_callAll_60 rfl) (XAll.cons (xs_bipush dX8_callAll_61 rfl) (XAll.cons (xs_V2 kX8_ofUnit ⟨⟨rfl, rfl, by decide, by decide⟩, ⟨by decide, by decide, by decide +kernel⟩, ⟨tw_1224, tw_1226, tp_26, tw_9, tw_1227⟩, 8, TX8, _, rfl, fun G ρ f i k => ⟨_, rfl⟩⟩ dX8_callAll_63) (XAll.cons (xs_V3 kX8_setUnit ⟨⟨rfl, rfl, by decide, by decide⟩, ⟨by decide, by decide, by decide +kernel⟩, ⟨tw_1208, tw_1210, tp_23, tw_9, tw_1211⟩, 8, TX8, _, rfl, fun G ρ f i k => ⟨_, rfl⟩⟩ dX8_callAll_66) (XAll.cons (xs_aload_n dX8_callAll_69 rfl) (XAll.cons (xs_iload_n dX8_callAll_70 rfl) (XAll.cons (xs_bipush dX8_callAll_71 rfl) (XAll.cons (xs_aload_n dX8_callAll_73 rfl) (XAll.cons (xs_iload_n dX8_callAll_74 rfl) (XAll.cons (xs_iconst dX8_callAll_75) (XAll.cons (xs_V2 kX8_ofUnit ⟨⟨rfl, rfl, by decide, by decide⟩, ⟨by decide, by decide, by decide +kernel⟩, ⟨tw_1224, tw_1226, tp_26, tw_9, tw_1227⟩, 8, TX8, _, rfl, fun G ρ f i k => ⟨_, rfl⟩⟩ dX8_callAll_76) (XAll.cons (xs_V3 kX8_addTo ⟨⟨rfl, rfl, by decide, by decide⟩, ⟨by decide, by decide, by decide +kernel⟩, ⟨tw_1232, tw_1234, tp_28, tw_9, tw_1235⟩, 8, TX8, _, rfl, fun G ρ f i k => ⟨_, rfl⟩⟩ dX8_callAll_79) (XAll.cons (xs_aload_n dX8_callAll_82 rfl) (XAll.cons (xs_iload_n dX8_callAll_83 rfl) (XAll.cons (xs_bipush dX8_callAll_84 rfl) (XAll.cons (xs_aload_n dX8_callAll_86 rfl) (XAll.cons (xs_iload_n dX8_callAll_87 rfl) (XAll.cons (xs_iconst dX8_callAll_88) (XAll.cons (xs_V2 kX8_ofUnit ⟨⟨rfl, rfl, by decide, by decide⟩, ⟨by decide, by decide, by decide +kernel⟩, ⟨tw_1224, tw_1226, tp_26, tw_9, tw_1227⟩, 8, TX8, _, rfl, fun G ρ f i k => ⟨_, rfl⟩⟩ dX8_callAll_89) (XAll.cons (xs_aload_n dX8_callAll_92 rfl) (XAll.cons (xs_iload_n dX8_callAll_93 rfl) (XAll.cons (xs_iconst dX8_callAll_94) (XAll.cons (xs_V2 kX8_ofUnit ⟨⟨rfl, rfl, by decide, by decide⟩, ⟨by decide, by decide, by decide +kernel⟩, ⟨tw_1224, tw_1226, tp_26, tw_9, tw_1227⟩, 8, TX8, _, rfl, fun G ρ f i k => ⟨_, rfl⟩⟩ dX8_callAll_95) (XAll.cons (xs_isub dX8_callAll_98) (XAll.cons (xs_V3 kX8_addTo ⟨⟨rfl, rfl, by decide, by decide⟩, ⟨by decide, by decide, by decide +kernel⟩, ⟨tw_1232, tw_1234, tp_28, tw_9, tw_1235⟩, 8, TX8, _, rfl, fun G ρ f i k => ⟨_, rfl⟩⟩ dX8_callAll_99) (XAll.cons (xs_aload_n dX8_callAll_102 rfl) (XAll.cons (xs_iload_n dX8_callAll_103 rfl) (XAll.cons (xs_iconst dX8_callAll_104) (XAll.cons (xs_aload_n dX8_callAll_105 rfl) (XAll.cons (xs_iload_n dX8_callAll_106 rfl) (XAll.cons (xs_iconst dX8_callAll_107) (XAll.cons (xs_V2 kX8_ofUnit ⟨⟨rfl, rfl, by decide, by decide⟩, ⟨by decide, by decide, by decide +kernel⟩, ⟨tw_1224, tw_1226, tp_26, tw_9, tw_1227⟩, 8, TX8, _, rfl, fun G ρ f i k => ⟨_, rfl⟩⟩ dX8_callAll_108) (XAll.cons (xs_V3 kX8_addTo ⟨⟨rfl, rfl, by decide, by decide⟩, ⟨by decide, by decide, by decide +kernel⟩, ⟨tw_1232, tw_1234, tp_28, tw_9, tw_1235⟩, 8, TX8, _, rfl, fun G ρ f i k => ⟨_, rfl⟩⟩ dX8_callAll_111) (XAll.cons (xs_aload_n dX8_callAll_114 rfl) (XAll.cons (fgX8_0 tw_1048 dX8_callAll_115) (XAll.cons (xs_bipush dX8_callAll_118 rfl) (XAll.cons (xs_dup2 dX8_callAll_120) (XAll.cons (xs_iald dX8_callAll_121) (XAll.cons (xs_aload_n dX8_callAll_122 rfl) (XAll.cons (xs_iload_n dX8_callAll_123 rfl) (XAll.cons (xs_iconst dX8_callAll_124) (XAll.cons (xs_V2 kX8_ofUnit ⟨⟨rfl, rfl, by decide, by decide⟩, ⟨by decide, by decide, by decide +kernel⟩, ⟨tw_1224, tw_1226, tp_26, tw_9, tw_1227⟩, 8, TX8, _, rfl, fun G ρ f i k => ⟨_, rfl⟩⟩ dX8_callAll_125) (XAll.cons (xs_iadd dX8_callAll_128) (XAll.cons (xs_iast dX8_callAll_129) (XAll.cons (xs_iinc dX8_callAll_130 (by decide)) (XAll.cons (xs_goto dX8_callAll_133 (by decide)) (XAll.cons (xs_vret rfl dX8_callAll_136) (XAll.nil)))))))))))))))))))))))))))))))))))))))))))))))))))))))))))))))))))))))))))))))))
theorem fX8_callAll_0 (Post : XPo) (cut : List Nat) (WW : XK) (n : Nat) (L : XLs) (st : List XV) (M : XM) : yru (xlk (pX8_callAll Post)) cut WW (n + 1) 0 L st M = j_c 0 1 0 L st M (ykk (xlk (pX8_callAll Post)) cut WW n) := yf rfl
theorem fX8_callAll_1 (Post : XPo) (cut : List Nat) (WW : XK) (n : Nat) (L : XLs) (st : List XV) (M : XM) : yru (xlk (pX8_callAll Post)) cut WW (n + 1) 1 L st M = j_ist 1 1 1 L st M (ykk (xlk (pX8_callAll Post)) cut WW n) := yf rfl
theorem fX8_callAll_2 (Post : XPo) (cut : List Nat) (WW : XK) (n : Nat) (L : XLs) (st : List XV) (M : XM) : yru (xlk (pX8_callAll Post)) cut WW (n + 1) 2 L st M = j_ild 1 1 2 L st M (ykk (xlk (pX8_callAll Post)) cut WW n) := yf rfl
theorem fX8_callAll_3 (Post : XPo) (cut : List Nat) (WW : XK) (n : Nat) (L : XLs) (st : List XV) (M : XM) : yru (xlk (pX8_callAll Post)) cut WW (n + 1) 3 L st M = j_ald 0 1 3 L st M (ykk (xlk (pX8_callAll Post)) cut WW n) := yf rfl
theorem fX8_callAll_4 (Post : XPo) (cut : List Nat) (WW : XK) (n : Nat) (L : XLs) (st : List XV) (M : XM) : yru (xlk (pX8_callAll Post)) cut WW (n + 1) 4 L st M = j_gR 20 (fun i k => (21, 0, 0)) 4 L st M (ykk (xlk (pX8_callAll Post)) cut WW n) := yf rfl
theorem fX8_callAll_7 (Post : XPo) (cut : List Nat) (WW : XK) (n : Nat) (L : XLs) (st : List XV) (M : XM) : yru (xlk (pX8_callAll Post)) cut WW (n + 1) 7 L st M = j_c 9 2 7 L st M (ykk (xlk (pX8_callAll Post)) cut WW n) := yf rfl
theorem fX8_callAll_9 (Post : XPo) (cut : List Nat) (WW : XK) (n : Nat) (L : XLs) (st : List XV) (M : XM) : yru (xlk (pX8_callAll Post)) cut WW (n + 1) 9 L st M = j_iald 9 L st M (ykk (xlk (pX8_callAll Post)) cut WW n) := yf rfl
theorem fX8_callAll_10 (Post : XPo) (cut : List Nat) (WW : XK) (n : Nat) (L : XLs) (st : List XV) (M : XM) : yru (xlk (pX8_callAll Post)) cut WW (n + 1) 10 L st M = j_ige 136 10 L st M (ykk (xlk (pX8_callAll Post)) cut WW n) := yf rfl
theorem fX8_callAll_13 (Post : XPo) (cut : List Nat) (WW : XK) (n : Nat) (L : XLs) (st : List XV) (M : XM) : yru (xlk (pX8_callAll Post)) cut WW (n + 1) 13 L st M = j_ald 0 1 13 L st M (ykk (xlk (pX8_callAll Post)) cut WW n) := yf rfl
theorem fX8_callAll_14 (Post : XPo) (cut : List Nat) (WW : XK) (n : Nat) (L : XLs) (st : List XV) (M : XM) : yru (xlk (pX8_callAll Post)) cut WW (n + 1) 14 L st M = j_ild 1 1 14 L st M (ykk (xlk (pX8_callAll Post)) cut WW n) := yf rfl
theorem fX8_callAll_15 (Post : XPo) (cut : List Nat) (WW : XK) (n : Nat) (L : XLs) (st : List XV) (M : XM) : yru (xlk (pX8_callAll Post)) cut WW (n + 1) 15 L st M = j_V1 20 sX8_works 15 L st M (ykk (xlk (pX8_callAll Post)) cut WW n) := yf rfl
theorem fX8_callAll_18 (Post : XPo) (cut : List Nat) (WW : XK) (n : Nat) (L : XLs) (st : List XV) (M : XM) : yru (xlk (pX8_callAll Post)) cut WW (n + 1) 18 L st M = j_eq 130 18 L st M (ykk (xlk (pX8_callAll Post)) cut WW n) := yf rfl
theorem fX8_callAll_21 (Post : XPo) (cut : List Nat) (WW : XK) (n : Nat) (L : XLs) (st : List XV) (M : XM) : yru (xlk (pX8_callAll Post)) cut WW (n + 1) 21 L st M = j_ald 0 1 21 L st M (ykk (xlk (pX8_callAll Post)) cut WW n) := yf rfl
theorem fX8_callAll_22 (Post : XPo) (cut : List Nat) (WW : XK) (n : Nat) (L : XLs) (st : List XV) (M : XM) : yru (xlk (pX8_callAll Post)) cut WW (n + 1) 22 L st M = j_ild 1 1 22 L st M (ykk (xlk (pX8_callAll Post)) cut WW n) := yf rfl
theorem fX8_callAll_23 (Post : XPo) (cut : List Nat) (WW : XK) (n : Nat) (L : XLs) (st : List XV) (M : XM) : yru (xlk (pX8_callAll Post)) cut WW (n + 1) 23 L st M = j_c 4 1 23 L st M (ykk (xlk (pX8_callAll Post)) cut WW n) := yf rfl
theorem fX8_callAll_24 (Post : XPo) (cut : List Nat) (WW : XK) (n : Nat) (L : XLs) (st : List XV) (M : XM) : yru (xlk (pX8_callAll Post)) cut WW (n + 1) 24 L st M = j_V2 20 sX8_ofUnit 24 L st M (ykk (xlk (pX8_callAll Post)) cut WW n) := yf rfl
theorem fX8_callAll_27 (Post : XPo) (cut : List Nat) (WW : XK) (n : Nat) (L : XLs) (st : List XV) (M : XM) : yru (xlk (pX8_callAll Post)) cut WW (n + 1) 27 L st M = j_ald 0 1 27 L st M (ykk (xlk (pX8_callAll Post)) cut WW n) := yf rfl
theorem fX8_callAll_28 (Post : XPo) (cut : List Nat) (WW : XK) (n : Nat) (L : XLs) (st : List XV) (M : XM) : yru (xlk (pX8_callAll Post)) cut WW (n + 1) 28 L st M = j_gR 20 (fun i k => (21, 0, 0)) 28 L st M (ykk (xlk (pX8_callAll Post)) cut WW n) := yf rfl
theorem fX8_callAll_31 (Post : XPo) (cut : List Nat) (WW : XK) (n : Nat) (L : XLs) (st : List XV) (M : XM) : yru (xlk (pX8_callAll Post)) cut WW (n + 1) 31 L st M = j_c 10 2 31 L st M (ykk (xlk (pX8_callAll Post)) cut WW n) := yf rfl
theorem fX8_callAll_33 (Post : XPo) (cut : List Nat) (WW : XK) (n : Nat) (L : XLs) (st : List XV) (M : XM) : yru (xlk (pX8_callAll Post)) cut WW (n + 1) 33 L st M = j_iald 33 L st M (ykk (xlk (pX8_callAll Post)) cut WW n) := yf rfl
theorem fX8_callAll_34 (Post : XPo) (cut : List Nat) (WW : XK) (n : Nat) (L : XLs) (st : List XV) (M : XM) : yru (xlk (pX8_callAll Post)) cut WW (n + 1) 34 L st M = j_ine 130 34 L st M (ykk (xlk (pX8_callAll Post)) cut WW n) := yf rfl
theorem fX8_callAll_37 (Post : XPo) (cut : List Nat) (WW : XK) (n : Nat) (L : XLs) (st : List XV) (M : XM) : yru (xlk (pX8_callAll Post)) cut WW (n + 1) 37 L st M = j_ald 0 1 37 L st M (ykk (xlk (pX8_callAll Post)) cut WW n) := yf rfl
theorem fX8_callAll_38 (Post : XPo) (cut : List Nat) (WW : XK) (n : Nat) (L : XLs) (st : List XV) (M : XM) : yru (xlk (pX8_callAll Post)) cut WW (n + 1) 38 L st M = j_ild 1 1 38 L st M (ykk (xlk (pX8_callAll Post)) cut WW n) := yf rfl
theorem fX8_callAll_39 (Post : XPo) (cut : List Nat) (WW : XK) (n : Nat) (L : XLs) (st : List XV) (M : XM) : yru (xlk (pX8_callAll Post)) cut WW (n + 1) 39 L st M = j_c 8 2 39 L st M (ykk (xlk (pX8_callAll Post)) cut WW n) := yf rfl
theorem fX8_callAll_41 (Post : XPo) (cut : List Nat) (WW : XK) (n : Nat) (L : XLs) (st : List XV) (M : XM) : yru (xlk (pX8_callAll Post)) cut WW (n + 1) 41 L st M = j_ald 0 1 41 L st M (ykk (xlk (pX8_callAll Post)) cut WW n) := yf rfl
theorem fX8_callAll_42 (Post : XPo) (cut : List Nat) (WW : XK) (n : Nat) (L : XLs) (st : List XV) (M : XM) : yru (xlk (pX8_callAll Post)) cut WW (n + 1) 42 L st M = j_ild 1 1 42 L st M (ykk (xlk (pX8_callAll Post)) cut WW n) := yf rfl
theorem fX8_callAll_43 (Post : XPo) (cut : List Nat) (WW : XK) (n : Nat) (L : XLs) (st : List XV) (M : XM) : yru (xlk (pX8_callAll Post)) cut WW (n + 1) 43 L st M = j_V1 20 sX8_owedTo 43 L st M (ykk (xlk (pX8_callAll Post)) cut WW n) := yf rfl
theorem fX8_callAll_46 (Post : XPo) (cut : List Nat) (WW : XK) (n : Nat) (L : XLs) (st : List XV) (M : XM) : yru (xlk (pX8_callAll Post)) cut WW (n + 1) 46 L st M = j_ne 59 46 L st M (ykk (xlk (pX8_callAll Post)) cut WW n) := yf rfl
theorem fX8_callAll_49 (Post : XPo) (cut : List Nat) (WW : XK) (n : Nat) (L : XLs) (st : List XV) (M : XM) : yru (xlk (pX8_callAll Post)) cut WW (n + 1) 49 L st M = j_ald 0 1 49 L st M (ykk (xlk (pX8_callAll Post)) cut WW n) := yf rfl
theorem fX8_callAll_50 (Post : XPo) (cut : List Nat) (WW : XK) (n : Nat) (L : XLs) (st : List XV) (M : XM) : yru (xlk (pX8_callAll Post)) cut WW (n + 1) 50 L st M = j_gR 20 (fun i k => (21, 0, 0)) 50 L st M (ykk (xlk (pX8_callAll Post)) cut WW n) := yf rfl
theorem fX8_callAll_53 (Post : XPo) (cut : List Nat) (WW : XK) (n : Nat) (L : XLs) (st : List XV) (M : XM) : yru (xlk (pX8_callAll Post)) cut WW (n + 1) 53 L st M = j_c 10 2 53 L st M (ykk (xlk (pX8_callAll Post)) cut WW n) := yf rfl
theorem fX8_callAll_55 (Post : XPo) (cut : List Nat) (WW : XK) (n : Nat) (L : XLs) (st : List XV) (M : XM) : yru (xlk (pX8_callAll Post)) cut WW (n + 1) 55 L st M = j_iald 55 L st M (ykk (xlk (pX8_callAll Post)) cut WW n) := yf rfl
theorem fX8_callAll_56 (Post : XPo) (cut : List Nat) (WW : XK) (n : Nat) (L : XLs) (st : List XV) (M : XM) : yru (xlk (pX8_callAll Post)) cut WW (n + 1) 56 L st M = j_goto 66 56 L st M (ykk (xlk (pX8_callAll Post)) cut WW n) := yf rfl
theorem fX8_callAll_59 (Post : XPo) (cut : List Nat) (WW : XK) (n : Nat) (L : XLs) (st : List XV) (M : XM) : yru (xlk (pX8_callAll Post)) cut WW (n + 1) 59 L st M = j_ald 0 1 59 L st M (ykk (xlk (pX8_callAll Post)) cut WW n) := yf rfl
theorem fX8_callAll_60 (Post : XPo) (cut : List Nat) (WW : XK) (n : Nat) (L : XLs) (st : List XV) (M : XM) : yru (xlk (pX8_callAll Post)) cut WW (n + 1) 60 L st M = j_ild 1 1 60 L st M (ykk (xlk (pX8_callAll Post)) cut WW n) := yf rfl
theorem fX8_callAll_61 (Post : XPo) (cut : List Nat) (WW : XK) (n : Nat) (L : XLs) (st : List XV) (M : XM) : yru (xlk (pX8_callAll Post)) cut WW (n + 1) 61 L st M = j_c 8 2 61 L st M (ykk (xlk (pX8_callAll Post)) cut WW n) := yf rfl
theorem fX8_callAll_63 (Post : XPo) (cut : List Nat) (WW : XK) (n : Nat) (L : XLs) (st : List XV) (M : XM) : yru (xlk (pX8_callAll Post)) cut WW (n + 1) 63 L st M = j_V2 20 sX8_ofUnit 63 L st M (ykk (xlk (pX8_callAll Post)) cut WW n) := yf rfl
theorem fX8_callAll_66 (Post : XPo) (cut : List Nat) (WW : XK) (n : Nat) (L : XLs) (st : List XV) (M : XM) : yru (xlk (pX8_callAll Post)) cut WW (n + 1) 66 L st M = j_V3 20 sX8_setUnit 66 L st M (ykk (xlk (pX8_callAll Post)) cut WW n) := yf rfl
theorem fX8_callAll_69 (Post : XPo) (cut : List Nat) (WW : XK) (n : Nat) (L : XLs) (st : List XV) (M : XM) : yru (xlk (pX8_callAll Post)) cut WW (n + 1) 69 L st M = j_ald 0 1 69 L st M (ykk (xlk (pX8_callAll Post)) cut WW n) := yf rfl
theorem fX8_callAll_70 (Post : XPo) (cut : List Nat) (WW : XK) (n : Nat) (L : XLs) (st : List XV) (M : XM) : yru (xlk (pX8_callAll Post)) cut WW (n + 1) 70 L st M = j_ild 1 1 70 L st M (ykk (xlk (pX8_callAll Post)) cut WW n) := yf rfl
theorem fX8_callAll_71 (Post : XPo) (cut : List Nat) (WW : XK) (n : Nat) (L : XLs) (st : List XV) (M : XM) : yru (xlk (pX8_callAll Post)) cut WW (n + 1) 71 L st M = j_c 6 2 71 L st M (ykk (xlk (pX8_callAll Post)) cut WW n) := yf rfl
theorem fX8_callAll_73 (Post : XPo) (cut : List Nat) (WW : XK) (n : Nat) (L : XLs) (st : List XV) (M : XM) : yru (xlk (pX8_callAll Post)) cut WW (n + 1) 73 L st M = j_ald 0 1 73 L st M (ykk (xlk (pX8_callAll Post)) cut WW n) := yf rfl
theorem fX8_callAll_74 (Post : XPo) (cut : List Nat) (WW : XK) (n : Nat) (L : XLs) (st : List XV) (M : XM) : yru (xlk (pX8_callAll Post)) cut WW (n + 1) 74 L st M = j_ild 1 1 74 L st M (ykk (xlk (pX8_callAll Post)) cut WW n) := yf rfl
theorem fX8_callAll_75 (Post : XPo) (cut : List Nat) (WW : XK) (n : Nat) (L : XLs) (st : List XV) (M : XM) : yru (xlk (pX8_callAll Post)) cut WW (n + 1) 75 L st M = j_c 3 1 75 L st M (ykk (xlk (pX8_callAll Post)) cut WW n) := yf rfl
theorem fX8_callAll_76 (Post : XPo) (cut : List Nat) (WW : XK) (n : Nat) (L : XLs) (st : List XV) (M : XM) : yru (xlk (pX8_callAll Post)) cut WW (n + 1) 76 L st M = j_V2 20 sX8_ofUnit 76 L st M (ykk (xlk (pX8_callAll Post)) cut WW n) := yf rfl
theorem fX8_callAll_79 (Post : XPo) (cut : List Nat) (WW : XK) (n : Nat) (L : XLs) (st : List XV) (M : XM) : yru (xlk (pX8_callAll Post)) cut WW (n + 1) 79 L st M = j_V3 20 sX8_addTo 79 L st M (ykk (xlk (pX8_callAll Post)) cut WW n) := yf rfl
theorem fX8_callAll_82 (Post : XPo) (cut : List Nat) (WW : XK) (n : Nat) (L : XLs) (st : List XV) (M : XM) : yru (xlk (pX8_callAll Post)) cut WW (n + 1) 82 L st M = j_ald 0 1 82 L st M (ykk (xlk (pX8_callAll Post)) cut WW n) := yf rfl
theorem fX8_callAll_83 (Post : XPo) (cut : List Nat) (WW : XK) (n : Nat) (L : XLs) (st : List XV) (M : XM) : yru (xlk (pX8_callAll Post)) cut WW (n + 1) 83 L st M = j_ild 1 1 83 L st M (ykk (xlk (pX8_callAll Post)) cut WW n) := yf rfl
theorem fX8_callAll_84 (Post : XPo) (cut : List Nat) (WW : XK) (n : Nat) (L : XLs) (st : List XV) (M : XM) : yru (xlk (pX8_callAll Post)) cut WW (n + 1) 84 L st M = j_c 7 2 84 L st M (ykk (xlk (pX8_callAll Post)) cut WW n) := yf rfl
theorem fX8_callAll_86 (Post : XPo) (cut : List Nat) (WW : XK) (n : Nat) (L : XLs) (st : List XV) (M : XM) : yru (xlk (pX8_callAll Post)) cut WW (n + 1) 86 L st M = j_ald 0 1 86 L st M (ykk (xlk (pX8_callAll Post)) cut WW n) := yf rfl
theorem fX8_callAll_87 (Post : XPo) (cut : List Nat) (WW : XK) (n : Nat) (L : XLs) (st : List XV) (M : XM) : yru (xlk (pX8_callAll Post)) cut WW (n + 1) 87 L st M = j_ild 1 1 87 L st M (ykk (xlk (pX8_callAll Post)) cut WW n) := yf rfl
theorem fX8_callAll_88 (Post : XPo) (cut : List Nat) (WW : XK) (n : Nat) (L : XLs) (st : List XV) (M : XM) : yru (xlk (pX8_callAll Post)) cut WW (n + 1) 88 L st M = j_c 2 1 88 L st M (ykk (xlk (pX8_callAll Post)) cut WW n) := yf rfl
theorem fX8_callAll_89 (Post : XPo) (cut : List Nat) (WW : XK) (n : Nat) (L : XLs) (st : List XV) (M : XM) : yru (xlk (pX8_callAll Post)) cut WW (n + 1) 89 L st M = j_V2 20 sX8_ofUnit 89 L st M (ykk (xlk (pX8_callAll Post)) cut WW n) := yf rfl
theorem fX8_callAll_92 (Post : XPo) (cut : List Nat) (WW : XK) (n : Nat) (L : XLs) (st : List XV) (M : XM) : yru (xlk (pX8_callAll Post)) cut WW (n + 1) 92 L st M = j_ald 0 1 92 L st M (ykk (xlk (pX8_callAll Post)) cut WW n) := yf rfl
theorem fX8_callAll_93 (Post : XPo) (cut : List Nat) (WW : XK) (n : Nat) (L : XLs) (st : List XV) (M : XM) : yru (xlk (pX8_callAll Post)) cut WW (n + 1) 93 L st M = j_ild 1 1 93 L st M (ykk (xlk (pX8_callAll Post)) cut WW n) := yf rfl
theorem fX8_callAll_94 (Post : XPo) (cut : List Nat) (WW : XK) (n : Nat) (L : XLs) (st : List XV) (M : XM) : yru (xlk (pX8_callAll Post)) cut WW (n + 1) 94 L st M = j_c 3 1 94 L st M (ykk (xlk (pX8_callAll Post)) cut WW n) := yf rfl
theorem fX8_callAll_95 (Post : XPo) (cut : List Nat) (WW : XK) (n : Nat) (L : XLs) (st : List XV) (M : XM) : yru (xlk (pX8_callAll Post)) cut WW (n + 1) 95 L st M = j_V2 20 sX8_ofUnit 95 L st M (ykk (xlk (pX8_callAll Post)) cut WW n) := yf rfl
theorem fX8_callAll_98 (Post : XPo) (cut : List Nat) (WW : XK) (n : Nat) (L : XLs) (st : List XV) (M : XM) : yru (xlk (pX8_callAll Post)) cut WW (n + 1) 98 L st M = j_sub 98 L st M (ykk (xlk (pX8_callAll Post)) cut WW n) := yf rfl
theorem fX8_callAll_99 (Post : XPo) (cut : List Nat) (WW : XK) (n : Nat) (L : XLs) (st : List XV) (M : XM) : yru (xlk (pX8_callAll Post)) cut WW (n + 1) 99 L st M = j_V3 20 sX8_addTo 99 L st M (ykk (xlk (pX8_callAll Post)) cut WW n) := yf rfl
theorem fX8_callAll_102 (Post : XPo) (cut : List Nat) (WW : XK) (n : Nat) (L : XLs) (st : List XV) (M : XM) : yru (xlk (pX8_callAll Post)) cut WW (n + 1) 102 L st M = j_ald 0 1 102 L st M (ykk (xlk (pX8_callAll Post)) cut WW n) := yf rfl
theorem fX8_callAll_103 (Post : XPo) (cut : List Nat) (WW : XK) (n : Nat) (L : XLs) (st : List XV) (M : XM) : yru (xlk (pX8_callAll Post)) cut WW (n + 1) 103 L st M = j_ild 1 1 103 L st M (ykk (xlk (pX8_callAll Post)) cut WW n) := yf rfl
theorem fX8_callAll_104 (Post : XPo) (cut : List Nat) (WW : XK) (n : Nat) (L : XLs) (st : List XV) (M : XM) : yru (xlk (pX8_callAll Post)) cut WW (n + 1) 104 L st M = j_c 4 1 104 L st M (ykk (xlk (pX8_callAll Post)) cut WW n) := yf rfl
theorem fX8_callAll_105 (Post : XPo) (cut : List Nat) (WW : XK) (n : Nat) (L : XLs) (st : List XV) (M : XM) : yru (xlk (pX8_callAll Post)) cut WW (n + 1) 105 L st M = j_ald 0 1 105 L st M (ykk (xlk (pX8_callAll Post)) cut WW n) := yf rfl
theorem fX8_callAll_106 (Post : XPo) (cut : List Nat) (WW : XK) (n : Nat) (L : XLs) (st : List XV) (M : XM) : yru (xlk (pX8_callAll Post)) cut WW (n + 1) 106 L st M = j_ild 1 1 106 L st M (ykk (xlk (pX8_callAll Post)) cut WW n) := yf rfl
theorem fX8_callAll_107 (Post : XPo) (cut : List Nat) (WW : XK) (n : Nat) (L : XLs) (st : List XV) (M : XM) : yru (xlk (pX8_callAll Post)) cut WW (n + 1) 107 L st M = j_c 5 1 107 L st M (ykk (xlk (pX8_callAll Post)) cut WW n) := yf rfl
theorem fX8_callAll_108 (Post : XPo) (cut : List Nat) (WW : XK) (n : Nat) (L : XLs) (st : List XV) (M : XM) : yru (xlk (pX8_callAll Post)) cut WW (n + 1) 108 L st M = j_V2 20 sX8_ofUnit 108 L st M (ykk (xlk (pX8_callAll Post)) cut WW n) := yf rfl
theorem fX8_callAll_111 (Post : XPo) (cut : List Nat) (WW : XK) (n : Nat) (L : XLs) (st : List XV) (M : XM) : yru (xlk (pX8_callAll Post)) cut WW (n + 1) 111 L st M = j_V3 20 sX8_addTo 111 L st M (ykk (xlk (pX8_callAll Post)) cut WW n) := yf rfl
theorem fX8_callAll_114 (Post : XPo) (cut : List Nat) (WW : XK) (n : Nat) (L : XLs) (st : List XV) (M : XM) : yru (xlk (pX8_callAll Post)) cut WW (n + 1) 114 L st M = j_ald 0 1 114 L st M (ykk (xlk (pX8_callAll Post)) cut WW n) := yf rfl
theorem fX8_callAll_115 (Post : XPo) (cut : List Nat) (WW : XK) (n : Nat) (L : XLs) (st : List XV) (M : XM) : yru (xlk (pX8_callAll Post)) cut WW (n + 1) 115 L st M = j_gR 20 (fun i k => (21, 0, 0)) 115 L st M (ykk (xlk (pX8_callAll Post)) cut WW n) := yf rfl
theorem fX8_callAll_118 (Post : XPo) (cut : List Nat) (WW : XK) (n : Nat) (L : XLs) (st : List XV) (M : XM) : yru (xlk (pX8_callAll Post)) cut WW (n + 1) 118 L st M = j_c 14 2 118 L st M (ykk (xlk (pX8_callAll Post)) cut WW n) := yf rfl
theorem fX8_callAll_120 (Post : XPo) (cut : List Nat) (WW : XK) (n : Nat) (L : XLs) (st : List XV) (M : XM) : yru (xlk (pX8_callAll Post)) cut WW (n + 1) 120 L st M = j_dup2 120 L st M (ykk (xlk (pX8_callAll Post)) cut WW n) := yf rfl
theorem fX8_callAll_121 (Post : XPo) (cut : List Nat) (WW : XK) (n : Nat) (L : XLs) (st : List XV) (M : XM) : yru (xlk (pX8_callAll Post)) cut WW (n + 1) 121 L st M = j_iald 121 L st M (ykk (xlk (pX8_callAll Post)) cut WW n) := yf rfl
theorem fX8_callAll_122 (Post : XPo) (cut : List Nat) (WW : XK) (n : Nat) (L : XLs) (st : List XV) (M : XM) : yru (xlk (pX8_callAll Post)) cut WW (n + 1) 122 L st M = j_ald 0 1 122 L st M (ykk (xlk (pX8_callAll Post)) cut WW n) := yf rfl
theorem fX8_callAll_123 (Post : XPo) (cut : List Nat) (WW : XK) (n : Nat) (L : XLs) (st : List XV) (M : XM) : yru (xlk (pX8_callAll Post)) cut WW (n + 1) 123 L st M = j_ild 1 1 123 L st M (ykk (xlk (pX8_callAll Post)) cut WW n) := yf rfl
theorem fX8_callAll_124 (Post : XPo) (cut : List Nat) (WW : XK) (n : Nat) (L : XLs) (st : List XV) (M : XM) : yru (xlk (pX8_callAll Post)) cut WW (n + 1) 124 L st M = j_c 2 1 124 L st M (ykk (xlk (pX8_callAll Post)) cut WW n) := yf rfl
theorem fX8_callAll_125 (Post : XPo) (cut : List Nat) (WW : XK) (n : Nat) (L : XLs) (st : List XV) (M : XM) : yru (xlk (pX8_callAll Post)) cut WW (n + 1) 125 L st M = j_V2 20 sX8_ofUnit 125 L st M (ykk (xlk (pX8_callAll Post)) cut WW n) := yf rfl
theorem fX8_callAll_128 (Post : XPo) (cut : List Nat) (WW : XK) (n : Nat) (L : XLs) (st : List XV) (M : XM) : yru (xlk (pX8_callAll Post)) cut WW (n + 1) 128 L st M = j_add 128 L st M (ykk (xlk (pX8_callAll Post)) cut WW n) := yf rfl
theorem fX8_callAll_129 (Post : XPo) (cut : List Nat) (WW : XK) (n : Nat) (L : XLs) (st : List XV) (M : XM) : yru (xlk (pX8_callAll Post)) cut WW (n + 1) 129 L st M = j_iast 129 L st M (ykk (xlk (pX8_callAll Post)) cut WW n) := yf rfl
theorem fX8_callAll_130 (Post : XPo) (cut : List Nat) (WW : XK) (n : Nat) (L : XLs) (st : List XV) (M : XM) : yru (xlk (pX8_callAll Post)) cut WW (n + 1) 130 L st M = j_inc 1 1 130 L st M (ykk (xlk (pX8_callAll Post)) cut WW n) := yf rfl
theorem fX8_callAll_133 (Post : XPo) (cut : List Nat) (WW : XK) (n : Nat) (L : XLs) (st : List XV) (M : XM) : yru (xlk (pX8_callAll Post)) cut WW (n + 1) 133 L st M = j_goto 2 133 L st M (ykk (xlk (pX8_callAll Post)) cut WW n) := yf rfl
theorem fX8_callAll_136 (Post : XPo) (cut : List Nat) (WW : XK) (n : Nat) (L : XLs) (st : List XV) (M : XM) : yru (xlk (pX8_callAll Post)) cut WW (n + 1) 136 L st M = j_ret0 Post 136 L st M (ykk (xlk (pX8_callAll Post)) cut WW n) := yf rfl
set_option maxRecDepth 100000 in
theorem kX8_callAll_loop {Post : XPo} {WW : XK} (hC : XCl (xlk (pX8_callAll Post)) WW) {f A b : Int} : ∀ (n : Nat) (u c : Int) (F M : XM), GZ A F f (M 21 0 0) → fI c b F f → c + 300 * n ≤ 80000000 → 0 ≤ u → u + n = F 1 f 0 10 → (∀ M' : XM, zfr M M' → GZ A (xit (cal f) n u F) f (M' 21 0 0) → Post [] M') → WW 2 [some (xR 20 0 0), some (xI u)] [] M := by
  intro n
  induction n with
  | zero =>
    intro u c F M hz hG hc h0 h1 h
    have e9 : M 21 0 0 9 = F 1 f 0 10 := hz.2.2.1.2.2.2.1
    have c10 := hG.1.2.2.2.1
    have r9 : XInR (F 1 f 0 10) := ⟨by omega, by omega⟩
    have eu : u = F 1 f 0 10 := by omega
    have q := h M (zfr_refl M) hz
    subst eu
    refine yru_ok hC [2] 60 _ _ _ _ ?_
    simp only [ykk_ap, Int.reduceEq, Int.reduceLT, Int.reduceLE, Int.reduceNeg, Int.reduceAdd, Int.reduceSub, Int.reduceMul, and_self, false_and, and_false, not_true_eq_false, not_false_eq_true, true_implies, false_implies, xq0, xq1, xq2, xq3, xq4, xq5, xqR, xq1R, xq3R, xt1, xt2, xt3, List.mem_cons, List.not_mem_nil, or_false, false_or, or_self, if_false, if_true, reduceIte, reduceCtorEq, xent, xen, List.length_cons, List.length_nil, List.replicate, j_c, j_cJ, j_ild, j_ald, j_lld, j_ist, j_ast, j_lst, j_inc, j_add, j_sub, j_mul, j_neg, j_div, j_rem, j_and, j_shr, j_shl1, j_or, j_ladd, j_lsub, j_lmul, j_i2l, j_lcmp, j_i2c, j_dup, j_dup2, j_pop, j_goto, j_ieq, j_ine, j_ilt, j_ige, j_igt, j_ile, j_eq, j_ne, j_lt, j_ge, j_gt, j_le, xsw, j_tsw, j_lsw2, j_gI, j_gJ, j_gR, j_pI, j_pJ, j_gs, j_iald, j_iast, j_cald, j_cast, j_lald, j_last, j_aald, j_cpy, j_min, j_max, j_abs, j_iret, j_zret, j_lret, j_dret, j_ret0, j_V0, j_V1, j_V2, j_V3, j_V4, j_V5, j_S1, j_S2, j_S3, xget, xset, xset2, xclr, xc1, xcat, Nat.reduceAdd, Nat.reduceEqDiff, Nat.reduceLT, Nat.reduceLeDiff, Nat.reduceMul, List.cons_append, List.nil_append, true_and, and_true, List.singleton_append, fX8_callAll_0, fX8_callAll_1, fX8_callAll_2, fX8_callAll_3, fX8_callAll_4, fX8_callAll_7, fX8_callAll_9, fX8_callAll_10, fX8_callAll_13, fX8_callAll_14, fX8_callAll_15, fX8_callAll_18, fX8_callAll_21, fX8_callAll_22, fX8_callAll_23, fX8_callAll_24, fX8_callAll_27, fX8_callAll_28, fX8_callAll_31, fX8_callAll_33, fX8_callAll_34, fX8_callAll_37, fX8_callAll_38, fX8_callAll_39, fX8_callAll_41, fX8_callAll_42, fX8_callAll_43, fX8_callAll_46, fX8_callAll_49, fX8_callAll_50, fX8_callAll_53, fX8_callAll_55, fX8_callAll_56, fX8_callAll_59, fX8_callAll_60, fX8_callAll_61, fX8_callAll_63, fX8_callAll_66, fX8_callAll_69, fX8_callAll_70, fX8_callAll_71, fX8_callAll_73, fX8_callAll_74, fX8_callAll_75, fX8_callAll_76, fX8_callAll_79, fX8_callAll_82, fX8_callAll_83, fX8_callAll_84, fX8_callAll_86, fX8_callAll_87, fX8_callAll_88, fX8_callAll_89, fX8_callAll_92, fX8_callAll_93, fX8_callAll_94, fX8_callAll_95, fX8_callAll_98, fX8_callAll_99, fX8_callAll_102, fX8_callAll_103, fX8_callAll_104, fX8_callAll_105, fX8_callAll_106, fX8_callAll_107, fX8_callAll_108, fX8_callAll_111, fX8_callAll_114, fX8_callAll_115, fX8_callAll_118, fX8_callAll_120, fX8_callAll_121, fX8_callAll_122, fX8_callAll_123, fX8_callAll_124, fX8_callAll_125, fX8_callAll_128, fX8_callAll_129, fX8_callAll_130, fX8_callAll_133, fX8_callAll_136, sX8_works, sX8_ofUnit, sX8_owedTo, sX8_setUnit, sX8_addTo, xvz_20, xvz_21, xrz_21, xdz_21, xlen, xcat, xc1, Nat.zero_le, Nat.reduceLeDiff, e9, r9, Int.le_refl]
    exact q
  | succ n ih =>
    intro u c F M hz hG hc h0 h1 h
    have hB := GZ_zB hz hG.1
    have e9 : M 21 0 0 9 = F 1 f 0 10 := hz.2.2.1.2.2.2.1
    have z10 := hz.2.2.1.2.2.2.2
    have c10 := hG.1.2.2.2.1
    have r9 : XInR (F 1 f 0 10) := ⟨by omega, by omega⟩
    have g1 : ¬ F 1 f 0 10 ≤ u := by omega
    have u12 : u < 12 := by omega
    have ru : XInR u := ⟨by omega, by omega⟩
    have hI := zI_u hB.1 h0
    have r10 := hB.1 10 (by unfold zJ; omega)
    have hW := (hz.2.2.2.2.2.2.2.1 u h0 u12).1 (by omega)
    unfold gW1 at hW
    obtain ⟨e0, e1, p9, p10, p11, -, hw1, hw0⟩ := hW
    have hfi := fI_cal h0 u12 hG
    have hcnt : cal f u F 1 f 0 10 = F 1 f 0 10 := cal_1 (by decide)
    by_cases hs : F 14 f u 0 = 0
    · have y4 := (hw1 hs).1 4 (by decide) (by decide)
      have s0 : M 21 0 0 (73 + 12 * u + 0) = 0 := by rw [e0]; exact hs
      by_cases hm : F 14 f u 4 = F 1 f 0 0
      · have hd := GZ_cal hz hG (by omega) h0 (by omega) hs hm
        have hm' : M 21 0 0 (73 + 12 * u + 4) = M 21 0 0 10 := by rw [y4, z10]; exact hm
        unfold zCal at hd
        rw [hm'] at hd
        have q8 : ¬ 14 = 73 + 12 * u + 8 := by omega
        have q7 : ¬ 14 = 73 + 12 * u + 7 := by omega
        have q6 : ¬ 14 = 73 + 12 * u + 6 := by omega
        have q4 : ¬ 14 = 73 + 12 * u + 4 := by omega
        have ro : XInR (M 21 0 0 (73 + 12 * u + 6) + M 21 0 0 (73 + 12 * u + 7)) := by
          rw [(hw1 hs).1 6 (by decide) (by decide), (hw1 hs).1 7 (by decide) (by decide)]
          have := fU_ow hG.2.2.2.2 (by omega) h0 u12
          exact ⟨by omega, by omega⟩
        by_cases ho : M 21 0 0 (73 + 12 * u + 6) + M 21 0 0 (73 + 12 * u + 7) = 0
        · rw [if_pos ho] at hd
          refine yru_ok hC [2] 100 _ _ _ _ ?_
          simp only [ykk_ap, Int.reduceEq, Int.reduceLT, Int.reduceLE, Int.reduceNeg, Int.reduceAdd, Int.reduceSub, Int.reduceMul, and_self, false_and, and_false, not_true_eq_false, not_false_eq_true, true_implies, false_implies, xq0, xq1, xq2, xq3, xq4, xq5, xqR, xq1R, xq3R, xt1, xt2, xt3, List.mem_cons, List.not_mem_nil, or_false, false_or, or_self, if_false, if_true, reduceIte, reduceCtorEq, xent, xen, List.length_cons, List.length_nil, List.replicate, j_c, j_cJ, j_ild, j_ald, j_lld, j_ist, j_ast, j_lst, j_inc, j_add, j_sub, j_mul, j_neg, j_div, j_rem, j_and, j_shr, j_shl1, j_or, j_ladd, j_lsub, j_lmul, j_i2l, j_lcmp, j_i2c, j_dup, j_dup2, j_pop, j_goto, j_ieq, j_ine, j_ilt, j_ige, j_igt, j_ile, j_eq, j_ne, j_lt, j_ge, j_gt, j_le, xsw, j_tsw, j_lsw2, j_gI, j_gJ, j_gR, j_pI, j_pJ, j_gs, j_iald, j_iast, j_cald, j_cast, j_lald, j_last, j_aald, j_cpy, j_min, j_max, j_abs, j_iret, j_zret, j_lret, j_dret, j_ret0, j_V0, j_V1, j_V2, j_V3, j_V4, j_V5, j_S1, j_S2, j_S3, xget, xset, xset2, xclr, xc1, xcat, Nat.reduceAdd, Nat.reduceEqDiff, Nat.reduceLT, Nat.reduceLeDiff, Nat.reduceMul, List.cons_append, List.nil_append, true_and, and_true, List.singleton_append, fX8_callAll_0, fX8_callAll_1, fX8_callAll_2, fX8_callAll_3, fX8_callAll_4, fX8_callAll_7, fX8_callAll_9, fX8_callAll_10, fX8_callAll_13, fX8_callAll_14, fX8_callAll_15, fX8_callAll_18, fX8_callAll_21, fX8_callAll_22, fX8_callAll_23, fX8_callAll_24, fX8_callAll_27, fX8_callAll_28, fX8_callAll_31, fX8_callAll_33, fX8_callAll_34, fX8_callAll_37, fX8_callAll_38, fX8_callAll_39, fX8_callAll_41, fX8_callAll_42, fX8_callAll_43, fX8_callAll_46, fX8_callAll_49, fX8_callAll_50, fX8_callAll_53, fX8_callAll_55, fX8_callAll_56, fX8_callAll_59, fX8_callAll_60, fX8_callAll_61, fX8_callAll_63, fX8_callAll_66, fX8_callAll_69, fX8_callAll_70, fX8_callAll_71, fX8_callAll_73, fX8_callAll_74, fX8_callAll_75, fX8_callAll_76, fX8_callAll_79, fX8_callAll_82, fX8_callAll_83, fX8_callAll_84, fX8_callAll_86, fX8_callAll_87, fX8_callAll_88, fX8_callAll_89, fX8_callAll_92, fX8_callAll_93, fX8_callAll_94, fX8_callAll_95, fX8_callAll_98, fX8_callAll_99, fX8_callAll_102, fX8_callAll_103, fX8_callAll_104, fX8_callAll_105, fX8_callAll_106, fX8_callAll_107, fX8_callAll_108, fX8_callAll_111, fX8_callAll_114, fX8_callAll_115, fX8_callAll_118, fX8_callAll_120, fX8_callAll_121, fX8_callAll_122, fX8_callAll_123, fX8_callAll_124, fX8_callAll_125, fX8_callAll_128, fX8_callAll_129, fX8_callAll_130, fX8_callAll_133, fX8_callAll_136, sX8_works, sX8_ofUnit, sX8_owedTo, sX8_setUnit, sX8_addTo, xvz_20, xvz_21, xrz_21, xdz_21, xlen, xcat, xc1, Nat.zero_le, Nat.reduceLeDiff, hI, e9, r9, ru, r10, g1, h0, u12, s0, hm', ro, ho, q8, q7, q6, q4, Int.le_refl, Int.add_right_inj, xup_app, xr_c (n := 0) rfl, xr_c (n := 1) rfl]
          refine ih (u + 1) (c + 300) (cal f u F) _ ?_ hfi (by omega) (by omega) (by omega) (fun M' a b => h M' (zfr_trans (fun t ht => by simp only [xup_tag ht]) a) b)
          simp only [xup_sup]
          exact hd
        · rw [if_neg ho] at hd
          refine yru_ok hC [2] 100 _ _ _ _ ?_
          simp only [ykk_ap, Int.reduceEq, Int.reduceLT, Int.reduceLE, Int.reduceNeg, Int.reduceAdd, Int.reduceSub, Int.reduceMul, and_self, false_and, and_false, not_true_eq_false, not_false_eq_true, true_implies, false_implies, xq0, xq1, xq2, xq3, xq4, xq5, xqR, xq1R, xq3R, xt1, xt2, xt3, List.mem_cons, List.not_mem_nil, or_false, false_or, or_self, if_false, if_true, reduceIte, reduceCtorEq, xent, xen, List.length_cons, List.length_nil, List.replicate, j_c, j_cJ, j_ild, j_ald, j_lld, j_ist, j_ast, j_lst, j_inc, j_add, j_sub, j_mul, j_neg, j_div, j_rem, j_and, j_shr, j_shl1, j_or, j_ladd, j_lsub, j_lmul, j_i2l, j_lcmp, j_i2c, j_dup, j_dup2, j_pop, j_goto, j_ieq, j_ine, j_ilt, j_ige, j_igt, j_ile, j_eq, j_ne, j_lt, j_ge, j_gt, j_le, xsw, j_tsw, j_lsw2, j_gI, j_gJ, j_gR, j_pI, j_pJ, j_gs, j_iald, j_iast, j_cald, j_cast, j_lald, j_last, j_aald, j_cpy, j_min, j_max, j_abs, j_iret, j_zret, j_lret, j_dret, j_ret0, j_V0, j_V1, j_V2, j_V3, j_V4, j_V5, j_S1, j_S2, j_S3, xget, xset, xset2, xclr, xc1, xcat, Nat.reduceAdd, Nat.reduceEqDiff, Nat.reduceLT, Nat.reduceLeDiff, Nat.reduceMul, List.cons_append, List.nil_append, true_and, and_true, List.singleton_append, fX8_callAll_0, fX8_callAll_1, fX8_callAll_2, fX8_callAll_3, fX8_callAll_4, fX8_callAll_7, fX8_callAll_9, fX8_callAll_10, fX8_callAll_13, fX8_callAll_14, fX8_callAll_15, fX8_callAll_18, fX8_callAll_21, fX8_callAll_22, fX8_callAll_23, fX8_callAll_24, fX8_callAll_27, fX8_callAll_28, fX8_callAll_31, fX8_callAll_33, fX8_callAll_34, fX8_callAll_37, fX8_callAll_38, fX8_callAll_39, fX8_callAll_41, fX8_callAll_42, fX8_callAll_43, fX8_callAll_46, fX8_callAll_49, fX8_callAll_50, fX8_callAll_53, fX8_callAll_55, fX8_callAll_56, fX8_callAll_59, fX8_callAll_60, fX8_callAll_61, fX8_callAll_63, fX8_callAll_66, fX8_callAll_69, fX8_callAll_70, fX8_callAll_71, fX8_callAll_73, fX8_callAll_74, fX8_callAll_75, fX8_callAll_76, fX8_callAll_79, fX8_callAll_82, fX8_callAll_83, fX8_callAll_84, fX8_callAll_86, fX8_callAll_87, fX8_callAll_88, fX8_callAll_89, fX8_callAll_92, fX8_callAll_93, fX8_callAll_94, fX8_callAll_95, fX8_callAll_98, fX8_callAll_99, fX8_callAll_102, fX8_callAll_103, fX8_callAll_104, fX8_callAll_105, fX8_callAll_106, fX8_callAll_107, fX8_callAll_108, fX8_callAll_111, fX8_callAll_114, fX8_callAll_115, fX8_callAll_118, fX8_callAll_120, fX8_callAll_121, fX8_callAll_122, fX8_callAll_123, fX8_callAll_124, fX8_callAll_125, fX8_callAll_128, fX8_callAll_129, fX8_callAll_130, fX8_callAll_133, fX8_callAll_136, sX8_works, sX8_ofUnit, sX8_owedTo, sX8_setUnit, sX8_addTo, xvz_20, xvz_21, xrz_21, xdz_21, xlen, xcat, xc1, Nat.zero_le, Nat.reduceLeDiff, hI, e9, r9, ru, r10, g1, h0, u12, s0, hm', ro, ho, q8, q7, q6, q4, Int.le_refl, Int.add_right_inj, xup_app, xr_c (n := 0) rfl, xr_c (n := 1) rfl]
          refine ih (u + 1) (c + 300) (cal f u F) _ ?_ hfi (by omega) (by omega) (by omega) (fun M' a b => h M' (zfr_trans (fun t ht => by simp only [xup_tag ht]) a) b)
          simp only [xup_sup]
          exact hd
      · have hm' : ¬ M 21 0 0 (73 + 12 * u + 4) = M 21 0 0 10 := by rw [y4, z10]; exact hm
        have e : cal f u F = F := by unfold cal; rw [if_neg (fun q => hm q.2)]
        have hb := ih (u + 1) c F M hz hG (by omega) (by omega) (by omega) (fun M' a b => h M' a (by
          show GZ A (xit (cal f) n (u + 1) (cal f u F)) f (M' 21 0 0)
          rw [e]
          exact b))
        refine yru_ok hC [2] 100 _ _ _ _ ?_
        simp only [ykk_ap, Int.reduceEq, Int.reduceLT, Int.reduceLE, Int.reduceNeg, Int.reduceAdd, Int.reduceSub, Int.reduceMul, and_self, false_and, and_false, not_true_eq_false, not_false_eq_true, true_implies, false_implies, xq0, xq1, xq2, xq3, xq4, xq5, xqR, xq1R, xq3R, xt1, xt2, xt3, List.mem_cons, List.not_mem_nil, or_false, false_or, or_self, if_false, if_true, reduceIte, reduceCtorEq, xent, xen, List.length_cons, List.length_nil, List.replicate, j_c, j_cJ, j_ild, j_ald, j_lld, j_ist, j_ast, j_lst, j_inc, j_add, j_sub, j_mul, j_neg, j_div, j_rem, j_and, j_shr, j_shl1, j_or, j_ladd, j_lsub, j_lmul, j_i2l, j_lcmp, j_i2c, j_dup, j_dup2, j_pop, j_goto, j_ieq, j_ine, j_ilt, j_ige, j_igt, j_ile, j_eq, j_ne, j_lt, j_ge, j_gt, j_le, xsw, j_tsw, j_lsw2, j_gI, j_gJ, j_gR, j_pI, j_pJ, j_gs, j_iald, j_iast, j_cald, j_cast, j_lald, j_last, j_aald, j_cpy, j_min, j_max, j_abs, j_iret, j_zret, j_lret, j_dret, j_ret0, j_V0, j_V1, j_V2, j_V3, j_V4, j_V5, j_S1, j_S2, j_S3, xget, xset, xset2, xclr, xc1, xcat, Nat.reduceAdd, Nat.reduceEqDiff, Nat.reduceLT, Nat.reduceLeDiff, Nat.reduceMul, List.cons_append, List.nil_append, true_and, and_true, List.singleton_append, fX8_callAll_0, fX8_callAll_1, fX8_callAll_2, fX8_callAll_3, fX8_callAll_4, fX8_callAll_7, fX8_callAll_9, fX8_callAll_10, fX8_callAll_13, fX8_callAll_14, fX8_callAll_15, fX8_callAll_18, fX8_callAll_21, fX8_callAll_22, fX8_callAll_23, fX8_callAll_24, fX8_callAll_27, fX8_callAll_28, fX8_callAll_31, fX8_callAll_33, fX8_callAll_34, fX8_callAll_37, fX8_callAll_38, fX8_callAll_39, fX8_callAll_41, fX8_callAll_42, fX8_callAll_43, fX8_callAll_46, fX8_callAll_49, fX8_callAll_50, fX8_callAll_53, fX8_callAll_55, fX8_callAll_56, fX8_callAll_59, fX8_callAll_60, fX8_callAll_61, fX8_callAll_63, fX8_callAll_66, fX8_callAll_69, fX8_callAll_70, fX8_callAll_71, fX8_callAll_73, fX8_callAll_74, fX8_callAll_75, fX8_callAll_76, fX8_callAll_79, fX8_callAll_82, fX8_callAll_83, fX8_callAll_84, fX8_callAll_86, fX8_callAll_87, fX8_callAll_88, fX8_callAll_89, fX8_callAll_92, fX8_callAll_93, fX8_callAll_94, fX8_callAll_95, fX8_callAll_98, fX8_callAll_99, fX8_callAll_102, fX8_callAll_103, fX8_callAll_104, fX8_callAll_105, fX8_callAll_106, fX8_callAll_107, fX8_callAll_108, fX8_callAll_111, fX8_callAll_114, fX8_callAll_115, fX8_callAll_118, fX8_callAll_120, fX8_callAll_121, fX8_callAll_122, fX8_callAll_123, fX8_callAll_124, fX8_callAll_125, fX8_callAll_128, fX8_callAll_129, fX8_callAll_130, fX8_callAll_133, fX8_callAll_136, sX8_works, sX8_ofUnit, sX8_owedTo, sX8_setUnit, sX8_addTo, xvz_20, xvz_21, xrz_21, xdz_21, xlen, xcat, xc1, Nat.zero_le, Nat.reduceLeDiff, hI, e9, r9, ru, r10, g1, h0, u12, s0, hm', Int.le_refl, xr_c (n := 0) rfl, xr_c (n := 1) rfl]
        exact hb
    · have s0 : ¬ M 21 0 0 (73 + 12 * u + 0) = 0 := by rw [e0]; exact hs
      have e : cal f u F = F := by unfold cal; rw [if_neg (fun q => hs q.1)]
      have hb := ih (u + 1) c F M hz hG (by omega) (by omega) (by omega) (fun M' a b => h M' a (by
        show GZ A (xit (cal f) n (u + 1) (cal f u F)) f (M' 21 0 0)
        rw [e]
        exact b))
      refine yru_ok hC [2] 100 _ _ _ _ ?_
      simp only [ykk_ap, Int.reduceEq, Int.reduceLT, Int.reduceLE, Int.reduceNeg, Int.reduceAdd, Int.reduceSub, Int.reduceMul, and_self, false_and, and_false, not_true_eq_false, not_false_eq_true, true_implies, false_implies, xq0, xq1, xq2, xq3, xq4, xq5, xqR, xq1R, xq3R, xt1, xt2, xt3, List.mem_cons, List.not_mem_nil, or_false, false_or, or_self, if_false, if_true, reduceIte, reduceCtorEq, xent, xen, List.length_cons, List.length_nil, List.replicate, j_c, j_cJ, j_ild, j_ald, j_lld, j_ist, j_ast, j_lst, j_inc, j_add, j_sub, j_mul, j_neg, j_div, j_rem, j_and, j_shr, j_shl1, j_or, j_ladd, j_lsub, j_lmul, j_i2l, j_lcmp, j_i2c, j_dup, j_dup2, j_pop, j_goto, j_ieq, j_ine, j_ilt, j_ige, j_igt, j_ile, j_eq, j_ne, j_lt, j_ge, j_gt, j_le, xsw, j_tsw, j_lsw2, j_gI, j_gJ, j_gR, j_pI, j_pJ, j_gs, j_iald, j_iast, j_cald, j_cast, j_lald, j_last, j_aald, j_cpy, j_min, j_max, j_abs, j_iret, j_zret, j_lret, j_dret, j_ret0, j_V0, j_V1, j_V2, j_V3, j_V4, j_V5, j_S1, j_S2, j_S3, xget, xset, xset2, xclr, xc1, xcat, Nat.reduceAdd, Nat.reduceEqDiff, Nat.reduceLT, Nat.reduceLeDiff, Nat.reduceMul, List.cons_append, List.nil_append, true_and, and_true, List.singleton_append, fX8_callAll_0, fX8_callAll_1, fX8_callAll_2, fX8_callAll_3, fX8_callAll_4, fX8_callAll_7, fX8_callAll_9, fX8_callAll_10, fX8_callAll_13, fX8_callAll_14, fX8_callAll_15, fX8_callAll_18, fX8_callAll_21, fX8_callAll_22, fX8_callAll_23, fX8_callAll_24, fX8_callAll_27, fX8_callAll_28, fX8_callAll_31, fX8_callAll_33, fX8_callAll_34, fX8_callAll_37, fX8_callAll_38, fX8_callAll_39, fX8_callAll_41, fX8_callAll_42, fX8_callAll_43, fX8_callAll_46, fX8_callAll_49, fX8_callAll_50, fX8_callAll_53, fX8_callAll_55, fX8_callAll_56, fX8_callAll_59, fX8_callAll_60, fX8_callAll_61, fX8_callAll_63, fX8_callAll_66, fX8_callAll_69, fX8_callAll_70, fX8_callAll_71, fX8_callAll_73, fX8_callAll_74, fX8_callAll_75, fX8_callAll_76, fX8_callAll_79, fX8_callAll_82, fX8_callAll_83, fX8_callAll_84, fX8_callAll_86, fX8_callAll_87, fX8_callAll_88, fX8_callAll_89, fX8_callAll_92, fX8_callAll_93, fX8_callAll_94, fX8_callAll_95, fX8_callAll_98, fX8_callAll_99, fX8_callAll_102, fX8_callAll_103, fX8_callAll_104, fX8_callAll_105, fX8_callAll_106, fX8_callAll_107, fX8_callAll_108, fX8_callAll_111, fX8_callAll_114, fX8_callAll_115, fX8_callAll_118, fX8_callAll_120, fX8_callAll_121, fX8_callAll_122, fX8_callAll_123, fX8_callAll_124, fX8_callAll_125, fX8_callAll_128, fX8_callAll_129, fX8_callAll_130, fX8_callAll_133, fX8_callAll_136, sX8_works, sX8_ofUnit, sX8_owedTo, sX8_setUnit, sX8_addTo, xvz_20, xvz_21, xrz_21, xdz_21, xlen, xcat, xc1, Nat.zero_le, Nat.reduceLeDiff, hI, e9, r9, ru, g1, h0, u12, s0, Int.le_refl, xr_c (n := 0) rfl]
      exact hb
def sX8_callAll : XSp := xq0 20 (fun _ _ M Q => ∃ (F : XM) (f A c b : Int), (GZ A F f (M 21 0 0) ∧ fI c b F f ∧ c + 3600 ≤ 80000000) ∧ (∀ M' : XM, zfr M M' → GZ A (pCall F f) f (M' 21 0 0) → Q [] M'))
theorem xg_callAll {F : XM}{f A c b : Int} {M : XM} {Q : XPo} (hc : GZ A F f (M 21 0 0) ∧ fI c b F f ∧ c + 3600 ≤ 80000000) (h : ∀ M' : XM, zfr M M' → GZ A (pCall F f) f (M' 21 0 0) → Q [] M') : sX8_callAll [xR 20 0 0] M Q := @id ((20 = 20 ∧ xval 20 0 0) ∧ ∃ (F : XM) (f A c b : Int), (GZ A F f (M 21 0 0) ∧ fI c b F f ∧ c + 3600 ≤ 80000000) ∧ (∀ M' : XM, zfr M M' → GZ A (pCall F f) f (M' 21 0 0) → Q [] M')) ⟨⟨rfl, xvz_20⟩, F, f, A, c, b, hc, h⟩
set_option maxRecDepth 100000 in
theorem kX8_callAll : XCn yX8_callAll wX8_callAll rX8_callAll sX8_callAll := XC0 pX8_callAll rfl rfl aX8_callAll (by decide) (fun i0 k0 M Post hv h WW hC => by
  obtain ⟨rfl, rfl⟩ := xk20 hv
  obtain ⟨F, f, A, c, b, ⟨hz, hG, hc⟩, h⟩ := h
  have c10 := hG.1.2.2.2.1
  have hk := kX8_callAll_loop hC (F 1 f 0 10).toNat 0 c F M hz hG (by omega) (by decide) (by omega) h
  show WW 0 [some (xR 20 0 0), none] [] M
  refine yru_ok hC [2] 60 _ _ _ _ ?_
  simp only [ykk_ap, Int.reduceEq, Int.reduceLT, Int.reduceLE, Int.reduceNeg, Int.reduceAdd, Int.reduceSub, Int.reduceMul, and_self, false_and, and_false, not_true_eq_false, not_false_eq_true, true_implies, false_implies, xq0, xq1, xq2, xq3, xq4, xq5, xqR, xq1R, xq3R, xt1, xt2, xt3, List.mem_cons, List.not_mem_nil, or_false, false_or, or_self, if_false, if_true, reduceIte, reduceCtorEq, xent, xen, List.length_cons, List.length_nil, List.replicate, j_c, j_cJ, j_ild, j_ald, j_lld, j_ist, j_ast, j_lst, j_inc, j_add, j_sub, j_mul, j_neg, j_div, j_rem, j_and, j_shr, j_shl1, j_or, j_ladd, j_lsub, j_lmul, j_i2l, j_lcmp, j_i2c, j_dup, j_dup2, j_pop, j_goto, j_ieq, j_ine, j_ilt, j_ige, j_igt, j_ile, j_eq, j_ne, j_lt, j_ge, j_gt, j_le, xsw, j_tsw, j_lsw2, j_gI, j_gJ, j_gR, j_pI, j_pJ, j_gs, j_iald, j_iast, j_cald, j_cast, j_lald, j_last, j_aald, j_cpy, j_min, j_max, j_abs, j_iret, j_zret, j_lret, j_dret, j_ret0, j_V0, j_V1, j_V2, j_V3, j_V4, j_V5, j_S1, j_S2, j_S3, xget, xset, xset2, xclr, xc1, xcat, Nat.reduceAdd, Nat.reduceEqDiff, Nat.reduceLT, Nat.reduceLeDiff, Nat.reduceMul, List.cons_append, List.nil_append, true_and, and_true, List.singleton_append, fX8_callAll_0, fX8_callAll_1, fX8_callAll_2, fX8_callAll_3, fX8_callAll_4, fX8_callAll_7, fX8_callAll_9, fX8_callAll_10, fX8_callAll_13, fX8_callAll_14, fX8_callAll_15, fX8_callAll_18, fX8_callAll_21, fX8_callAll_22, fX8_callAll_23, fX8_callAll_24, fX8_callAll_27, fX8_callAll_28, fX8_callAll_31, fX8_callAll_33, fX8_callAll_34, fX8_callAll_37, fX8_callAll_38, fX8_callAll_39, fX8_callAll_41, fX8_callAll_42, fX8_callAll_43, fX8_callAll_46, fX8_callAll_49, fX8_callAll_50, fX8_callAll_53, fX8_callAll_55, fX8_callAll_56, fX8_callAll_59, fX8_callAll_60, fX8_callAll_61, fX8_callAll_63, fX8_callAll_66, fX8_callAll_69, fX8_callAll_70, fX8_callAll_71, fX8_callAll_73, fX8_callAll_74, fX8_callAll_75, fX8_callAll_76, fX8_callAll_79, fX8_callAll_82, fX8_callAll_83, fX8_callAll_84, fX8_callAll_86, fX8_callAll_87, fX8_callAll_88, fX8_callAll_89, fX8_callAll_92, fX8_callAll_93, fX8_callAll_94, fX8_callAll_95, fX8_callAll_98, fX8_callAll_99, fX8_callAll_102, fX8_callAll_103, fX8_callAll_104, fX8_callAll_105, fX8_callAll_106, fX8_callAll_107, fX8_callAll_108, fX8_callAll_111, fX8_callAll_114, fX8_callAll_115, fX8_callAll_118, fX8_callAll_120, fX8_callAll_121, fX8_callAll_122, fX8_callAll_123, fX8_callAll_124, fX8_callAll_125, fX8_callAll_128, fX8_callAll_129, fX8_callAll_130, fX8_callAll_133, fX8_callAll_136, sX8_works, sX8_ofUnit, sX8_owedTo, sX8_setUnit, sX8_addTo, xvz_20, xvz_21, xrz_21, xdz_21, xlen, xcat, xc1, Nat.zero_le, Nat.reduceLeDiff]
  exact hk)
/-- the film in the midst of serving a unit: w is still owed -/
def gst (T : XM) (f u s w q : Int) : XM := xup (xup T 14 f u s w) 14 f u 9 q
theorem tkL_congr : ∀ (L : List Int) (S T : Int → Int) (w : Int), (∀ x ∈ L, 0 ≤ x ∧ x < 192) → (∀ x : Int, 0 ≤ x → x < 192 → S x = T x) → (tkL L S w).2 = (tkL L T w).2 ∧ ∀ x : Int, 0 ≤ x → x < 192 → (tkL L S w).1 x = (tkL L T w).1 x
  | [], S, T, w, _, h => ⟨rfl, h⟩
  | y :: L, S, T, w, hL, h => by
    have hy := hL y List.mem_cons_self
    have e := h y hy.1 hy.2
    simp only [tkL, e]
    exact tkL_congr L _ _ _ (fun z hz => hL z (List.mem_cons_of_mem _ hz)) (fun x h0 h1 => by
      simp only [sup]
      split
      · rfl
      · exact h x h0 h1)
theorem GZs_tk {T M : XM} {f u s w q j meat b : Int} (h : GZs u (gst T f u s w q) f (M 21 0 0)) (hS : fS b T f) (hb : b ≤ 2000000) (hC : fC T f) (h0 : 0 ≤ j) (h1 : j < 7) (hw : 0 ≤ w) : sOK (zst M j) ∧ (zTk M j meat w).2 = (tmR T f j meat w).2 ∧ (∀ x : Int, 0 ≤ x → x < 192 → (zTk M j meat w).1 x = (tmR T f j meat w).1 x) := by
  have hm := h.2.2.2.2.2.2.2.2 j h0 h1
  have t11 : gst T f u s w q 11 = T 11 := by unfold gst; rw [xup_tag (by decide), xup_tag (by decide)]
  have t1 : gst T f u s w q 1 = T 1 := by unfold gst; rw [xup_tag (by decide), xup_tag (by decide)]
  have z10 := h.2.2.1.2.2.2.2
  unfold gM1 at hm
  rw [t11, t1] at hm
  rw [t1] at z10
  have c0 := hC.2.2.2.2.1
  have hs := (fS_at hS hb h0 h1).2
  have e : ∀ x : Int, 0 ≤ x → x < 192 → zst M j x = T 11 f j x := hm.1
  have hA := zAg_eq c0.1
  have ea : tmR T f j meat w = tkL (agL (dkL meat) (T 1 f 0 0) (zAg (T 1 f 0 0))) (T 11 f j) w := by
    have q := tkL_ages (f := dkL meat) (now := T 1 f 0 0) (S := T 11 f j) hw (64 - zAg (T 1 f 0 0)) (zAg (T 1 f 0 0)) (fun a g0 g1 x hx => by
      have g2 := hA.2 a g0 (by omega)
      unfold dkL at hx
      split at hx
      · simp only [List.mem_cons, List.not_mem_nil, or_false] at hx
        rcases hx with rfl | rfl
        · exact hm.2.1 0 a (by decide) (by decide) (by omega) (by omega) (Or.inr g2)
        · exact hm.2.1 2 a (by decide) (by decide) (by omega) (by omega) (Or.inr g2)
      · simp only [List.mem_cons, List.not_mem_nil, or_false] at hx
        rw [hx]
        exact hm.2.1 1 a (by decide) (by decide) (by omega) (by omega) (Or.inr g2))
    rw [show zAg (T 1 f 0 0) + (64 - zAg (T 1 f 0 0)) = 64 by omega] at q
    exact q
  refine ⟨fun x g0 g1 => by rw [e x g0 g1]; exact hs x g0 g1, ?_, fun x g0 g1 => ?_⟩
  · rw [ea]
    unfold zTk
    rw [z10]
    exact (tkL_congr _ _ _ w (fun x hx => dkL_in192 x hx) e).1
  · rw [ea]
    unfold zTk
    rw [z10]
    exact (tkL_congr _ _ _ w (fun x hx => dkL_in192 x hx) e).2 x g0 g1
/-- UnitKitchensModel.serve(III)V -/
abbrev wX8_serve : List Cond := Cond.code yX8_serve cX8_serve 10 none :: xT
abbrev rX8_serve : Room := { frames := 2, cells := 0, slots := 0, locals := 50 }
def pX8_serve (Post : XPo) : List (Nat × XStp) := [(0, j_ald 0 1), (1, j_ild 1 1), (2, j_c 1 1), (3, j_V2 20 sX8_ofUnit), (6, j_ist 4 2), (8, j_c 0 1), (9, j_ist 5 2), (11, j_ild 5 2), (13, j_c 7 2), (15, j_ige 193), (18, j_ild 5 2), (20, j_c 4 1), (21, j_ige 28), (24, j_c 1 1), (25, j_goto 29), (28, j_c 0 1), (29, j_ist 6 2), (31, j_ild 6 2), (33, j_eq 43), (36, j_c 3 1), (37, j_ild 5 2), (39, j_add), (40, j_goto 47), (43, j_ild 5 2), (45, j_c 4 1), (46, j_sub), (47, j_ist 7 2), (49, j_ild 6 2), (51, j_eq 82), (54, j_ald 0 1), (55, j_ild 5 2), (57, j_V1 20 sX8_isLorry), (60, j_eq 78), (63, j_ald 0 1), (64, j_ild 5 2), (66, j_ild 4 2), (68, j_V2 20 sX8_isAt), (71, j_eq 78), (74, j_c 1 1), (75, j_goto 111), (78, j_c 0 1), (79, j_goto 111), (82, j_ald 0 1), (83, j_ild 7 2), (85, j_V1 20 sX8_isKitchen), (88, j_eq 110), (91, j_ald 0 1), (92, j_gR 20 (fun i k => (21, 0, 0))), (95, j_c 33 2), (97, j_ild 7 2), (99, j_add), (100, j_iald), (101, j_ild 4 2), (103, j_ine 110), (106, j_c 1 1), (107, j_goto 111), (110, j_c 0 1), (111, j_ist 8 2), (113, j_ild 8 2), (115, j_eq 134), (118, j_ald 0 1), (119, j_ild 7 2), (121, j_ild 3 1), (122, j_ald 0 1), (123, j_ild 1 1), (124, j_ild 2 1), (125, j_V2 20 sX8_ofUnit), (128, j_V3 20 sX8_takes), (131, j_goto 135), (134, j_c 0 1), (135, j_ist 9 2), (137, j_ald 0 1), (138, j_ild 1 1), (139, j_ild 2 1), (140, j_ild 9 2), (142, j_neg), (143, j_V3 20 sX8_addTo), (146, j_ald 0 1), (147, j_ild 1 1), (148, j_c 9 2), (150, j_ild 9 2), (152, j_V3 20 sX8_addTo), (155, j_ald 0 1), (156, j_gR 20 (fun i k => (21, 0, 0))), (159, j_c 12 2), (161, j_dup2), (162, j_iald), (163, j_ild 9 2), (165, j_add), (166, j_iast), (167, j_ild 6 2), (169, j_eq 187), (172, j_ald 0 1), (173, j_gR 20 (fun i k => (21, 0, 0))), (176, j_c 65 2), (178, j_ild 5 2), (180, j_add), (181, j_dup2), (182, j_iald), (183, j_ild 9 2), (185, j_add), (186, j_iast), (187, j_inc 5 1), (190, j_goto 11), (193, j_ret0 Post)]
set_option maxRecDepth 100000 in
theorem aX8_serve (Post : XPo) : XAll rX8_serve cX8_serve 10 RX8 wX8_serve none Post (pX8_serve Post) := XAll.cons (xs_aload_n dX8_serve_0 rfl) (XAll.cons (xs_iload_n dX8_serve_1 rfl) (XAll.cons (xs_iconst dX8_serve_2) (XAll.cons (xs_V2 kX8_ofUnit ⟨⟨rfl, rfl, by decide, by decide⟩, ⟨by decide, by decide, by decide +kernel⟩, ⟨tw_1224, tw_1226, tp_26, tw_9, tw_1227⟩, 8, TX8, _, rfl, fun G ρ f i k => ⟨_, rfl⟩⟩ dX8_serve_3) (XAll.cons (xs_istore dX8_serve_6 (by decide)) (XAll.cons (xs_iconst dX8_serve_8) (XAll.cons (xs_istore dX8_serve_9 (by decide)) (XAll.cons (xs_iload dX8_serve_11) (XAll.cons (xs_bipush dX8_serve_13 rfl) (XAll.cons (xs_icmp_ge dX8_serve_15 (by decide)) (XAll.cons (xs_iload dX8_serve_18) (XAll.cons (xs_iconst dX8_serve_20) (XAll.cons (xs_icmp_ge dX8_serve_21 (by decide)) (XAll.cons (xs_iconst dX8_serve_24) (XAll.cons (xs_goto dX8_serve_25 (by decide)) (XAll.cons (xs_iconst dX8_serve_28) (XAll.cons (xs_istore dX8_serve_29 (by decide)) (XAll.cons (xs_iload dX8_serve_31) (XAll.cons (xs_if_eq dX8_serve_33 (by decide)) (XAll.cons (xs_iconst dX8_serve_36) (XAll.cons (xs_iload dX8_serve_37) (XAll.cons (xs_iadd dX8_serve_39) (XAll.cons (xs_goto dX8_serve_40 (by decide)) (XAll.cons (xs_iload dX8_serve_43) (XAll.cons (xs_iconst dX8_serve_45) (XAll.cons (xs_isub dX8_serve_46) (XAll.cons (xs_istore dX8_serve_47 (by decide)) (XAll.cons (xs_iload dX8_serve_49) (XAll.cons (xs_if_eq dX8_serve_51 (by decide)) (XAll.cons (xs_aload_n dX8_serve_54 rfl) (XAll.cons (xs_iload dX8_serve_55) (XAll.cons (xs_V1 kX8_isLorry ⟨⟨rfl, rfl, by decide, by decide⟩, ⟨by decide, by decide, by decide +kernel⟩, ⟨tw_1154, tw_1156, tp_14, tw_9, tw_1157⟩, 8, TX8, _, rfl, fun G ρ f i k => ⟨_, rfl⟩⟩ dX8_serve_57) (XAll.cons (xs_if_eq dX8_serve_60 (by decide)) (XAll.cons (xs_aload_n dX8_serve_63 rfl) (XAll.cons (xs_iload dX8_serve_64) (XAll.cons (xs_iload dX8_serve_66) (XAll.cons (xs_V2 kX8_isAt ⟨⟨rfl, rfl, by decide, by decide⟩, ⟨by decide, by decide, by decide +kernel⟩, ⟨tw_1158, tw_1160, tp_15, tw_9, tw_1161⟩, 8, TX8, _, rfl, fun G ρ f i k => ⟨_, rfl⟩⟩ dX8_serve_68) (XAll.cons (xs_if_eq dX8_serve_71 (by decide)) (XAll.cons (xs_iconst dX8_serve_74) (XAll.cons (xs_goto dX8_serve_75 (by decide)) (XAll.cons (xs_iconst dX8_serve_78) (XAll.cons (xs_goto dX8_serve_79 (by decide)) (XAll.cons (xs_aload_n dX8_serve_82 rfl) (XAll.cons (xs_iload dX8_serve_83) (XAll.cons (xs_V1 kX8_isKitchen ⟨⟨rfl, rfl, by decide, by decide⟩, ⟨by decide, by decide, by decide +kernel⟩, ⟨tw_1132, tw_1134, tp_12, tw_9, tw_1135⟩, 8, TX8, _, rfl, fun G ρ f i k => ⟨_, rfl⟩⟩ dX8_serve_85) (XAll.cons (xs_if_eq dX8_serve_88 (by decide)) (XAll.cons (xs_aload_n dX8_serve_91 rfl) (XAll.cons (fgX8_0 tw_1048 dX8_serve_92) (XAll.cons (xs_bipush dX8_serve_95 rfl) (XAll.cons (xs_iload dX8_serve_97) (XAll.cons (xs_iadd dX8_serve_99) (XAll.cons (xs_iald dX8_serve_100) (XAll.cons (xs_iload dX8_serve_101) (XAll.cons (xs_icmp_ne dX8_serve_103 (by decide)) (XAll.cons (xs_iconst dX8_serve_106) (XAll.cons (xs_goto dX8_serve_107 (by decide)) (XAll.cons (xs_iconst dX8_serve_110) (XAll.cons (xs_istore dX8_serve_111 (by decide)) (XAll.cons (xs_iload dX8_serve_113) (XAll.cons (xs_if_eq dX8_serve_115 (by decide)) (XAll.cons (xs_aload_n dX8_serve_118 rfl) (XAll.cons (xs_iload dX8_serve_119) (XAll.cons (xs_iload_n dX8_serve_121 rfl) (XAll.cons (xs_aload_n dX8_serve_122 rfl) (XAll.cons (xs_iload_n dX8_serve_123 rfl) (XAll.cons (xs_iload_n dX8_serve_124 rfl) (XAll.cons (xs_V2 kX8_ofUnit ⟨⟨rfl, rfl, by decide, by decide⟩, ⟨by decide, by decide, by decide +kernel⟩, ⟨tw_1224, tw_1226, tp_26, tw_9, tw_1227⟩, 8, TX8, _, rfl, fun G ρ f i k => ⟨_, rfl⟩⟩ dX8_serve_125) (XAll.cons (xs_V3 kX8_takes ⟨⟨rfl, rfl, by decide, by decide⟩, ⟨by decide, by decide, by decide +kernel⟩, ⟨tw_1297, tw_1299, tp_40, tw_9, tw_1300⟩, 8, TX8, _, rfl, fun G ρ f i k => ⟨_, rfl⟩⟩ dX8_serve_128) (XAll.cons (xs_goto dX8_serve_131 (by decide)) (XAll.cons (xs_iconst dX8_serve_134) (XAll.cons (xs_istore dX8_serve_135 (by decide)) (XAll.cons (xs_aload_n dX8_serve_137 rfl) (XAll.cons (xs_iload_n dX8_serve_138 rfl) (XAll.cons (xs_iload_n dX8_serve_139 rfl) (XAll.cons (xs_iload dX8_serve_140) (XAll.cons (xs_ineg dX8_serve_142) (XAll.cons (xs_V3 kX8_addTo ⟨⟨rfl, rfl, by decide, by decide⟩, ⟨by decide, by decide, by decide +kernel⟩, ⟨tw_1232, tw_1234, tp_28, tw_9, tw_1235⟩, 8, TX8, _, rfl, fun G ρ f i k => ⟨_, rfl⟩⟩ dX8_serve_143) (XAll.cons (xs_aload_n dX8_serve_146 rfl) (XAll.cons (xs_iload_n dX8_serve_147 rfl) (XAll.cons (xs_bipush dX8_serve_148 rfl) (XAll.cons (xs_iload dX8_serve_150) (XAll.cons (xs_V3 kX8_addTo ⟨⟨rfl, rfl, by decide, by decide⟩, ⟨by decide, by decide, by decide +kernel⟩, ⟨tw_1232, tw_1234, tp_28, tw_9, tw_1235⟩, 8, TX8, _, rfl, fun G ρ f i k => ⟨_, rfl⟩⟩ dX8_serve_152) (XAll.cons (xs_aload_n dX8_serve_155 rfl) (XAll.cons (fgX8_0 tw_1048 dX8_serve_156) (XAll.cons (xs_bipush dX8_serve_159 rfl) (XAll.cons (xs_dup2 dX8_serve_161) (XAll.cons (xs_iald dX8_serve_162) (XAll.cons (xs_iload dX8_serve_163) (XAll.cons (xs_iadd dX8_serve_165) (XAll.cons (xs_iast dX8_serve_166) (XAll.cons (xs_iload dX8_serve_167) (XAll.cons (xs_if_eq dX8_serve_169 (by decide)) (XAll.cons (xs_aload_n dX8_serve_172 rfl) (XAll.cons (fgX8_0 tw_1048 dX8_serve_173) (XAll.cons (xs_bipush dX8_serve_176 rfl) (XAll.cons (xs_iload dX8_serve_178) (XAll.cons (xs_iadd dX8_serve_180) (XAll.cons (xs_dup2 dX8_serve_181) (XAll.cons (xs_iald dX8_serve_182) (XAll.cons (xs_iload dX8_serve_183) (XAll.cons (xs_iadd dX8_serve_185) (XAll.cons (xs_iast dX8_serve_186) (XAll.cons (xs_iinc dX8_serve_187 (by decide)) (XAll.cons (xs_goto dX8_serve_190 (by decide)) (XAll.cons (xs_vret rfl dX8_serve_193) (XAll.nil)))))))))))))))))))))))))))))))))))))))))))))))))))))))))))))))))))))))))))))))))))))))))))))))))))))))))
theorem fX8_serve_0 (Post : XPo) (cut : List Nat) (WW : XK) (n : Nat) (L : XLs) (st : List XV) (M : XM) : yru (xlk (pX8_serve Post)) cut WW (n + 1) 0 L st M = j_ald 0 1 0 L st M (ykk (xlk (pX8_serve Post)) cut WW n) := yf rfl
theorem fX8_serve_1 (Post : XPo) (cut : List Nat) (WW : XK) (n : Nat) (L : XLs) (st : List XV) (M : XM) : yru (xlk (pX8_serve Post)) cut WW (n + 1) 1 L st M = j_ild 1 1 1 L st M (ykk (xlk (pX8_serve Post)) cut WW n) := yf rfl
theorem fX8_serve_2 (Post : XPo) (cut : List Nat) (WW : XK) (n : Nat) (L : XLs) (st : List XV) (M : XM) : yru (xlk (pX8_serve Post)) cut WW (n + 1) 2 L st M = j_c 1 1 2 L st M (ykk (xlk (pX8_serve Post)) cut WW n) := yf rfl
theorem fX8_serve_3 (Post : XPo) (cut : List Nat) (WW : XK) (n : Nat) (L : XLs) (st : List XV) (M : XM) : yru (xlk (pX8_serve Post)) cut WW (n + 1) 3 L st M = j_V2 20 sX8_ofUnit 3 L st M (ykk (xlk (pX8_serve Post)) cut WW n) := yf rfl
theorem fX8_serve_6 (Post : XPo) (cut : List Nat) (WW : XK) (n : Nat) (L : XLs) (st : List XV) (M : XM) : yru (xlk (pX8_serve Post)) cut WW (n + 1) 6 L st M = j_ist 4 2 6 L st M (ykk (xlk (pX8_serve Post)) cut WW n) := yf rfl
theorem fX8_serve_8 (Post : XPo) (cut : List Nat) (WW : XK) (n : Nat) (L : XLs) (st : List XV) (M : XM) : yru (xlk (pX8_serve Post)) cut WW (n + 1) 8 L st M = j_c 0 1 8 L st M (ykk (xlk (pX8_serve Post)) cut WW n) := yf rfl
theorem fX8_serve_9 (Post : XPo) (cut : List Nat) (WW : XK) (n : Nat) (L : XLs) (st : List XV) (M : XM) : yru (xlk (pX8_serve Post)) cut WW (n + 1) 9 L st M = j_ist 5 2 9 L st M (ykk (xlk (pX8_serve Post)) cut WW n) := yf rfl
theorem fX8_serve_11 (Post : XPo) (cut : List Nat) (WW : XK) (n : Nat) (L : XLs) (st : List XV) (M : XM) : yru (xlk (pX8_serve Post)) cut WW (n + 1) 11 L st M = j_ild 5 2 11 L st M (ykk (xlk (pX8_serve Post)) cut WW n) := yf rfl
theorem fX8_serve_13 (Post : XPo) (cut : List Nat) (WW : XK) (n : Nat) (L : XLs) (st : List XV) (M : XM) : yru (xlk (pX8_serve Post)) cut WW (n + 1) 13 L st M = j_c 7 2 13 L st M (ykk (xlk (pX8_serve Post)) cut WW n) := yf rfl
theorem fX8_serve_15 (Post : XPo) (cut : List Nat) (WW : XK) (n : Nat) (L : XLs) (st : List XV) (M : XM) : yru (xlk (pX8_serve Post)) cut WW (n + 1) 15 L st M = j_ige 193 15 L st M (ykk (xlk (pX8_serve Post)) cut WW n) := yf rfl
theorem fX8_serve_18 (Post : XPo) (cut : List Nat) (WW : XK) (n : Nat) (L : XLs) (st : List XV) (M : XM) : yru (xlk (pX8_serve Post)) cut WW (n + 1) 18 L st M = j_ild 5 2 18 L st M (ykk (xlk (pX8_serve Post)) cut WW n) := yf rfl
theorem fX8_serve_20 (Post : XPo) (cut : List Nat) (WW : XK) (n : Nat) (L : XLs) (st : List XV) (M : XM) : yru (xlk (pX8_serve Post)) cut WW (n + 1) 20 L st M = j_c 4 1 20 L st M (ykk (xlk (pX8_serve Post)) cut WW n) := yf rfl
theorem fX8_serve_21 (Post : XPo) (cut : List Nat) (WW : XK) (n : Nat) (L : XLs) (st : List XV) (M : XM) : yru (xlk (pX8_serve Post)) cut WW (n + 1) 21 L st M = j_ige 28 21 L st M (ykk (xlk (pX8_serve Post)) cut WW n) := yf rfl
theorem fX8_serve_24 (Post : XPo) (cut : List Nat) (WW : XK) (n : Nat) (L : XLs) (st : List XV) (M : XM) : yru (xlk (pX8_serve Post)) cut WW (n + 1) 24 L st M = j_c 1 1 24 L st M (ykk (xlk (pX8_serve Post)) cut WW n) := yf rfl
theorem fX8_serve_25 (Post : XPo) (cut : List Nat) (WW : XK) (n : Nat) (L : XLs) (st : List XV) (M : XM) : yru (xlk (pX8_serve Post)) cut WW (n + 1) 25 L st M = j_goto 29 25 L st M (ykk (xlk (pX8_serve Post)) cut WW n) := yf rfl
theorem fX8_serve_28 (Post : XPo) (cut : List Nat) (WW : XK) (n : Nat) (L : XLs) (st : List XV) (M : XM) : yru (xlk (pX8_serve Post)) cut WW (n + 1) 28 L st M = j_c 0 1 28 L st M (ykk (xlk (pX8_serve Post)) cut WW n) := yf rfl
theorem fX8_serve_29 (Post : XPo) (cut : List Nat) (WW : XK) (n : Nat) (L : XLs) (st : List XV) (M : XM) : yru (xlk (pX8_serve Post)) cut WW (n + 1) 29 L st M = j_ist 6 2 29 L st M (ykk (xlk (pX8_serve Post)) cut WW n) := yf rfl
theorem fX8_serve_31 (Post : XPo) (cut : List Nat) (WW : XK) (n : Nat) (L : XLs) (st : List XV) (M : XM) : yru (xlk (pX8_serve Post)) cut WW (n + 1) 31 L st M = j_ild 6 2 31 L st M (ykk (xlk (pX8_serve Post)) cut WW n) := yf rfl
theorem fX8_serve_33 (Post : XPo) (cut : List Nat) (WW : XK) (n : Nat) (L : XLs) (st : List XV) (M : XM) : yru (xlk (pX8_serve Post)) cut WW (n + 1) 33 L st M = j_eq 43 33 L st M (ykk (xlk (pX8_serve Post)) cut WW n) := yf rfl
theorem fX8_serve_36 (Post : XPo) (cut : List Nat) (WW : XK) (n : Nat) (L : XLs) (st : List XV) (M : XM) : yru (xlk (pX8_serve Post)) cut WW (n + 1) 36 L st M = j_c 3 1 36 L st M (ykk (xlk (pX8_serve Post)) cut WW n) := yf rfl
theorem fX8_serve_37 (Post : XPo) (cut : List Nat) (WW : XK) (n : Nat) (L : XLs) (st : List XV) (M : XM) : yru (xlk (pX8_serve Post)) cut WW (n + 1) 37 L st M = j_ild 5 2 37 L st M (ykk (xlk (pX8_serve Post)) cut WW n) := yf rfl
theorem fX8_serve_39 (Post : XPo) (cut : List Nat) (WW : XK) (n : Nat) (L : XLs) (st : List XV) (M : XM) : yru (xlk (pX8_serve Post)) cut WW (n + 1) 39 L st M = j_add 39 L st M (ykk (xlk (pX8_serve Post)) cut WW n) := yf rfl
theorem fX8_serve_40 (Post : XPo) (cut : List Nat) (WW : XK) (n : Nat) (L : XLs) (st : List XV) (M : XM) : yru (xlk (pX8_serve Post)) cut WW (n + 1) 40 L st M = j_goto 47 40 L st M (ykk (xlk (pX8_serve Post)) cut WW n) := yf rfl
theorem fX8_serve_43 (Post : XPo) (cut : List Nat) (WW : XK) (n : Nat) (L : XLs) (st : List XV) (M : XM) : yru (xlk (pX8_serve Post)) cut WW (n + 1) 43 L st M = j_ild 5 2 43 L st M (ykk (xlk (pX8_serve Post)) cut WW n) := yf rfl
theorem fX8_serve_45 (Post : XPo) (cut : List Nat) (WW : XK) (n : Nat) (L : XLs) (st : List XV) (M : XM) : yru (xlk (pX8_serve Post)) cut WW (n + 1) 45 L st M = j_c 4 1 45 L st M (ykk (xlk (pX8_serve Post)) cut WW n) := yf rfl
theorem fX8_serve_46 (Post : XPo) (cut : List Nat) (WW : XK) (n : Nat) (L : XLs) (st : List XV) (M : XM) : yru (xlk (pX8_serve Post)) cut WW (n + 1) 46 L st M = j_sub 46 L st M (ykk (xlk (pX8_serve Post)) cut WW n) := yf rfl
theorem fX8_serve_47 (Post : XPo) (cut : List Nat) (WW : XK) (n : Nat) (L : XLs) (st : List XV) (M : XM) : yru (xlk (pX8_serve Post)) cut WW (n + 1) 47 L st M = j_ist 7 2 47 L st M (ykk (xlk (pX8_serve Post)) cut WW n) := yf rfl
theorem fX8_serve_49 (Post : XPo) (cut : List Nat) (WW : XK) (n : Nat) (L : XLs) (st : List XV) (M : XM) : yru (xlk (pX8_serve Post)) cut WW (n + 1) 49 L st M = j_ild 6 2 49 L st M (ykk (xlk (pX8_serve Post)) cut WW n) := yf rfl
theorem fX8_serve_51 (Post : XPo) (cut : List Nat) (WW : XK) (n : Nat) (L : XLs) (st : List XV) (M : XM) : yru (xlk (pX8_serve Post)) cut WW (n + 1) 51 L st M = j_eq 82 51 L st M (ykk (xlk (pX8_serve Post)) cut WW n) := yf rfl
theorem fX8_serve_54 (Post : XPo) (cut : List Nat) (WW : XK) (n : Nat) (L : XLs) (st : List XV) (M : XM) : yru (xlk (pX8_serve Post)) cut WW (n + 1) 54 L st M = j_ald 0 1 54 L st M (ykk (xlk (pX8_serve Post)) cut WW n) := yf rfl
theorem fX8_serve_55 (Post : XPo) (cut : List Nat) (WW : XK) (n : Nat) (L : XLs) (st : List XV) (M : XM) : yru (xlk (pX8_serve Post)) cut WW (n + 1) 55 L st M = j_ild 5 2 55 L st M (ykk (xlk (pX8_serve Post)) cut WW n) := yf rfl
theorem fX8_serve_57 (Post : XPo) (cut : List Nat) (WW : XK) (n : Nat) (L : XLs) (st : List XV) (M : XM) : yru (xlk (pX8_serve Post)) cut WW (n + 1) 57 L st M = j_V1 20 sX8_isLorry 57 L st M (ykk (xlk (pX8_serve Post)) cut WW n) := yf rfl
theorem fX8_serve_60 (Post : XPo) (cut : List Nat) (WW : XK) (n : Nat) (L : XLs) (st : List XV) (M : XM) : yru (xlk (pX8_serve Post)) cut WW (n + 1) 60 L st M = j_eq 78 60 L st M (ykk (xlk (pX8_serve Post)) cut WW n) := yf rfl
theorem fX8_serve_63 (Post : XPo) (cut : List Nat) (WW : XK) (n : Nat) (L : XLs) (st : List XV) (M : XM) : yru (xlk (pX8_serve Post)) cut WW (n + 1) 63 L st M = j_ald 0 1 63 L st M (ykk (xlk (pX8_serve Post)) cut WW n) := yf rfl
theorem fX8_serve_64 (Post : XPo) (cut : List Nat) (WW : XK) (n : Nat) (L : XLs) (st : List XV) (M : XM) : yru (xlk (pX8_serve Post)) cut WW (n + 1) 64 L st M = j_ild 5 2 64 L st M (ykk (xlk (pX8_serve Post)) cut WW n) := yf rfl
theorem fX8_serve_66 (Post : XPo) (cut : List Nat) (WW : XK) (n : Nat) (L : XLs) (st : List XV) (M : XM) : yru (xlk (pX8_serve Post)) cut WW (n + 1) 66 L st M = j_ild 4 2 66 L st M (ykk (xlk (pX8_serve Post)) cut WW n) := yf rfl
theorem fX8_serve_68 (Post : XPo) (cut : List Nat) (WW : XK) (n : Nat) (L : XLs) (st : List XV) (M : XM) : yru (xlk (pX8_serve Post)) cut WW (n + 1) 68 L st M = j_V2 20 sX8_isAt 68 L st M (ykk (xlk (pX8_serve Post)) cut WW n) := yf rfl
theorem fX8_serve_71 (Post : XPo) (cut : List Nat) (WW : XK) (n : Nat) (L : XLs) (st : List XV) (M : XM) : yru (xlk (pX8_serve Post)) cut WW (n + 1) 71 L st M = j_eq 78 71 L st M (ykk (xlk (pX8_serve Post)) cut WW n) := yf rfl
theorem fX8_serve_74 (Post : XPo) (cut : List Nat) (WW : XK) (n : Nat) (L : XLs) (st : List XV) (M : XM) : yru (xlk (pX8_serve Post)) cut WW (n + 1) 74 L st M = j_c 1 1 74 L st M (ykk (xlk (pX8_serve Post)) cut WW n) := yf rfl
theorem fX8_serve_75 (Post : XPo) (cut : List Nat) (WW : XK) (n : Nat) (L : XLs) (st : List XV) (M : XM) : yru (xlk (pX8_serve Post)) cut WW (n + 1) 75 L st M = j_goto 111 75 L st M (ykk (xlk (pX8_serve Post)) cut WW n) := yf rfl
theorem fX8_serve_78 (Post : XPo) (cut : List Nat) (WW : XK) (n : Nat) (L : XLs) (st : List XV) (M : XM) : yru (xlk (pX8_serve Post)) cut WW (n + 1) 78 L st M = j_c 0 1 78 L st M (ykk (xlk (pX8_serve Post)) cut WW n) := yf rfl
theorem fX8_serve_79 (Post : XPo) (cut : List Nat) (WW : XK) (n : Nat) (L : XLs) (st : List XV) (M : XM) : yru (xlk (pX8_serve Post)) cut WW (n + 1) 79 L st M = j_goto 111 79 L st M (ykk (xlk (pX8_serve Post)) cut WW n) := yf rfl
theorem fX8_serve_82 (Post : XPo) (cut : List Nat) (WW : XK) (n : Nat) (L : XLs) (st : List XV) (M : XM) : yru (xlk (pX8_serve Post)) cut WW (n + 1) 82 L st M = j_ald 0 1 82 L st M (ykk (xlk (pX8_serve Post)) cut WW n) := yf rfl
theorem fX8_serve_83 (Post : XPo) (cut : List Nat) (WW : XK) (n : Nat) (L : XLs) (st : List XV) (M : XM) : yru (xlk (pX8_serve Post)) cut WW (n + 1) 83 L st M = j_ild 7 2 83 L st M (ykk (xlk (pX8_serve Post)) cut WW n) := yf rfl
theorem fX8_serve_85 (Post : XPo) (cut : List Nat) (WW : XK) (n : Nat) (L : XLs) (st : List XV) (M : XM) : yru (xlk (pX8_serve Post)) cut WW (n + 1) 85 L st M = j_V1 20 sX8_isKitchen 85 L st M (ykk (xlk (pX8_serve Post)) cut WW n) := yf rfl
theorem fX8_serve_88 (Post : XPo) (cut : List Nat) (WW : XK) (n : Nat) (L : XLs) (st : List XV) (M : XM) : yru (xlk (pX8_serve Post)) cut WW (n + 1) 88 L st M = j_eq 110 88 L st M (ykk (xlk (pX8_serve Post)) cut WW n) := yf rfl
theorem fX8_serve_91 (Post : XPo) (cut : List Nat) (WW : XK) (n : Nat) (L : XLs) (st : List XV) (M : XM) : yru (xlk (pX8_serve Post)) cut WW (n + 1) 91 L st M = j_ald 0 1 91 L st M (ykk (xlk (pX8_serve Post)) cut WW n) := yf rfl
theorem fX8_serve_92 (Post : XPo) (cut : List Nat) (WW : XK) (n : Nat) (L : XLs) (st : List XV) (M : XM) : yru (xlk (pX8_serve Post)) cut WW (n + 1) 92 L st M = j_gR 20 (fun i k => (21, 0, 0)) 92 L st M (ykk (xlk (pX8_serve Post)) cut WW n) := yf rfl
theorem fX8_serve_95 (Post : XPo) (cut : List Nat) (WW : XK) (n : Nat) (L : XLs) (st : List XV) (M : XM) : yru (xlk (pX8_serve Post)) cut WW (n + 1) 95 L st M = j_c 33 2 95 L st M (ykk (xlk (pX8_serve Post)) cut WW n) := yf rfl
theorem fX8_serve_97 (Post : XPo) (cut : List Nat) (WW : XK) (n : Nat) (L : XLs) (st : List XV) (M : XM) : yru (xlk (pX8_serve Post)) cut WW (n + 1) 97 L st M = j_ild 7 2 97 L st M (ykk (xlk (pX8_serve Post)) cut WW n) := yf rfl
theorem fX8_serve_99 (Post : XPo) (cut : List Nat) (WW : XK) (n : Nat) (L : XLs) (st : List XV) (M : XM) : yru (xlk (pX8_serve Post)) cut WW (n + 1) 99 L st M = j_add 99 L st M (ykk (xlk (pX8_serve Post)) cut WW n) := yf rfl
theorem fX8_serve_100 (Post : XPo) (cut : List Nat) (WW : XK) (n : Nat) (L : XLs) (st : List XV) (M : XM) : yru (xlk (pX8_serve Post)) cut WW (n + 1) 100 L st M = j_iald 100 L st M (ykk (xlk (pX8_serve Post)) cut WW n) := yf rfl
theorem fX8_serve_101 (Post : XPo) (cut : List Nat) (WW : XK) (n : Nat) (L : XLs) (st : List XV) (M : XM) : yru (xlk (pX8_serve Post)) cut WW (n + 1) 101 L st M = j_ild 4 2 101 L st M (ykk (xlk (pX8_serve Post)) cut WW n) := yf rfl
theorem fX8_serve_103 (Post : XPo) (cut : List Nat) (WW : XK) (n : Nat) (L : XLs) (st : List XV) (M : XM) : yru (xlk (pX8_serve Post)) cut WW (n + 1) 103 L st M = j_ine 110 103 L st M (ykk (xlk (pX8_serve Post)) cut WW n) := yf rfl
theorem fX8_serve_106 (Post : XPo) (cut : List Nat) (WW : XK) (n : Nat) (L : XLs) (st : List XV) (M : XM) : yru (xlk (pX8_serve Post)) cut WW (n + 1) 106 L st M = j_c 1 1 106 L st M (ykk (xlk (pX8_serve Post)) cut WW n) := yf rfl
theorem fX8_serve_107 (Post : XPo) (cut : List Nat) (WW : XK) (n : Nat) (L : XLs) (st : List XV) (M : XM) : yru (xlk (pX8_serve Post)) cut WW (n + 1) 107 L st M = j_goto 111 107 L st M (ykk (xlk (pX8_serve Post)) cut WW n) := yf rfl
theorem fX8_serve_110 (Post : XPo) (cut : List Nat) (WW : XK) (n : Nat) (L : XLs) (st : List XV) (M : XM) : yru (xlk (pX8_serve Post)) cut WW (n + 1) 110 L st M = j_c 0 1 110 L st M (ykk (xlk (pX8_serve Post)) cut WW n) := yf rfl
theorem fX8_serve_111 (Post : XPo) (cut : List Nat) (WW : XK) (n : Nat) (L : XLs) (st : List XV) (M : XM) : yru (xlk (pX8_serve Post)) cut WW (n + 1) 111 L st M = j_ist 8 2 111 L st M (ykk (xlk (pX8_serve Post)) cut WW n) := yf rfl
theorem fX8_serve_113 (Post : XPo) (cut : List Nat) (WW : XK) (n : Nat) (L : XLs) (st : List XV) (M : XM) : yru (xlk (pX8_serve Post)) cut WW (n + 1) 113 L st M = j_ild 8 2 113 L st M (ykk (xlk (pX8_serve Post)) cut WW n) := yf rfl
theorem fX8_serve_115 (Post : XPo) (cut : List Nat) (WW : XK) (n : Nat) (L : XLs) (st : List XV) (M : XM) : yru (xlk (pX8_serve Post)) cut WW (n + 1) 115 L st M = j_eq 134 115 L st M (ykk (xlk (pX8_serve Post)) cut WW n) := yf rfl
theorem fX8_serve_118 (Post : XPo) (cut : List Nat) (WW : XK) (n : Nat) (L : XLs) (st : List XV) (M : XM) : yru (xlk (pX8_serve Post)) cut WW (n + 1) 118 L st M = j_ald 0 1 118 L st M (ykk (xlk (pX8_serve Post)) cut WW n) := yf rfl
theorem fX8_serve_119 (Post : XPo) (cut : List Nat) (WW : XK) (n : Nat) (L : XLs) (st : List XV) (M : XM) : yru (xlk (pX8_serve Post)) cut WW (n + 1) 119 L st M = j_ild 7 2 119 L st M (ykk (xlk (pX8_serve Post)) cut WW n) := yf rfl
theorem fX8_serve_121 (Post : XPo) (cut : List Nat) (WW : XK) (n : Nat) (L : XLs) (st : List XV) (M : XM) : yru (xlk (pX8_serve Post)) cut WW (n + 1) 121 L st M = j_ild 3 1 121 L st M (ykk (xlk (pX8_serve Post)) cut WW n) := yf rfl
theorem fX8_serve_122 (Post : XPo) (cut : List Nat) (WW : XK) (n : Nat) (L : XLs) (st : List XV) (M : XM) : yru (xlk (pX8_serve Post)) cut WW (n + 1) 122 L st M = j_ald 0 1 122 L st M (ykk (xlk (pX8_serve Post)) cut WW n) := yf rfl
theorem fX8_serve_123 (Post : XPo) (cut : List Nat) (WW : XK) (n : Nat) (L : XLs) (st : List XV) (M : XM) : yru (xlk (pX8_serve Post)) cut WW (n + 1) 123 L st M = j_ild 1 1 123 L st M (ykk (xlk (pX8_serve Post)) cut WW n) := yf rfl
theorem fX8_serve_124 (Post : XPo) (cut : List Nat) (WW : XK) (n : Nat) (L : XLs) (st : List XV) (M : XM) : yru (xlk (pX8_serve Post)) cut WW (n + 1) 124 L st M = j_ild 2 1 124 L st M (ykk (xlk (pX8_serve Post)) cut WW n) := yf rfl
theorem fX8_serve_125 (Post : XPo) (cut : List Nat) (WW : XK) (n : Nat) (L : XLs) (st : List XV) (M : XM) : yru (xlk (pX8_serve Post)) cut WW (n + 1) 125 L st M = j_V2 20 sX8_ofUnit 125 L st M (ykk (xlk (pX8_serve Post)) cut WW n) := yf rfl
theorem fX8_serve_128 (Post : XPo) (cut : List Nat) (WW : XK) (n : Nat) (L : XLs) (st : List XV) (M : XM) : yru (xlk (pX8_serve Post)) cut WW (n + 1) 128 L st M = j_V3 20 sX8_takes 128 L st M (ykk (xlk (pX8_serve Post)) cut WW n) := yf rfl
theorem fX8_serve_131 (Post : XPo) (cut : List Nat) (WW : XK) (n : Nat) (L : XLs) (st : List XV) (M : XM) : yru (xlk (pX8_serve Post)) cut WW (n + 1) 131 L st M = j_goto 135 131 L st M (ykk (xlk (pX8_serve Post)) cut WW n) := yf rfl
theorem fX8_serve_134 (Post : XPo) (cut : List Nat) (WW : XK) (n : Nat) (L : XLs) (st : List XV) (M : XM) : yru (xlk (pX8_serve Post)) cut WW (n + 1) 134 L st M = j_c 0 1 134 L st M (ykk (xlk (pX8_serve Post)) cut WW n) := yf rfl
theorem fX8_serve_135 (Post : XPo) (cut : List Nat) (WW : XK) (n : Nat) (L : XLs) (st : List XV) (M : XM) : yru (xlk (pX8_serve Post)) cut WW (n + 1) 135 L st M = j_ist 9 2 135 L st M (ykk (xlk (pX8_serve Post)) cut WW n) := yf rfl
theorem fX8_serve_137 (Post : XPo) (cut : List Nat) (WW : XK) (n : Nat) (L : XLs) (st : List XV) (M : XM) : yru (xlk (pX8_serve Post)) cut WW (n + 1) 137 L st M = j_ald 0 1 137 L st M (ykk (xlk (pX8_serve Post)) cut WW n) := yf rfl
theorem fX8_serve_138 (Post : XPo) (cut : List Nat) (WW : XK) (n : Nat) (L : XLs) (st : List XV) (M : XM) : yru (xlk (pX8_serve Post)) cut WW (n + 1) 138 L st M = j_ild 1 1 138 L st M (ykk (xlk (pX8_serve Post)) cut WW n) := yf rfl
theorem fX8_serve_139 (Post : XPo) (cut : List Nat) (WW : XK) (n : Nat) (L : XLs) (st : List XV) (M : XM) : yru (xlk (pX8_serve Post)) cut WW (n + 1) 139 L st M = j_ild 2 1 139 L st M (ykk (xlk (pX8_serve Post)) cut WW n) := yf rfl
theorem fX8_serve_140 (Post : XPo) (cut : List Nat) (WW : XK) (n : Nat) (L : XLs) (st : List XV) (M : XM) : yru (xlk (pX8_serve Post)) cut WW (n + 1) 140 L st M = j_ild 9 2 140 L st M (ykk (xlk (pX8_serve Post)) cut WW n) := yf rfl
theorem fX8_serve_142 (Post : XPo) (cut : List Nat) (WW : XK) (n : Nat) (L : XLs) (st : List XV) (M : XM) : yru (xlk (pX8_serve Post)) cut WW (n + 1) 142 L st M = j_neg 142 L st M (ykk (xlk (pX8_serve Post)) cut WW n) := yf rfl
theorem fX8_serve_143 (Post : XPo) (cut : List Nat) (WW : XK) (n : Nat) (L : XLs) (st : List XV) (M : XM) : yru (xlk (pX8_serve Post)) cut WW (n + 1) 143 L st M = j_V3 20 sX8_addTo 143 L st M (ykk (xlk (pX8_serve Post)) cut WW n) := yf rfl
theorem fX8_serve_146 (Post : XPo) (cut : List Nat) (WW : XK) (n : Nat) (L : XLs) (st : List XV) (M : XM) : yru (xlk (pX8_serve Post)) cut WW (n + 1) 146 L st M = j_ald 0 1 146 L st M (ykk (xlk (pX8_serve Post)) cut WW n) := yf rfl
theorem fX8_serve_147 (Post : XPo) (cut : List Nat) (WW : XK) (n : Nat) (L : XLs) (st : List XV) (M : XM) : yru (xlk (pX8_serve Post)) cut WW (n + 1) 147 L st M = j_ild 1 1 147 L st M (ykk (xlk (pX8_serve Post)) cut WW n) := yf rfl
theorem fX8_serve_148 (Post : XPo) (cut : List Nat) (WW : XK) (n : Nat) (L : XLs) (st : List XV) (M : XM) : yru (xlk (pX8_serve Post)) cut WW (n + 1) 148 L st M = j_c 9 2 148 L st M (ykk (xlk (pX8_serve Post)) cut WW n) := yf rfl
theorem fX8_serve_150 (Post : XPo) (cut : List Nat) (WW : XK) (n : Nat) (L : XLs) (st : List XV) (M : XM) : yru (xlk (pX8_serve Post)) cut WW (n + 1) 150 L st M = j_ild 9 2 150 L st M (ykk (xlk (pX8_serve Post)) cut WW n) := yf rfl
theorem fX8_serve_152 (Post : XPo) (cut : List Nat) (WW : XK) (n : Nat) (L : XLs) (st : List XV) (M : XM) : yru (xlk (pX8_serve Post)) cut WW (n + 1) 152 L st M = j_V3 20 sX8_addTo 152 L st M (ykk (xlk (pX8_serve Post)) cut WW n) := yf rfl
theorem fX8_serve_155 (Post : XPo) (cut : List Nat) (WW : XK) (n : Nat) (L : XLs) (st : List XV) (M : XM) : yru (xlk (pX8_serve Post)) cut WW (n + 1) 155 L st M = j_ald 0 1 155 L st M (ykk (xlk (pX8_serve Post)) cut WW n) := yf rfl
theorem fX8_serve_156 (Post : XPo) (cut : List Nat) (WW : XK) (n : Nat) (L : XLs) (st : List XV) (M : XM) : yru (xlk (pX8_serve Post)) cut WW (n + 1) 156 L st M = j_gR 20 (fun i k => (21, 0, 0)) 156 L st M (ykk (xlk (pX8_serve Post)) cut WW n) := yf rfl
theorem fX8_serve_159 (Post : XPo) (cut : List Nat) (WW : XK) (n : Nat) (L : XLs) (st : List XV) (M : XM) : yru (xlk (pX8_serve Post)) cut WW (n + 1) 159 L st M = j_c 12 2 159 L st M (ykk (xlk (pX8_serve Post)) cut WW n) := yf rfl
theorem fX8_serve_161 (Post : XPo) (cut : List Nat) (WW : XK) (n : Nat) (L : XLs) (st : List XV) (M : XM) : yru (xlk (pX8_serve Post)) cut WW (n + 1) 161 L st M = j_dup2 161 L st M (ykk (xlk (pX8_serve Post)) cut WW n) := yf rfl
theorem fX8_serve_162 (Post : XPo) (cut : List Nat) (WW : XK) (n : Nat) (L : XLs) (st : List XV) (M : XM) : yru (xlk (pX8_serve Post)) cut WW (n + 1) 162 L st M = j_iald 162 L st M (ykk (xlk (pX8_serve Post)) cut WW n) := yf rfl
theorem fX8_serve_163 (Post : XPo) (cut : List Nat) (WW : XK) (n : Nat) (L : XLs) (st : List XV) (M : XM) : yru (xlk (pX8_serve Post)) cut WW (n + 1) 163 L st M = j_ild 9 2 163 L st M (ykk (xlk (pX8_serve Post)) cut WW n) := yf rfl
theorem fX8_serve_165 (Post : XPo) (cut : List Nat) (WW : XK) (n : Nat) (L : XLs) (st : List XV) (M : XM) : yru (xlk (pX8_serve Post)) cut WW (n + 1) 165 L st M = j_add 165 L st M (ykk (xlk (pX8_serve Post)) cut WW n) := yf rfl
theorem fX8_serve_166 (Post : XPo) (cut : List Nat) (WW : XK) (n : Nat) (L : XLs) (st : List XV) (M : XM) : yru (xlk (pX8_serve Post)) cut WW (n + 1) 166 L st M = j_iast 166 L st M (ykk (xlk (pX8_serve Post)) cut WW n) := yf rfl
theorem fX8_serve_167 (Post : XPo) (cut : List Nat) (WW : XK) (n : Nat) (L : XLs) (st : List XV) (M : XM) : yru (xlk (pX8_serve Post)) cut WW (n + 1) 167 L st M = j_ild 6 2 167 L st M (ykk (xlk (pX8_serve Post)) cut WW n) := yf rfl
theorem fX8_serve_169 (Post : XPo) (cut : List Nat) (WW : XK) (n : Nat) (L : XLs) (st : List XV) (M : XM) : yru (xlk (pX8_serve Post)) cut WW (n + 1) 169 L st M = j_eq 187 169 L st M (ykk (xlk (pX8_serve Post)) cut WW n) := yf rfl
theorem fX8_serve_172 (Post : XPo) (cut : List Nat) (WW : XK) (n : Nat) (L : XLs) (st : List XV) (M : XM) : yru (xlk (pX8_serve Post)) cut WW (n + 1) 172 L st M = j_ald 0 1 172 L st M (ykk (xlk (pX8_serve Post)) cut WW n) := yf rfl
theorem fX8_serve_173 (Post : XPo) (cut : List Nat) (WW : XK) (n : Nat) (L : XLs) (st : List XV) (M : XM) : yru (xlk (pX8_serve Post)) cut WW (n + 1) 173 L st M = j_gR 20 (fun i k => (21, 0, 0)) 173 L st M (ykk (xlk (pX8_serve Post)) cut WW n) := yf rfl
theorem fX8_serve_176 (Post : XPo) (cut : List Nat) (WW : XK) (n : Nat) (L : XLs) (st : List XV) (M : XM) : yru (xlk (pX8_serve Post)) cut WW (n + 1) 176 L st M = j_c 65 2 176 L st M (ykk (xlk (pX8_serve Post)) cut WW n) := yf rfl
theorem fX8_serve_178 (Post : XPo) (cut : List Nat) (WW : XK) (n : Nat) (L : XLs) (st : List XV) (M : XM) : yru (xlk (pX8_serve Post)) cut WW (n + 1) 178 L st M = j_ild 5 2 178 L st M (ykk (xlk (pX8_serve Post)) cut WW n) := yf rfl
theorem fX8_serve_180 (Post : XPo) (cut : List Nat) (WW : XK) (n : Nat) (L : XLs) (st : List XV) (M : XM) : yru (xlk (pX8_serve Post)) cut WW (n + 1) 180 L st M = j_add 180 L st M (ykk (xlk (pX8_serve Post)) cut WW n) := yf rfl
theorem fX8_serve_181 (Post : XPo) (cut : List Nat) (WW : XK) (n : Nat) (L : XLs) (st : List XV) (M : XM) : yru (xlk (pX8_serve Post)) cut WW (n + 1) 181 L st M = j_dup2 181 L st M (ykk (xlk (pX8_serve Post)) cut WW n) := yf rfl
theorem fX8_serve_182 (Post : XPo) (cut : List Nat) (WW : XK) (n : Nat) (L : XLs) (st : List XV) (M : XM) : yru (xlk (pX8_serve Post)) cut WW (n + 1) 182 L st M = j_iald 182 L st M (ykk (xlk (pX8_serve Post)) cut WW n) := yf rfl
theorem fX8_serve_183 (Post : XPo) (cut : List Nat) (WW : XK) (n : Nat) (L : XLs) (st : List XV) (M : XM) : yru (xlk (pX8_serve Post)) cut WW (n + 1) 183 L st M = j_ild 9 2 183 L st M (ykk (xlk (pX8_serve Post)) cut WW n) := yf rfl
theorem fX8_serve_185 (Post : XPo) (cut : List Nat) (WW : XK) (n : Nat) (L : XLs) (st : List XV) (M : XM) : yru (xlk (pX8_serve Post)) cut WW (n + 1) 185 L st M = j_add 185 L st M (ykk (xlk (pX8_serve Post)) cut WW n) := yf rfl
theorem fX8_serve_186 (Post : XPo) (cut : List Nat) (WW : XK) (n : Nat) (L : XLs) (st : List XV) (M : XM) : yru (xlk (pX8_serve Post)) cut WW (n + 1) 186 L st M = j_iast 186 L st M (ykk (xlk (pX8_serve Post)) cut WW n) := yf rfl
theorem fX8_serve_187 (Post : XPo) (cut : List Nat) (WW : XK) (n : Nat) (L : XLs) (st : List XV) (M : XM) : yru (xlk (pX8_serve Post)) cut WW (n + 1) 187 L st M = j_inc 5 1 187 L st M (ykk (xlk (pX8_serve Post)) cut WW n) := yf rfl
theorem fX8_serve_190 (Post : XPo) (cut : List Nat) (WW : XK) (n : Nat) (L : XLs) (st : List XV) (M : XM) : yru (xlk (pX8_serve Post)) cut WW (n + 1) 190 L st M = j_goto 11 190 L st M (ykk (xlk (pX8_serve Post)) cut WW n) := yf rfl
theorem fX8_serve_193 (Post : XPo) (cut : List Nat) (WW : XK) (n : Nat) (L : XLs) (st : List XV) (M : XM) : yru (xlk (pX8_serve Post)) cut WW (n + 1) 193 L st M = j_ret0 Post 193 L st M (ykk (xlk (pX8_serve Post)) cut WW n) := yf rfl
/-- a lorry gives meals -/
theorem GZs_L {T M : XM} {f u s w q l meat b c : Int} (h : GZs u (gst T f u s w q) f (M 21 0 0)) (hs : s = 6 ∨ s = 7) (hu0 : 0 ≤ u) (hu12 : u < 12) (hG : fI c b T f) (hc : c ≤ 80000000) (hb : b ≤ 2000000) (h0 : 0 ≤ l) (h1 : l < T 1 f 0 8) (hw : 0 ≤ w ∧ w ≤ 80000000) (hq : 0 ≤ q ∧ q + w ≤ 80000000) (hz12 : 0 ≤ M 21 0 0 12 ∧ M 21 0 0 12 + w ≤ 1000000000) :
    GZs u (gst (xup (mset T f (l + 3) (tmR T f (l + 3) meat w).1) 13 f l 4 (T 13 f l 4 + (w - (tmR T f (l + 3) meat w).2))) f u s (tmR T f (l + 3) meat w).2 (q + (w - (tmR T f (l + 3) meat w).2))) f (sup (sup (sup (sup (blk (M 21 0 0) (l + 3) (zTk M (l + 3) meat w).1) (73 + 12 * u + s) (M 21 0 0 (73 + 12 * u + s) + -(w - (zTk M (l + 3) meat w).2))) (73 + 12 * u + 9) (M 21 0 0 (73 + 12 * u + 9) + (w - (zTk M (l + 3) meat w).2))) 12 (M 21 0 0 12 + (w - (zTk M (l + 3) meat w).2))) (65 + l) (M 21 0 0 (65 + l) + (w - (zTk M (l + 3) meat w).2))) := by
  have ccc := hG.1.2.2.1
  have c8 := hG.1.2.2.1
  have hj : 0 ≤ (l + 3) ∧ (l + 3) < 7 := by omega
  obtain ⟨ok, e2, eS⟩ := GZs_tk (meat := meat) h hG.2.1 hb hG.1 hj.1 hj.2 hw.1
  have hle := tkL_le (agL (dkL meat) (T 1 f 0 0) 64) (T 11 f (l + 3)) w (fun x hx => dkL_in192 x hx) (fun x a b => ((fS_at hG.2.1 hb hj.1 hj.2).2 x a b).1) hw.1
  have hlf := tkL_left (agL (dkL meat) (T 1 f 0 0) 64) (T 11 f (l + 3)) w (fun x hx => dkL_in192 x hx) (fun x a b => ((fS_at hG.2.1 hb hj.1 hj.2).2 x a b).1) hw.1
  have hsk := fS_at hG.2.1 hb hj.1 hj.2
  change ∀ x : Int, 0 ≤ x → x < 192 → 0 ≤ (tmR T f (l + 3) meat w).1 x ∧ (tmR T f (l + 3) meat w).1 x ≤ T 11 f (l + 3) x at hle
  change 0 ≤ (tmR T f (l + 3) meat w).2 ∧ (tmR T f (l + 3) meat w).2 ≤ w at hlf
  rw [e2]
  obtain ⟨S', eS'⟩ : ∃ S' : Int → Int, S' = (tmR T f (l + 3) meat w).1 := ⟨_, rfl⟩
  obtain ⟨w', ew'⟩ : ∃ w' : Int, w' = (tmR T f (l + 3) meat w).2 := ⟨_, rfl⟩
  obtain ⟨Sz, eSz⟩ : ∃ S' : Int → Int, S' = (zTk M (l + 3) meat w).1 := ⟨_, rfl⟩
  rw [← eS'] at hle eS ⊢
  rw [← ew'] at hlf ⊢
  rw [← eSz] at eS ⊢
  obtain ⟨v1, v2, v3, v4, v5, v6⟩ := h.2.2.2.2.2.2.2.1.2
  have vs := v3 s (by omega) (by omega) (by omega)
  have v9 := v3 9 (by decide) (by decide) (by decide)
  have gs : gst T f u s w q 14 f u s = w := by unfold gst; rcases hs with rfl | rfl <;> simp only [xup_app, Int.reduceEq, and_false, if_false, and_self, if_true]
  have g9 : gst T f u s w q 14 f u 9 = q := by unfold gst; simp only [xup_app, and_self, if_true]
  rw [gs] at vs
  rw [g9] at v9
  refine GZs_take (F' := _) (s := s) (j := (l + 3)) (v := w - w') (Sz := Sz) h hs hu0 hu12 (fun t a b c d => ?_) (fun l' s' a b => ?_) (fun u' s' => ?_) (fun j' hj' => ?_) hj.1 hj.2 ?_ ?_ (fun x a b => ?_) (fun x a b => ?_) (fun x a b => ?_) (fun n a b c d => ?_) ?_ ?_ ?_ ?_ ?_ ?_ ?_
  · unfold gst
    rw [xup_tag d, xup_tag d, xup_tag c, mset_tag a b, xup_tag d, xup_tag d]
  · unfold gst
    simp only [xup_app, mset_app, Nat.reduceEqDiff, false_and, if_false, true_and]
    by_cases e : l' = l
    · subst e
      by_cases e4 : s' = 4
      · subst e4
        rw [if_pos ⟨rfl, rfl⟩, if_pos ⟨by omega, rfl⟩]
      · rw [if_neg (fun z => e4 z.2), if_neg (fun z => e4 z.2)]
    · rw [if_neg (fun z => e z.1), if_neg (fun z => by omega)]
  · rw [gs, g9]
    unfold gst
    simp only [xup_app, mset_app, Nat.reduceEqDiff, false_and, if_false, true_and]
    by_cases e : u' = u
    · subst e
      by_cases e9 : s' = 9
      · subst e9
        rw [if_pos ⟨rfl, rfl⟩, if_neg (fun z => by omega), if_pos ⟨rfl, rfl⟩]
      · by_cases es : s' = s
        · subst es
          rw [if_neg (fun z => e9 z.2), if_pos ⟨rfl, rfl⟩, if_pos ⟨rfl, rfl⟩]
          omega
        · rw [if_neg (fun z => e9 z.2), if_neg (fun z => es z.2), if_neg (fun z => es z.2), if_neg (fun z => e9 z.2), if_neg (fun z => e9 z.2), if_neg (fun z => es z.2)]
    · rw [if_neg (fun z => e z.1), if_neg (fun z => e z.1), if_neg (fun z => e z.1), if_neg (fun z => e z.1), if_neg (fun z => e z.1), if_neg (fun z => e z.1)]
  · unfold gst
    rw [xup_tag (by decide), xup_tag (by decide), xup_tag (by decide), mset_ne (fun z => hj' z.2), xup_tag (by decide), xup_tag (by decide)]
  · unfold gst
    rw [xup_tag (by decide), xup_tag (by decide)]
    exact c8.2
  · intro g
    unfold gst
    rw [xup_tag (by decide), xup_tag (by decide)]
    omega
  · unfold gst
    rw [xup_tag (by decide), xup_tag (by decide), xup_tag (by decide), mset_11]
    exact eS x a b
  · unfold gst
    rw [xup_tag (by decide), xup_tag (by decide), xup_tag (by decide), mset_11, xup_tag (by decide), xup_tag (by decide)]
    exact hle x a b
  · rw [eS x a b]
    have q1 := hle x a b
    have q2 := hsk.2 x a b
    exact ⟨by omega, by omega⟩
  · rw [sup_ne (by omega), sup_ne a, sup_ne c, sup_ne b]
  · rw [sup_ne (by omega), sup_eq]
  · rw [sup_ne (by omega), sup_ne (by omega), sup_ne (by omega), sup_eq]
    omega
  · rw [sup_ne (by omega), sup_ne (by omega), sup_eq]
  · intro g
    rw [show 62 + (l + 3) = 65 + l by omega, sup_eq]
  · exact ⟨by omega, by omega⟩
  · rw [vs]
    exact ⟨by omega, by omega⟩
  · rw [v9]
    exact ⟨by omega, by omega⟩
/-- a kitchen gives meals -/
theorem GZs_K {T M : XM} {f u s w q k meat b c : Int} (h : GZs u (gst T f u s w q) f (M 21 0 0)) (hs : s = 6 ∨ s = 7) (hu0 : 0 ≤ u) (hu12 : u < 12) (hG : fI c b T f) (hc : c ≤ 80000000) (hb : b ≤ 2000000) (h0 : 0 ≤ k) (h1 : k < T 1 f 0 6) (hw : 0 ≤ w ∧ w ≤ 80000000) (hq : 0 ≤ q ∧ q + w ≤ 80000000) (hz12 : 0 ≤ M 21 0 0 12 ∧ M 21 0 0 12 + w ≤ 1000000000) :
    GZs u (gst (mset T f k (tmR T f k meat w).1) f u s (tmR T f k meat w).2 (q + (w - (tmR T f k meat w).2))) f (sup (sup (sup (blk (M 21 0 0) k (zTk M k meat w).1) (73 + 12 * u + s) (M 21 0 0 (73 + 12 * u + s) + -(w - (zTk M k meat w).2))) (73 + 12 * u + 9) (M 21 0 0 (73 + 12 * u + 9) + (w - (zTk M k meat w).2))) 12 (M 21 0 0 12 + (w - (zTk M k meat w).2))) := by
  have ccc := hG.1.2.1
  have c8 := hG.1.2.2.1
  have hj : 0 ≤ k ∧ k < 7 := by omega
  obtain ⟨ok, e2, eS⟩ := GZs_tk (meat := meat) h hG.2.1 hb hG.1 hj.1 hj.2 hw.1
  have hle := tkL_le (agL (dkL meat) (T 1 f 0 0) 64) (T 11 f k) w (fun x hx => dkL_in192 x hx) (fun x a b => ((fS_at hG.2.1 hb hj.1 hj.2).2 x a b).1) hw.1
  have hlf := tkL_left (agL (dkL meat) (T 1 f 0 0) 64) (T 11 f k) w (fun x hx => dkL_in192 x hx) (fun x a b => ((fS_at hG.2.1 hb hj.1 hj.2).2 x a b).1) hw.1
  have hsk := fS_at hG.2.1 hb hj.1 hj.2
  change ∀ x : Int, 0 ≤ x → x < 192 → 0 ≤ (tmR T f k meat w).1 x ∧ (tmR T f k meat w).1 x ≤ T 11 f k x at hle
  change 0 ≤ (tmR T f k meat w).2 ∧ (tmR T f k meat w).2 ≤ w at hlf
  rw [e2]
  obtain ⟨S', eS'⟩ : ∃ S' : Int → Int, S' = (tmR T f k meat w).1 := ⟨_, rfl⟩
  obtain ⟨w', ew'⟩ : ∃ w' : Int, w' = (tmR T f k meat w).2 := ⟨_, rfl⟩
  obtain ⟨Sz, eSz⟩ : ∃ S' : Int → Int, S' = (zTk M k meat w).1 := ⟨_, rfl⟩
  rw [← eS'] at hle eS ⊢
  rw [← ew'] at hlf ⊢
  rw [← eSz] at eS ⊢
  obtain ⟨v1, v2, v3, v4, v5, v6⟩ := h.2.2.2.2.2.2.2.1.2
  have vs := v3 s (by omega) (by omega) (by omega)
  have v9 := v3 9 (by decide) (by decide) (by decide)
  have gs : gst T f u s w q 14 f u s = w := by unfold gst; rcases hs with rfl | rfl <;> simp only [xup_app, Int.reduceEq, and_false, if_false, and_self, if_true]
  have g9 : gst T f u s w q 14 f u 9 = q := by unfold gst; simp only [xup_app, and_self, if_true]
  rw [gs] at vs
  rw [g9] at v9
  refine GZs_take (F' := _) (s := s) (j := k) (v := w - w') (Sz := Sz) h hs hu0 hu12 (fun t a b c d => ?_) (fun l' s' a b => ?_) (fun u' s' => ?_) (fun j' hj' => ?_) hj.1 hj.2 ?_ ?_ (fun x a b => ?_) (fun x a b => ?_) (fun x a b => ?_) (fun n a b c d => ?_) ?_ ?_ ?_ ?_ ?_ ?_ ?_
  · unfold gst
    rw [xup_tag d, xup_tag d, mset_tag a b, xup_tag d, xup_tag d]
  · unfold gst
    simp only [xup_app, mset_app, Nat.reduceEqDiff, false_and, if_false, true_and]
    rw [if_neg (fun z => by omega)]
  · rw [gs, g9]
    unfold gst
    simp only [xup_app, mset_app, Nat.reduceEqDiff, false_and, if_false, true_and]
    by_cases e : u' = u
    · subst e
      by_cases e9 : s' = 9
      · subst e9
        rw [if_pos ⟨rfl, rfl⟩, if_neg (fun z => by omega), if_pos ⟨rfl, rfl⟩]
      · by_cases es : s' = s
        · subst es
          rw [if_neg (fun z => e9 z.2), if_pos ⟨rfl, rfl⟩, if_pos ⟨rfl, rfl⟩]
          omega
        · rw [if_neg (fun z => e9 z.2), if_neg (fun z => es z.2), if_neg (fun z => es z.2), if_neg (fun z => e9 z.2), if_neg (fun z => e9 z.2), if_neg (fun z => es z.2)]
    · rw [if_neg (fun z => e z.1), if_neg (fun z => e z.1), if_neg (fun z => e z.1), if_neg (fun z => e z.1), if_neg (fun z => e z.1), if_neg (fun z => e z.1)]
  · unfold gst
    rw [xup_tag (by decide), xup_tag (by decide), mset_ne (fun z => hj' z.2), xup_tag (by decide), xup_tag (by decide)]
  · unfold gst
    rw [xup_tag (by decide), xup_tag (by decide)]
    exact c8.2
  · intro g
    unfold gst
    rw [xup_tag (by decide), xup_tag (by decide)]
    omega
  · unfold gst
    rw [xup_tag (by decide), xup_tag (by decide), mset_11]
    exact eS x a b
  · unfold gst
    rw [xup_tag (by decide), xup_tag (by decide), mset_11, xup_tag (by decide), xup_tag (by decide)]
    exact hle x a b
  · rw [eS x a b]
    have q1 := hle x a b
    have q2 := hsk.2 x a b
    exact ⟨by omega, by omega⟩
  · rw [sup_ne a, sup_ne c, sup_ne b]
  · rw [sup_eq]
  · rw [sup_ne (by omega), sup_ne (by omega), sup_eq]
    omega
  · rw [sup_ne (by omega), sup_eq]
  · intro g
    omega
  · exact ⟨by omega, by omega⟩
  · rw [vs]
    exact ⟨by omega, by omega⟩
  · rw [v9]
    exact ⟨by omega, by omega⟩
end XRb

