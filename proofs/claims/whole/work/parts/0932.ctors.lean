section XKd
/-- UnitKitchens$Meals -/
def bk3 (G : Nat → ClassId) (q : Nat) (x : Nat × Nat) : va_W := [(q, .inr (3, [.ref x.1, .ref x.2])), (x.1, .inl (G 0, 192, .inl (fun _ => 0))), (x.2, .inl (G 0, 3, .inl (fun _ => 0)))]
abbrev rX3_init : Room := { frames := 1, cells := 2, slots := 195, locals := 20 }
set_option maxRecDepth 100000 in
theorem kX3_init : XKc yX3_init (Cond.code yX3_init cX3_init 1 none :: xT) rX3_init 3 [.null, .null] S1 bk3 := XKc.of (by decide) rfl (by decide) (fun p l e s m args below meth c D G base q W hX hS hR => by
  refine y_ald 0 rfl hX dX3_init_0 ?_
  refine y_obj hX (xgood1 tw_58) (xgood1 tw_25) (xgood1 tw_26) (by decide) (by decide) dX3_init_1 ?_
  refine y_ald 0 rfl hX dX3_init_4 ?_
  refine y_si hX dX3_init_5 rfl ?_
  refine y_newa (atype := .int) (N' := 192) (a0 := (192, .inl (fun _ => 0))) (ty := .int) (t0 := 0) rfl rfl hX tw_69 (fun _ => rfl) (by decide) (by decide) (by decide) (by decide) (by decide) dX3_init_8 (fun a1 => ?_)
  refine y_perm (List.Perm.swap _ _ _) ?_
  refine y_putR yc3 0 (by decide) rfl rfl rfl rfl (Nat.le_of_ble_eq_true rfl) hX tw_59 dX3_init_10 ?_
  refine y_ald 0 rfl hX dX3_init_13 ?_
  refine y_ic hX dX3_init_14 ?_
  refine y_newa (atype := .int) (N' := 3) (a0 := (3, .inl (fun _ => 0))) (ty := .int) (t0 := 0) rfl rfl hX tw_69 (fun _ => rfl) (by decide) (by decide) (by decide) (by decide) (by decide) dX3_init_15 (fun a2 => ?_)
  refine y_perm (List.Perm.swap _ _ _) ?_
  refine y_putR yc3 1 (by decide) rfl rfl rfl rfl (Nat.le_of_ble_eq_true rfl) hX tw_60 dX3_init_17 ?_
  refine y_perm (List.Perm.cons _ (List.Perm.swap _ _ _)) ?_
  exact hR _ _ (a1, a2) dX3_init_20)
/-- UnitKitchens$Kitchen -/
def bk1 (G : Nat → ClassId) (q : Nat) (x : Nat × Nat × (Nat × Nat)) : va_W := (q, .inr (1, [.int 0, .ref x.1, .int (Int32.ofInt (-1)), .int 0, .ref x.2.1, .int 0, .int 0])) :: (x.1, .inl (G 0, 3, .inl (fun _ => 0))) :: bk3 G x.2.1 x.2.2
abbrev rX1_init : Room := { frames := 3, cells := 4, slots := 200, locals := 60 }
set_option maxRecDepth 100000 in
theorem kX1_init : XKc yX1_init (Cond.code yX1_init cX1_init 1 none :: xT) rX1_init 1 [.int 0, .null, .int 0, .int 0, .null, .int 0, .int 0] S1 bk1 := XKc.of (by decide) rfl (by decide) (fun p l e s m args below meth c D G base q W hX hS hR => by
  refine y_ald 0 rfl hX dX1_init_0 ?_
  refine y_obj hX (xgood1 tw_52) (xgood1 tw_25) (xgood1 tw_26) (by decide) (by decide) dX1_init_1 ?_
  refine y_ald 0 rfl hX dX1_init_4 ?_
  refine y_ic hX dX1_init_5 ?_
  refine y_newa (atype := .int) (N' := 3) (a0 := (3, .inl (fun _ => 0))) (ty := .int) (t0 := 0) rfl rfl hX tw_69 (fun _ => rfl) (by decide) (by decide) (by decide) (by decide) (by decide) dX1_init_6 (fun a1 => ?_)
  refine y_perm (List.Perm.swap _ _ _) ?_
  refine y_putR yc1 1 (by decide) rfl rfl rfl rfl (Nat.le_of_ble_eq_true rfl) hX tw_73 dX1_init_8 ?_
  refine y_ald 0 rfl hX dX1_init_11 ?_
  refine y_ic hX dX1_init_12 ?_
  refine y_putI yc1 2 (by decide) rfl rfl (Nat.le_of_ble_eq_true rfl) hX tw_75 dX1_init_13 ?_
  refine y_ald 0 rfl hX dX1_init_16 ?_
  refine y_new (fs := [.null, .null]) yc3 hX tw_53 tw_54 tw_4 (fun j hj => by rcases (show j = 0 ∨ j = 1 by omega) with rfl | rfl <;> rfl) (by decide) (by decide) dX1_init_17 (fun a2 => ?_)
  refine y_dup hX dX1_init_20 ?_
  refine y_callN kX3_init YS1 hS hX ⟨hS.1 _ (List.Mem.tail _ (List.Mem.head _)), tw_56, tw_4, tw_57⟩ rfl ⟨by decide, by decide, by decide +kernel⟩ ⟨by decide, by decide⟩ (by decide) (by decide) (Nat.le_of_ble_eq_true rfl) dX1_init_21 (fun x => ?_)
  refine y_perm List.perm_middle ?_
  refine y_putR yc1 4 (by decide) rfl rfl rfl rfl (Nat.le_of_ble_eq_true rfl) hX tw_78 dX1_init_24 ?_
  refine y_perm (List.Perm.cons _ List.perm_middle) ?_
  exact hR _ _ (a1, a2, x) dX1_init_27)
/-- UnitKitchens$Lorry -/
def bk2 (G : Nat → ClassId) (q : Nat) (x : Nat × (Nat × Nat)) : va_W := (q, .inr (2, [.int (Int32.ofInt (-1)), .int (Int32.ofInt (-1)), .int 0, .ref x.1, .int 0, .int 0])) :: bk3 G x.1 x.2
abbrev rX2_init : Room := { frames := 3, cells := 3, slots := 197, locals := 60 }
set_option maxRecDepth 100000 in
theorem kX2_init : XKc yX2_init (Cond.code yX2_init cX2_init 1 none :: xT) rX2_init 2 [.int 0, .int 0, .int 0, .null, .int 0, .int 0] S1 bk2 := XKc.of (by decide) rfl (by decide) (fun p l e s m args below meth c D G base q W hX hS hR => by
  refine y_ald 0 rfl hX dX2_init_0 ?_
  refine y_obj hX (xgood1 tw_104) (xgood1 tw_25) (xgood1 tw_26) (by decide) (by decide) dX2_init_1 ?_
  refine y_ald 0 rfl hX dX2_init_4 ?_
  refine y_ic hX dX2_init_5 ?_
  refine y_putI yc2 0 (by decide) rfl rfl (Nat.le_of_ble_eq_true rfl) hX tw_107 dX2_init_6 ?_
  refine y_ald 0 rfl hX dX2_init_9 ?_
  refine y_ic hX dX2_init_10 ?_
  refine y_putI yc2 1 (by decide) rfl rfl (Nat.le_of_ble_eq_true rfl) hX tw_110 dX2_init_11 ?_
  refine y_ald 0 rfl hX dX2_init_14 ?_
  refine y_new (fs := [.null, .null]) yc3 hX tw_105 tw_54 tw_4 (fun j hj => by rcases (show j = 0 ∨ j = 1 by omega) with rfl | rfl <;> rfl) (by decide) (by decide) dX2_init_15 (fun a2 => ?_)
  refine y_dup hX dX2_init_18 ?_
  refine y_callN kX3_init YS1 hS hX ⟨hS.1 _ (List.Mem.tail _ (List.Mem.tail _ (List.Mem.tail _ (List.Mem.head _)))), tw_56, tw_4, tw_57⟩ rfl ⟨by decide, by decide, by decide +kernel⟩ ⟨by decide, by decide⟩ (by decide) (by decide) (Nat.le_of_ble_eq_true rfl) dX2_init_19 (fun x => ?_)
  refine y_perm List.perm_middle ?_
  refine y_putR yc2 3 (by decide) rfl rfl rfl rfl (Nat.le_of_ble_eq_true rfl) hX tw_116 dX2_init_22 ?_
  exact hR _ _ (a2, x) dX2_init_25)
/-- UnitKitchens$Unit -/
def bk6 (G : Nat → ClassId) (q : Nat) (x : Unit) : va_W := [(q, .inr (6, [.int (Int32.ofInt 0), .int 0, .int 0, .int 0, .int 0, .int 0, .int 0, .int 0, .int (Int32.ofInt (-1)), .int 0, .int 0, .int 0]))]
abbrev rX6_init : Room := { frames := 1, cells := 0, slots := 0, locals := 20 }
set_option maxRecDepth 100000 in
theorem kX6_init : XKc yX6_init (Cond.code yX6_init cX6_init 1 none :: xT) rX6_init 6 [.int 0, .int 0, .int 0, .int 0, .int 0, .int 0, .int 0, .int 0, .int 0, .int 0, .int 0, .int 0] S1 bk6 := XKc.of (by decide) rfl (by decide) (fun p l e s m args below meth c D G base q W hX hS hR => by
  refine y_ald 0 rfl hX dX6_init_0 ?_
  refine y_obj hX (xgood1 tw_140) (xgood1 tw_25) (xgood1 tw_26) (by decide) (by decide) dX6_init_1 ?_
  refine y_ald 0 rfl hX dX6_init_4 ?_
  refine y_ic hX dX6_init_5 ?_
  refine y_putI yc6 0 (by decide) rfl rfl (Nat.le_of_ble_eq_true rfl) hX tw_141 dX6_init_6 ?_
  refine y_ald 0 rfl hX dX6_init_9 ?_
  refine y_ic hX dX6_init_10 ?_
  refine y_putI yc6 8 (by decide) rfl rfl (Nat.le_of_ble_eq_true rfl) hX tw_165 dX6_init_11 ?_
  exact hR _ _ () dX6_init_14)
/-- UnitKitchens$SheetReader -/
def bk5 (G : Nat → ClassId) (q : Nat) (x : Nat) : va_W := [(q, .inr (5, [.int 0, .int 0, .ref x])), (x, .inl (G 0, 4, .inl (fun _ => 0)))]
abbrev rX5_init : Room := { frames := 1, cells := 1, slots := 4, locals := 20 }
set_option maxRecDepth 100000 in
theorem kX5_init : XKc yX5_init (Cond.code yX5_init cX5_init 1 none :: xT) rX5_init 5 [.int 0, .int 0, .null] S1 bk5 := XKc.of (by decide) rfl (by decide) (fun p l e s m args below meth c D G base q W hX hS hR => by
  refine y_ald 0 rfl hX dX5_init_0 ?_
  refine y_obj hX (xgood1 tw_273) (xgood1 tw_25) (xgood1 tw_26) (by decide) (by decide) dX5_init_1 ?_
  refine y_ald 0 rfl hX dX5_init_4 ?_
  refine y_ic hX dX5_init_5 ?_
  refine y_newa (atype := .int) (N' := 4) (a0 := (4, .inl (fun _ => 0))) (ty := .int) (t0 := 0) rfl rfl hX tw_69 (fun _ => rfl) (by decide) (by decide) (by decide) (by decide) (by decide) dX5_init_6 (fun a1 => ?_)
  refine y_perm (List.Perm.swap _ _ _) ?_
  refine y_putR yc5 2 (by decide) rfl rfl rfl rfl (Nat.le_of_ble_eq_true rfl) hX tw_277 dX5_init_8 ?_
  exact hR _ _ a1 dX5_init_11)
/-- UnitKitchensModel -/
def bk8 (G : Nat → ClassId) (q : Nat) (x : Nat × Nat × Nat × Nat × Nat) : va_W := [(q, .inr (8, [.ref x.1, .int 0, .ref x.2.1, .int 0, .ref x.2.2.1, .int 0, .int 0, .int 0, .ref x.2.2.2.1, .int 0, .int 0, .int 0, .ref x.2.2.2.2, .long 0])), (x.1, .inl (G 0, 1561, .inl (upd (upd (upd (upd (upd (upd (fun _ => 0) (Int32.ofInt 0).toNatClampNeg (Int32.ofInt 10)) (Int32.ofInt 1).toNatClampNeg (Int32.ofInt 15)) (Int32.ofInt 2).toNatClampNeg (Int32.ofInt 1)) (Int32.ofInt 3).toNatClampNeg (Int32.ofInt 40)) (Int32.ofInt 4).toNatClampNeg (Int32.ofInt 5)) (Int32.ofInt 5).toNatClampNeg (Int32.ofInt 120)))), (x.2.1, .inl (G 0, 9366, .inl (fun _ => 0))), (x.2.2.1, .inl (G 0, 60, .inl (fun _ => 0))), (x.2.2.2.1, .inl (G 0, 45, .inl (fun _ => 0))), (x.2.2.2.2, .inl (G 0, 1561, .inl (fun _ => 0)))]
abbrev rX8_init : Room := { frames := 1, cells := 5, slots := 12593, locals := 20 }
set_option maxRecDepth 100000 in
theorem kX8_init : XKc yX8_init (Cond.code yX8_init cX8_init 1 none :: xT) rX8_init 8 [.null, .int 0, .null, .int 0, .null, .int 0, .int 0, .int 0, .null, .int 0, .int 0, .int 0, .null, .long 0] S1 bk8 := XKc.of (by decide) rfl (by decide) (fun p l e s m args below meth c D G base q W hX hS hR => by
  refine y_ald 0 rfl hX dX8_init_0 ?_
  refine y_obj hX (xgood1 tw_1047) (xgood1 tw_25) (xgood1 tw_26) (by decide) (by decide) dX8_init_1 ?_
  refine y_ald 0 rfl hX dX8_init_4 ?_
  refine y_si hX dX8_init_5 rfl ?_
  refine y_newa (atype := .int) (N' := 1561) (a0 := (1561, .inl (fun _ => 0))) (ty := .int) (t0 := 0) rfl rfl hX tw_69 (fun _ => rfl) (by decide) (by decide) (by decide) (by decide) (by decide) dX8_init_8 (fun a0 => ?_)
  refine y_perm (List.Perm.swap _ _ _) ?_
  refine y_putR yc8 0 (by decide) rfl rfl rfl rfl (Nat.le_of_ble_eq_true rfl) hX tw_1048 dX8_init_10 ?_
  refine y_ald 0 rfl hX dX8_init_13 ?_
  refine y_si hX dX8_init_14 rfl ?_
  refine y_newa (atype := .int) (N' := 9366) (a0 := (9366, .inl (fun _ => 0))) (ty := .int) (t0 := 0) rfl rfl hX tw_69 (fun _ => rfl) (by decide) (by decide) (by decide) (by decide) (by decide) dX8_init_17 (fun a1 => ?_)
  refine y_perm (List.Perm.swap _ _ _) ?_
  refine y_putR yc8 2 (by decide) rfl rfl rfl rfl (Nat.le_of_ble_eq_true rfl) hX tw_1050 dX8_init_19 ?_
  refine y_ald 0 rfl hX dX8_init_22 ?_
  refine y_bi hX dX8_init_23 rfl ?_
  refine y_newa (atype := .int) (N' := 60) (a0 := (60, .inl (fun _ => 0))) (ty := .int) (t0 := 0) rfl rfl hX tw_69 (fun _ => rfl) (by decide) (by decide) (by decide) (by decide) (by decide) dX8_init_25 (fun a2 => ?_)
  refine y_perm (List.Perm.swap _ _ _) ?_
  refine y_putR yc8 4 (by decide) rfl rfl rfl rfl (Nat.le_of_ble_eq_true rfl) hX tw_1052 dX8_init_27 ?_
  refine y_ald 0 rfl hX dX8_init_30 ?_
  refine y_bi hX dX8_init_31 rfl ?_
  refine y_newa (atype := .int) (N' := 45) (a0 := (45, .inl (fun _ => 0))) (ty := .int) (t0 := 0) rfl rfl hX tw_69 (fun _ => rfl) (by decide) (by decide) (by decide) (by decide) (by decide) dX8_init_33 (fun a3 => ?_)
  refine y_perm (List.Perm.swap _ _ _) ?_
  refine y_putR yc8 8 (by decide) rfl rfl rfl rfl (Nat.le_of_ble_eq_true rfl) hX tw_1056 dX8_init_35 ?_
  refine y_ald 0 rfl hX dX8_init_38 ?_
  refine y_si hX dX8_init_39 rfl ?_
  refine y_newa (atype := .int) (N' := 1561) (a0 := (1561, .inl (fun _ => 0))) (ty := .int) (t0 := 0) rfl rfl hX tw_69 (fun _ => rfl) (by decide) (by decide) (by decide) (by decide) (by decide) dX8_init_42 (fun a4 => ?_)
  refine y_perm (List.Perm.swap _ _ _) ?_
  refine y_putR yc8 12 (by decide) rfl rfl rfl rfl (Nat.le_of_ble_eq_true rfl) hX tw_1060 dX8_init_44 ?_
  refine y_perm (List.Perm.cons _ (List.Perm.append_right W (l₁ := [_, _, _, _, _]) (l₂ := [_, _, _, _, _]) (List.reverse_perm _).symm)) ?_
  refine y_ald 0 rfl hX dX8_init_47 ?_
  refine y_get yc8 0 (by decide) rfl hX tw_1048 dX8_init_48 ?_
  refine y_ic hX dX8_init_51 ?_
  refine y_bi hX dX8_init_52 rfl ?_
  refine y_perm (List.Perm.swap _ _ _) ?_
  refine y_iast hX (x_in (by decide) (by decide) (by decide)) dX8_init_54 ?_
  refine y_perm (List.Perm.swap _ _ _) ?_
  refine y_ald 0 rfl hX dX8_init_55 ?_
  refine y_get yc8 0 (by decide) rfl hX tw_1048 dX8_init_56 ?_
  refine y_ic hX dX8_init_59 ?_
  refine y_bi hX dX8_init_60 rfl ?_
  refine y_perm (List.Perm.swap _ _ _) ?_
  refine y_iast hX (x_in (by decide) (by decide) (by decide)) dX8_init_62 ?_
  refine y_perm (List.Perm.swap _ _ _) ?_
  refine y_ald 0 rfl hX dX8_init_63 ?_
  refine y_get yc8 0 (by decide) rfl hX tw_1048 dX8_init_64 ?_
  refine y_ic hX dX8_init_67 ?_
  refine y_ic hX dX8_init_68 ?_
  refine y_perm (List.Perm.swap _ _ _) ?_
  refine y_iast hX (x_in (by decide) (by decide) (by decide)) dX8_init_69 ?_
  refine y_perm (List.Perm.swap _ _ _) ?_
  refine y_ald 0 rfl hX dX8_init_70 ?_
  refine y_get yc8 0 (by decide) rfl hX tw_1048 dX8_init_71 ?_
  refine y_ic hX dX8_init_74 ?_
  refine y_bi hX dX8_init_75 rfl ?_
  refine y_perm (List.Perm.swap _ _ _) ?_
  refine y_iast hX (x_in (by decide) (by decide) (by decide)) dX8_init_77 ?_
  refine y_perm (List.Perm.swap _ _ _) ?_
  refine y_ald 0 rfl hX dX8_init_78 ?_
  refine y_get yc8 0 (by decide) rfl hX tw_1048 dX8_init_79 ?_
  refine y_ic hX dX8_init_82 ?_
  refine y_ic hX dX8_init_83 ?_
  refine y_perm (List.Perm.swap _ _ _) ?_
  refine y_iast hX (x_in (by decide) (by decide) (by decide)) dX8_init_84 ?_
  refine y_perm (List.Perm.swap _ _ _) ?_
  refine y_ald 0 rfl hX dX8_init_85 ?_
  refine y_get yc8 0 (by decide) rfl hX tw_1048 dX8_init_86 ?_
  refine y_ic hX dX8_init_89 ?_
  refine y_bi hX dX8_init_90 rfl ?_
  refine y_perm (List.Perm.swap _ _ _) ?_
  refine y_iast hX (x_in (by decide) (by decide) (by decide)) dX8_init_92 ?_
  refine y_perm (List.Perm.swap _ _ _) ?_
  exact hR _ _ (a0, a1, a2, a3, a4) dX8_init_93)
end XKd

