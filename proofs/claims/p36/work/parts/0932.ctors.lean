section XKd
/-- UnitKitchens$Meals -/
def bk3 (G : Nat → ClassId) (q : Nat) (x : Nat × Nat) : va_W := [(q, .inr (3, [.ref x.1, .ref x.2])), (x.1, .inl (G 0, 192, .inl (fun _ => 0))), (x.2, .inl (G 0, 3, .inl (fun _ => 0)))]
abbrev rX3_init : Room := { frames := 1, cells := 2, slots := 195, locals := 20 }
set_option maxRecDepth 100000 in
theorem kX3_init : XKc yX3_init (Cond.code yX3_init cX3_init 1 none :: xT) rX3_init 3 [.null, .null] S1 bk3 := XKc.of (by decide) rfl (by decide) (fun p l e s m args below meth c D G base q W hX hS hR => by
  refine y_ald 0 rfl hX dX3_init_0 ?_
  refine y_obj hX (xgood1 tw_56) (xgood1 tw_23) (xgood1 tw_24) (by decide) (by decide) dX3_init_1 ?_
  refine y_ald 0 rfl hX dX3_init_4 ?_
  refine y_si hX dX3_init_5 rfl ?_
  refine y_newa (atype := .int) (N' := 192) (a0 := (192, .inl (fun _ => 0))) (ty := .int) (t0 := 0) rfl rfl hX tw_67 (fun _ => rfl) (by decide) (by decide) (by decide) (by decide) (by decide) dX3_init_8 (fun a1 => ?_)
  refine y_perm (List.Perm.swap _ _ _) ?_
  refine y_putR yc3 0 (by decide) rfl rfl rfl rfl (Nat.le_of_ble_eq_true rfl) hX tw_57 dX3_init_10 ?_
  refine y_ald 0 rfl hX dX3_init_13 ?_
  refine y_ic hX dX3_init_14 ?_
  refine y_newa (atype := .int) (N' := 3) (a0 := (3, .inl (fun _ => 0))) (ty := .int) (t0 := 0) rfl rfl hX tw_67 (fun _ => rfl) (by decide) (by decide) (by decide) (by decide) (by decide) dX3_init_15 (fun a2 => ?_)
  refine y_perm (List.Perm.swap _ _ _) ?_
  refine y_putR yc3 1 (by decide) rfl rfl rfl rfl (Nat.le_of_ble_eq_true rfl) hX tw_58 dX3_init_17 ?_
  refine y_perm (List.Perm.cons _ (List.Perm.swap _ _ _)) ?_
  exact hR _ _ (a1, a2) dX3_init_20)
/-- UnitKitchens$Kitchen -/
def bk1 (G : Nat → ClassId) (q : Nat) (x : Nat × Nat × (Nat × Nat)) : va_W := (q, .inr (1, [.int 0, .ref x.1, .int (Int32.ofInt (-1)), .int 0, .ref x.2.1, .int 0, .int 0])) :: (x.1, .inl (G 0, 3, .inl (fun _ => 0))) :: bk3 G x.2.1 x.2.2
abbrev rX1_init : Room := { frames := 3, cells := 4, slots := 200, locals := 60 }
set_option maxRecDepth 100000 in
theorem kX1_init : XKc yX1_init (Cond.code yX1_init cX1_init 1 none :: xT) rX1_init 1 [.int 0, .null, .int 0, .int 0, .null, .int 0, .int 0] S1 bk1 := XKc.of (by decide) rfl (by decide) (fun p l e s m args below meth c D G base q W hX hS hR => by
  refine y_ald 0 rfl hX dX1_init_0 ?_
  refine y_obj hX (xgood1 tw_50) (xgood1 tw_23) (xgood1 tw_24) (by decide) (by decide) dX1_init_1 ?_
  refine y_ald 0 rfl hX dX1_init_4 ?_
  refine y_ic hX dX1_init_5 ?_
  refine y_newa (atype := .int) (N' := 3) (a0 := (3, .inl (fun _ => 0))) (ty := .int) (t0 := 0) rfl rfl hX tw_67 (fun _ => rfl) (by decide) (by decide) (by decide) (by decide) (by decide) dX1_init_6 (fun a1 => ?_)
  refine y_perm (List.Perm.swap _ _ _) ?_
  refine y_putR yc1 1 (by decide) rfl rfl rfl rfl (Nat.le_of_ble_eq_true rfl) hX tw_71 dX1_init_8 ?_
  refine y_ald 0 rfl hX dX1_init_11 ?_
  refine y_ic hX dX1_init_12 ?_
  refine y_putI yc1 2 (by decide) rfl rfl (Nat.le_of_ble_eq_true rfl) hX tw_73 dX1_init_13 ?_
  refine y_ald 0 rfl hX dX1_init_16 ?_
  refine y_new (fs := [.null, .null]) yc3 hX tw_51 tw_52 tw_4 (fun j hj => by rcases (show j = 0 ∨ j = 1 by omega) with rfl | rfl <;> rfl) (by decide) (by decide) dX1_init_17 (fun a2 => ?_)
  refine y_dup hX dX1_init_20 ?_
  refine y_callN kX3_init YS1 hS hX ⟨hS.1 _ (List.Mem.tail _ (List.Mem.head _)), tw_54, tw_4, tw_55⟩ rfl ⟨by decide, by decide, by decide +kernel⟩ ⟨by decide, by decide⟩ (by decide) (by decide) (Nat.le_of_ble_eq_true rfl) dX1_init_21 (fun x => ?_)
  refine y_perm List.perm_middle ?_
  refine y_putR yc1 4 (by decide) rfl rfl rfl rfl (Nat.le_of_ble_eq_true rfl) hX tw_76 dX1_init_24 ?_
  refine y_perm (List.Perm.cons _ List.perm_middle) ?_
  exact hR _ _ (a1, a2, x) dX1_init_27)
/-- UnitKitchens$Lorry -/
def bk2 (G : Nat → ClassId) (q : Nat) (x : Nat × (Nat × Nat)) : va_W := (q, .inr (2, [.int (Int32.ofInt (-1)), .int (Int32.ofInt (-1)), .int 0, .ref x.1, .int 0, .int 0])) :: bk3 G x.1 x.2
abbrev rX2_init : Room := { frames := 3, cells := 3, slots := 197, locals := 60 }
set_option maxRecDepth 100000 in
theorem kX2_init : XKc yX2_init (Cond.code yX2_init cX2_init 1 none :: xT) rX2_init 2 [.int 0, .int 0, .int 0, .null, .int 0, .int 0] S1 bk2 := XKc.of (by decide) rfl (by decide) (fun p l e s m args below meth c D G base q W hX hS hR => by
  refine y_ald 0 rfl hX dX2_init_0 ?_
  refine y_obj hX (xgood1 tw_102) (xgood1 tw_23) (xgood1 tw_24) (by decide) (by decide) dX2_init_1 ?_
  refine y_ald 0 rfl hX dX2_init_4 ?_
  refine y_ic hX dX2_init_5 ?_
  refine y_putI yc2 0 (by decide) rfl rfl (Nat.le_of_ble_eq_true rfl) hX tw_105 dX2_init_6 ?_
  refine y_ald 0 rfl hX dX2_init_9 ?_
  refine y_ic hX dX2_init_10 ?_
  refine y_putI yc2 1 (by decide) rfl rfl (Nat.le_of_ble_eq_true rfl) hX tw_108 dX2_init_11 ?_
  refine y_ald 0 rfl hX dX2_init_14 ?_
  refine y_new (fs := [.null, .null]) yc3 hX tw_103 tw_52 tw_4 (fun j hj => by rcases (show j = 0 ∨ j = 1 by omega) with rfl | rfl <;> rfl) (by decide) (by decide) dX2_init_15 (fun a2 => ?_)
  refine y_dup hX dX2_init_18 ?_
  refine y_callN kX3_init YS1 hS hX ⟨hS.1 _ (List.Mem.tail _ (List.Mem.tail _ (List.Mem.tail _ (List.Mem.head _)))), tw_54, tw_4, tw_55⟩ rfl ⟨by decide, by decide, by decide +kernel⟩ ⟨by decide, by decide⟩ (by decide) (by decide) (Nat.le_of_ble_eq_true rfl) dX2_init_19 (fun x => ?_)
  refine y_perm List.perm_middle ?_
  refine y_putR yc2 3 (by decide) rfl rfl rfl rfl (Nat.le_of_ble_eq_true rfl) hX tw_112 dX2_init_22 ?_
  exact hR _ _ (a2, x) dX2_init_25)
/-- UnitKitchens$Unit -/
def bk6 (G : Nat → ClassId) (q : Nat) (x : Unit) : va_W := [(q, .inr (6, [.int (Int32.ofInt 0), .int 0, .int 0, .int 0, .int 0, .int 0, .int 0, .int 0, .int (Int32.ofInt (-1)), .int 0, .int 0, .int 0]))]
abbrev rX6_init : Room := { frames := 1, cells := 0, slots := 0, locals := 20 }
set_option maxRecDepth 100000 in
theorem kX6_init : XKc yX6_init (Cond.code yX6_init cX6_init 1 none :: xT) rX6_init 6 [.int 0, .int 0, .int 0, .int 0, .int 0, .int 0, .int 0, .int 0, .int 0, .int 0, .int 0, .int 0] S1 bk6 := XKc.of (by decide) rfl (by decide) (fun p l e s m args below meth c D G base q W hX hS hR => by
  refine y_ald 0 rfl hX dX6_init_0 ?_
  refine y_obj hX (xgood1 tw_136) (xgood1 tw_23) (xgood1 tw_24) (by decide) (by decide) dX6_init_1 ?_
  refine y_ald 0 rfl hX dX6_init_4 ?_
  refine y_ic hX dX6_init_5 ?_
  refine y_putI yc6 0 (by decide) rfl rfl (Nat.le_of_ble_eq_true rfl) hX tw_137 dX6_init_6 ?_
  refine y_ald 0 rfl hX dX6_init_9 ?_
  refine y_ic hX dX6_init_10 ?_
  refine y_putI yc6 8 (by decide) rfl rfl (Nat.le_of_ble_eq_true rfl) hX tw_159 dX6_init_11 ?_
  exact hR _ _ () dX6_init_14)
/-- UnitKitchens$SheetReader -/
def bk5 (G : Nat → ClassId) (q : Nat) (x : Nat) : va_W := [(q, .inr (5, [.int 0, .int 0, .ref x])), (x, .inl (G 0, 4, .inl (fun _ => 0)))]
abbrev rX5_init : Room := { frames := 1, cells := 1, slots := 4, locals := 20 }
set_option maxRecDepth 100000 in
theorem kX5_init : XKc yX5_init (Cond.code yX5_init cX5_init 1 none :: xT) rX5_init 5 [.int 0, .int 0, .null] S1 bk5 := XKc.of (by decide) rfl (by decide) (fun p l e s m args below meth c D G base q W hX hS hR => by
  refine y_ald 0 rfl hX dX5_init_0 ?_
  refine y_obj hX (xgood1 tw_264) (xgood1 tw_23) (xgood1 tw_24) (by decide) (by decide) dX5_init_1 ?_
  refine y_ald 0 rfl hX dX5_init_4 ?_
  refine y_ic hX dX5_init_5 ?_
  refine y_newa (atype := .int) (N' := 4) (a0 := (4, .inl (fun _ => 0))) (ty := .int) (t0 := 0) rfl rfl hX tw_67 (fun _ => rfl) (by decide) (by decide) (by decide) (by decide) (by decide) dX5_init_6 (fun a1 => ?_)
  refine y_perm (List.Perm.swap _ _ _) ?_
  refine y_putR yc5 2 (by decide) rfl rfl rfl rfl (Nat.le_of_ble_eq_true rfl) hX tw_265 dX5_init_8 ?_
  exact hR _ _ a1 dX5_init_11)
end XKd
