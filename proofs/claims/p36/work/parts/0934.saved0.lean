section XKf
/-- what a film is made of -/
abbrev FB : Type := Nat × Nat × Nat × Nat × Nat × Nat × (Nat → Nat × (Nat × Nat × (Nat × Nat))) × (Nat → Nat × (Nat × (Nat × Nat))) × (Nat → Nat)
def ef0 (x : FB) : List Value := [.int 0, .int 0, .ref x.1, .int 0, .ref x.2.1, .ref x.2.2.1, .int 0, .ref x.2.2.2.1, .int 0, .ref x.2.2.2.2.1, .int 0, .ref x.2.2.2.2.2.1]
def tk0 (G : Nat → ClassId) (q : Nat) (x : FB) : va_W := (bk0 G q x).tail
theorem bk0_eq (G : Nat → ClassId) (q : Nat) (x : FB) : bk0 G q x = (q, .inr (0, ef0 x)) :: tk0 G q x := rfl
theorem pm3 {α : Type} {b : List α} {e t a : α} {tl R : List α} (h : b = e :: tl) : (b ++ (t :: a :: R)).Perm (a :: e :: t :: (tl ++ R)) := by
  subst h
  exact pm1
theorem pm4 {α : Type} {b : List α} {e t a : α} {tl R : List α} (h : b = e :: tl) : (a :: e :: t :: (tl ++ R)).Perm (t :: a :: (b ++ R)) := by
  subst h
  exact pm2
/-- UnitKitchens$SavedFilms -/
def bk4 (G : Nat → ClassId) (q : Nat) (x : Nat × (Nat × FB) × (Nat × FB) × (Nat × FB) × (Nat × FB) × (Nat × FB) × (Nat × FB)) : va_W := (q, .inr (4, [.ref x.1, .int 0, .int 0])) :: (x.1, .inl (G 6, 6, .inr (.inr (.inr (.inr (va_up (va_up (va_up (va_up (va_up (va_up (fun _ => none) (Int32.ofInt 0).toNatClampNeg (some (x.2.1.1))) (Int32.ofInt 1).toNatClampNeg (some (x.2.2.1.1))) (Int32.ofInt 2).toNatClampNeg (some (x.2.2.2.1.1))) (Int32.ofInt 3).toNatClampNeg (some (x.2.2.2.2.1.1))) (Int32.ofInt 4).toNatClampNeg (some (x.2.2.2.2.2.1.1))) (Int32.ofInt 5).toNatClampNeg (some (x.2.2.2.2.2.2.1)))))))) :: (bk0 G x.2.2.2.2.2.2.1 x.2.2.2.2.2.2.2 ++ (bk0 G x.2.2.2.2.2.1.1 x.2.2.2.2.2.1.2 ++ (bk0 G x.2.2.2.2.1.1 x.2.2.2.2.1.2 ++ (bk0 G x.2.2.2.1.1 x.2.2.2.1.2 ++ (bk0 G x.2.2.1.1 x.2.2.1.2 ++ (bk0 G x.2.1.1 x.2.1.2))))))
abbrev rX4_init : Room := { frames := 5, cells := 301, slots := 9786, locals := 160 }
set_option maxHeartbeats 20000000 in
set_option maxRecDepth 100000 in
theorem kX4_init : XKc yX4_init (Cond.code yX4_init cX4_init 2 none :: xT) rX4_init 4 [.null, .int 0, .int 0] S1 bk4 := XKc.of (by decide) rfl (by decide) (fun p l e s m args below meth c D G base q W hX hS hR => by
  refine y_ald 0 rfl hX dX4_init_0 ?_
  refine y_obj hX (xgood1 tw_244) (xgood1 tw_23) (xgood1 tw_24) (by decide) (by decide) dX4_init_1 ?_
  refine y_ald 0 rfl hX dX4_init_4 ?_
  refine y_bi hX dX4_init_5 rfl ?_
  refine y_newq (N' := 6) (t0 := 6) (g := G 6) rfl hX tw_245 (hS.2.2.2.1 _ (List.Mem.tail _ (List.Mem.tail _ (List.Mem.tail _ (List.Mem.head _))))) (by decide) (by decide) (by decide) (by decide) (by decide) dX4_init_7 (fun aa => ?_)
  refine y_perm (List.Perm.swap _ _ _) ?_
  refine y_putR yc4 0 (by decide) rfl rfl rfl rfl (Nat.le_of_ble_eq_true rfl) hX tw_248 dX4_init_10 ?_
  refine y_ic hX dX4_init_13 ?_
  refine y_ist (o := q) (a := 0) rfl hX (by decide) dX4_init_14 (Or.inl rfl) ?_
  refine y_ild 1 rfl hX dX4_init_15 ?_
  refine y_bi hX dX4_init_16 rfl ?_
  refine y_ge (t := 40) hX dX4_init_18 (by decide) (fun z => absurd z (by decide)) (fun _ => ?_)
  refine y_ald 0 rfl hX dX4_init_21 ?_
  refine y_get yc4 0 (by decide) rfl hX tw_248 dX4_init_22 ?_
  refine y_ild 1 rfl hX dX4_init_25 ?_
  refine y_new (fs := [.int 0, .int 0, .null, .int 0, .null, .null, .int 0, .null, .int 0, .null, .int 0, .null]) yc0 hX tw_245 tw_26 tw_2 (fun j hj => by rcases (show j = 0 ∨ j = 1 ∨ j = 2 ∨ j = 3 ∨ j = 4 ∨ j = 5 ∨ j = 6 ∨ j = 7 ∨ j = 8 ∨ j = 9 ∨ j = 10 ∨ j = 11 by omega) with rfl | rfl | rfl | rfl | rfl | rfl | rfl | rfl | rfl | rfl | rfl | rfl <;> rfl) (by decide) (by decide) dX4_init_26 (fun f0 => ?_)
  refine y_dup hX dX4_init_29 ?_
  refine y_call kX0_init YS1 hS hX ⟨tw_247, tw_28, tw_2, tw_29⟩ rfl ⟨by decide, by decide, by decide +kernel⟩ ⟨by decide, by decide⟩ (by decide) (by decide) (Nat.le_of_ble_eq_true rfl) dX4_init_30 (fun fx0 => ?_)
  refine y_perm (pm3 (bk0_eq G f0 fx0)) ?_
  refine y_aast (t0 := 6) (ci := 0) rfl rfl hX (x_in (by decide) (by decide) (by decide)) dX4_init_33 ?_
  refine y_perm (pm4 (bk0_eq G f0 fx0)) ?_
  refine y_inc (v := .ofInt 1) hX (by decide) dX4_init_34 (by decide) ?_
  refine y_goto (t := 15) hX dX4_init_37 (by decide) ?_
  refine y_ild 1 rfl hX dX4_init_15 ?_
  refine y_bi hX dX4_init_16 rfl ?_
  refine y_ge (t := 40) hX dX4_init_18 (by decide) (fun z => absurd z (by decide)) (fun _ => ?_)
  refine y_ald 0 rfl hX dX4_init_21 ?_
  refine y_get yc4 0 (by decide) rfl hX tw_248 dX4_init_22 ?_
  refine y_ild 1 rfl hX dX4_init_25 ?_
  refine y_new (fs := [.int 0, .int 0, .null, .int 0, .null, .null, .int 0, .null, .int 0, .null, .int 0, .null]) yc0 hX tw_245 tw_26 tw_2 (fun j hj => by rcases (show j = 0 ∨ j = 1 ∨ j = 2 ∨ j = 3 ∨ j = 4 ∨ j = 5 ∨ j = 6 ∨ j = 7 ∨ j = 8 ∨ j = 9 ∨ j = 10 ∨ j = 11 by omega) with rfl | rfl | rfl | rfl | rfl | rfl | rfl | rfl | rfl | rfl | rfl | rfl <;> rfl) (by decide) (by decide) dX4_init_26 (fun f1 => ?_)
  refine y_dup hX dX4_init_29 ?_
  refine y_call kX0_init YS1 hS hX ⟨tw_247, tw_28, tw_2, tw_29⟩ rfl ⟨by decide, by decide, by decide +kernel⟩ ⟨by decide, by decide⟩ (by decide) (by decide) (Nat.le_of_ble_eq_true rfl) dX4_init_30 (fun fx1 => ?_)
  refine y_perm (pm3 (bk0_eq G f1 fx1)) ?_
  refine y_aast (t0 := 6) (ci := 0) rfl rfl hX (x_in (by decide) (by decide) (by decide)) dX4_init_33 ?_
  refine y_perm (pm4 (bk0_eq G f1 fx1)) ?_
  refine y_inc (v := .ofInt 2) hX (by decide) dX4_init_34 (by decide) ?_
  refine y_goto (t := 15) hX dX4_init_37 (by decide) ?_
  refine y_ild 1 rfl hX dX4_init_15 ?_
  refine y_bi hX dX4_init_16 rfl ?_
  refine y_ge (t := 40) hX dX4_init_18 (by decide) (fun z => absurd z (by decide)) (fun _ => ?_)
  refine y_ald 0 rfl hX dX4_init_21 ?_
  refine y_get yc4 0 (by decide) rfl hX tw_248 dX4_init_22 ?_
  refine y_ild 1 rfl hX dX4_init_25 ?_
  refine y_new (fs := [.int 0, .int 0, .null, .int 0, .null, .null, .int 0, .null, .int 0, .null, .int 0, .null]) yc0 hX tw_245 tw_26 tw_2 (fun j hj => by rcases (show j = 0 ∨ j = 1 ∨ j = 2 ∨ j = 3 ∨ j = 4 ∨ j = 5 ∨ j = 6 ∨ j = 7 ∨ j = 8 ∨ j = 9 ∨ j = 10 ∨ j = 11 by omega) with rfl | rfl | rfl | rfl | rfl | rfl | rfl | rfl | rfl | rfl | rfl | rfl <;> rfl) (by decide) (by decide) dX4_init_26 (fun f2 => ?_)
  refine y_dup hX dX4_init_29 ?_
  refine y_call kX0_init YS1 hS hX ⟨tw_247, tw_28, tw_2, tw_29⟩ rfl ⟨by decide, by decide, by decide +kernel⟩ ⟨by decide, by decide⟩ (by decide) (by decide) (Nat.le_of_ble_eq_true rfl) dX4_init_30 (fun fx2 => ?_)
  refine y_perm (pm3 (bk0_eq G f2 fx2)) ?_
  refine y_aast (t0 := 6) (ci := 0) rfl rfl hX (x_in (by decide) (by decide) (by decide)) dX4_init_33 ?_
  refine y_perm (pm4 (bk0_eq G f2 fx2)) ?_
  refine y_inc (v := .ofInt 3) hX (by decide) dX4_init_34 (by decide) ?_
  refine y_goto (t := 15) hX dX4_init_37 (by decide) ?_
  refine y_ild 1 rfl hX dX4_init_15 ?_
  refine y_bi hX dX4_init_16 rfl ?_
  refine y_ge (t := 40) hX dX4_init_18 (by decide) (fun z => absurd z (by decide)) (fun _ => ?_)
  refine y_ald 0 rfl hX dX4_init_21 ?_
  refine y_get yc4 0 (by decide) rfl hX tw_248 dX4_init_22 ?_
  refine y_ild 1 rfl hX dX4_init_25 ?_
  refine y_new (fs := [.int 0, .int 0, .null, .int 0, .null, .null, .int 0, .null, .int 0, .null, .int 0, .null]) yc0 hX tw_245 tw_26 tw_2 (fun j hj => by rcases (show j = 0 ∨ j = 1 ∨ j = 2 ∨ j = 3 ∨ j = 4 ∨ j = 5 ∨ j = 6 ∨ j = 7 ∨ j = 8 ∨ j = 9 ∨ j = 10 ∨ j = 11 by omega) with rfl | rfl | rfl | rfl | rfl | rfl | rfl | rfl | rfl | rfl | rfl | rfl <;> rfl) (by decide) (by decide) dX4_init_26 (fun f3 => ?_)
  refine y_dup hX dX4_init_29 ?_
  refine y_call kX0_init YS1 hS hX ⟨tw_247, tw_28, tw_2, tw_29⟩ rfl ⟨by decide, by decide, by decide +kernel⟩ ⟨by decide, by decide⟩ (by decide) (by decide) (Nat.le_of_ble_eq_true rfl) dX4_init_30 (fun fx3 => ?_)
  refine y_perm (pm3 (bk0_eq G f3 fx3)) ?_
  refine y_aast (t0 := 6) (ci := 0) rfl rfl hX (x_in (by decide) (by decide) (by decide)) dX4_init_33 ?_
  refine y_perm (pm4 (bk0_eq G f3 fx3)) ?_
  refine y_inc (v := .ofInt 4) hX (by decide) dX4_init_34 (by decide) ?_
  refine y_goto (t := 15) hX dX4_init_37 (by decide) ?_
  refine y_ild 1 rfl hX dX4_init_15 ?_
  refine y_bi hX dX4_init_16 rfl ?_
  refine y_ge (t := 40) hX dX4_init_18 (by decide) (fun z => absurd z (by decide)) (fun _ => ?_)
  refine y_ald 0 rfl hX dX4_init_21 ?_
  refine y_get yc4 0 (by decide) rfl hX tw_248 dX4_init_22 ?_
  refine y_ild 1 rfl hX dX4_init_25 ?_
  refine y_new (fs := [.int 0, .int 0, .null, .int 0, .null, .null, .int 0, .null, .int 0, .null, .int 0, .null]) yc0 hX tw_245 tw_26 tw_2 (fun j hj => by rcases (show j = 0 ∨ j = 1 ∨ j = 2 ∨ j = 3 ∨ j = 4 ∨ j = 5 ∨ j = 6 ∨ j = 7 ∨ j = 8 ∨ j = 9 ∨ j = 10 ∨ j = 11 by omega) with rfl | rfl | rfl | rfl | rfl | rfl | rfl | rfl | rfl | rfl | rfl | rfl <;> rfl) (by decide) (by decide) dX4_init_26 (fun f4 => ?_)
  refine y_dup hX dX4_init_29 ?_
  refine y_call kX0_init YS1 hS hX ⟨tw_247, tw_28, tw_2, tw_29⟩ rfl ⟨by decide, by decide, by decide +kernel⟩ ⟨by decide, by decide⟩ (by decide) (by decide) (Nat.le_of_ble_eq_true rfl) dX4_init_30 (fun fx4 => ?_)
  refine y_perm (pm3 (bk0_eq G f4 fx4)) ?_
  refine y_aast (t0 := 6) (ci := 0) rfl rfl hX (x_in (by decide) (by decide) (by decide)) dX4_init_33 ?_
  refine y_perm (pm4 (bk0_eq G f4 fx4)) ?_
  refine y_inc (v := .ofInt 5) hX (by decide) dX4_init_34 (by decide) ?_
  refine y_goto (t := 15) hX dX4_init_37 (by decide) ?_
  refine y_ild 1 rfl hX dX4_init_15 ?_
  refine y_bi hX dX4_init_16 rfl ?_
  refine y_ge (t := 40) hX dX4_init_18 (by decide) (fun z => absurd z (by decide)) (fun _ => ?_)
  refine y_ald 0 rfl hX dX4_init_21 ?_
  refine y_get yc4 0 (by decide) rfl hX tw_248 dX4_init_22 ?_
  refine y_ild 1 rfl hX dX4_init_25 ?_
  refine y_new (fs := [.int 0, .int 0, .null, .int 0, .null, .null, .int 0, .null, .int 0, .null, .int 0, .null]) yc0 hX tw_245 tw_26 tw_2 (fun j hj => by rcases (show j = 0 ∨ j = 1 ∨ j = 2 ∨ j = 3 ∨ j = 4 ∨ j = 5 ∨ j = 6 ∨ j = 7 ∨ j = 8 ∨ j = 9 ∨ j = 10 ∨ j = 11 by omega) with rfl | rfl | rfl | rfl | rfl | rfl | rfl | rfl | rfl | rfl | rfl | rfl <;> rfl) (by decide) (by decide) dX4_init_26 (fun f5 => ?_)
  refine y_dup hX dX4_init_29 ?_
  refine y_call kX0_init YS1 hS hX ⟨tw_247, tw_28, tw_2, tw_29⟩ rfl ⟨by decide, by decide, by decide +kernel⟩ ⟨by decide, by decide⟩ (by decide) (by decide) (Nat.le_of_ble_eq_true rfl) dX4_init_30 (fun fx5 => ?_)
  refine y_perm (pm3 (bk0_eq G f5 fx5)) ?_
  refine y_aast (t0 := 6) (ci := 0) rfl rfl hX (x_in (by decide) (by decide) (by decide)) dX4_init_33 ?_
  refine y_perm (pm4 (bk0_eq G f5 fx5)) ?_
  refine y_inc (v := .ofInt 6) hX (by decide) dX4_init_34 (by decide) ?_
  refine y_goto (t := 15) hX dX4_init_37 (by decide) ?_
  refine y_ild 1 rfl hX dX4_init_15 ?_
  refine y_bi hX dX4_init_16 rfl ?_
  refine y_ge (t := 40) hX dX4_init_18 (by decide) (fun _ => ?_) (fun z => absurd (by decide) z)
  refine y_perm (ws' := bk4 G q (aa, (f0, fx0), (f1, fx1), (f2, fx2), (f3, fx3), (f4, fx4), (f5, fx5)) ++ W) (List.Perm.of_eq (by unfold bk4; simp only [List.append_assoc, List.cons_append]; rfl)) ?_
  exact hR _ _ (aa, (f0, fx0), (f1, fx1), (f2, fx2), (f3, fx3), (f4, fx4), (f5, fx5)) dX4_init_40)
/-- UnitKitchens -/
def bk7 (G : Nat → ClassId) (q : Nat) (x : (Nat × FB) × (Nat × FB) × (Nat × (Nat × (Nat × FB) × (Nat × FB) × (Nat × FB) × (Nat × FB) × (Nat × FB) × (Nat × FB))) × Nat × (Nat × Nat)) : va_W := (q, .inr (7, [.ref x.1.1, .ref x.2.1.1, .ref x.2.2.1.1, .ref x.2.2.2.1, .ref x.2.2.2.2.1, .int (Int32.ofInt 0)])) :: (bk5 G x.2.2.2.2.1 x.2.2.2.2.2 ++ ((x.2.2.2.1, .inl (G 1, 60, .inl (fun _ => 0))) :: (bk4 G x.2.2.1.1 x.2.2.1.2 ++ (bk0 G x.2.1.1 x.2.1.2 ++ bk0 G x.1.1 x.1.2))))
abbrev rX7_init : Room := { frames := 6, cells := 405, slots := 13116, locals := 200 }
set_option maxHeartbeats 20000000 in
set_option maxRecDepth 100000 in
theorem kX7_init : XKc yX7_init (Cond.code yX7_init cX7_init 1 none :: xT) rX7_init 7 [.null, .null, .null, .null, .null, .int 0] S1 bk7 := XKc.of (by decide) rfl (by decide) (fun p l e s m args below meth c D G base q W hX hS hR => by
  refine y_ald 0 rfl hX dX7_init_0 ?_
  refine y_obj hX (xgood1 tw_22) (xgood1 tw_23) (xgood1 tw_24) (by decide) (by decide) dX7_init_1 ?_
  refine y_ald 0 rfl hX dX7_init_4 ?_
  refine y_new (fs := [.int 0, .int 0, .null, .int 0, .null, .null, .int 0, .null, .int 0, .null, .int 0, .null]) yc0 hX tw_25 tw_26 tw_2 (fun j hj => by rcases (show j = 0 ∨ j = 1 ∨ j = 2 ∨ j = 3 ∨ j = 4 ∨ j = 5 ∨ j = 6 ∨ j = 7 ∨ j = 8 ∨ j = 9 ∨ j = 10 ∨ j = 11 by omega) with rfl | rfl | rfl | rfl | rfl | rfl | rfl | rfl | rfl | rfl | rfl | rfl <;> rfl) (by decide) (by decide) dX7_init_5 (fun a0 => ?_)
  refine y_dup hX dX7_init_8 ?_
  refine y_call kX0_init YS1 hS hX ⟨tw_27, tw_28, tw_2, tw_29⟩ rfl ⟨by decide, by decide, by decide +kernel⟩ ⟨by decide, by decide⟩ (by decide) (by decide) (Nat.le_of_ble_eq_true rfl) dX7_init_9 (fun x0 => ?_)
  refine y_perm List.perm_middle ?_
  refine y_putR yc7 0 (by decide) rfl rfl rfl rfl (Nat.le_of_ble_eq_true rfl) hX tw_274 dX7_init_12 ?_
  refine y_ald 0 rfl hX dX7_init_15 ?_
  refine y_new (fs := [.int 0, .int 0, .null, .int 0, .null, .null, .int 0, .null, .int 0, .null, .int 0, .null]) yc0 hX tw_25 tw_26 tw_2 (fun j hj => by rcases (show j = 0 ∨ j = 1 ∨ j = 2 ∨ j = 3 ∨ j = 4 ∨ j = 5 ∨ j = 6 ∨ j = 7 ∨ j = 8 ∨ j = 9 ∨ j = 10 ∨ j = 11 by omega) with rfl | rfl | rfl | rfl | rfl | rfl | rfl | rfl | rfl | rfl | rfl | rfl <;> rfl) (by decide) (by decide) dX7_init_16 (fun a1 => ?_)
  refine y_dup hX dX7_init_19 ?_
  refine y_call kX0_init YS1 hS hX ⟨tw_27, tw_28, tw_2, tw_29⟩ rfl ⟨by decide, by decide, by decide +kernel⟩ ⟨by decide, by decide⟩ (by decide) (by decide) (Nat.le_of_ble_eq_true rfl) dX7_init_20 (fun x1 => ?_)
  refine y_perm List.perm_middle ?_
  refine y_putR yc7 1 (by decide) rfl rfl rfl rfl (Nat.le_of_ble_eq_true rfl) hX tw_275 dX7_init_23 ?_
  refine y_ald 0 rfl hX dX7_init_26 ?_
  refine y_new (fs := [.null, .int 0, .int 0]) yc4 hX tw_239 tw_240 tw_7 (fun j hj => by rcases (show j = 0 ∨ j = 1 ∨ j = 2 by omega) with rfl | rfl | rfl <;> rfl) (by decide) (by decide) dX7_init_27 (fun a2 => ?_)
  refine y_dup hX dX7_init_30 ?_
  refine y_call kX4_init YS1 hS hX ⟨tw_241, tw_242, tw_7, tw_243⟩ rfl ⟨by decide, by decide, by decide +kernel⟩ ⟨by decide, by decide⟩ (by decide) (by decide) (Nat.le_of_ble_eq_true rfl) dX7_init_31 (fun x2 => ?_)
  refine y_perm List.perm_middle ?_
  refine y_putR yc7 2 (by decide) rfl rfl rfl rfl (Nat.le_of_ble_eq_true rfl) hX tw_276 dX7_init_34 ?_
  refine y_ald 0 rfl hX dX7_init_37 ?_
  refine y_bi hX dX7_init_38 rfl ?_
  refine y_newa (atype := .char) (N' := 60) (a0 := (60, .inl (fun _ => 0))) (ty := .char) (t0 := 1) rfl rfl hX tw_273 (fun _ => rfl) (by decide) (by decide) (by decide) (by decide) (by decide) dX7_init_40 (fun a3 => ?_)
  refine y_perm (List.Perm.swap _ _ _) ?_
  refine y_putR yc7 3 (by decide) rfl rfl rfl rfl (Nat.le_of_ble_eq_true rfl) hX tw_277 dX7_init_42 ?_
  refine y_ald 0 rfl hX dX7_init_45 ?_
  refine y_new (fs := [.int 0, .int 0, .null]) yc5 hX tw_259 tw_260 tw_8 (fun j hj => by rcases (show j = 0 ∨ j = 1 ∨ j = 2 by omega) with rfl | rfl | rfl <;> rfl) (by decide) (by decide) dX7_init_46 (fun a4 => ?_)
  refine y_dup hX dX7_init_49 ?_
  refine y_callN kX5_init YS1 hS hX ⟨hS.1 _ (List.Mem.tail _ (List.Mem.tail _ (List.Mem.tail _ (List.Mem.tail _ (List.Mem.tail _ (List.Mem.head _)))))), tw_262, tw_8, tw_263⟩ rfl ⟨by decide, by decide, by decide +kernel⟩ ⟨by decide, by decide⟩ (by decide) (by decide) (Nat.le_of_ble_eq_true rfl) dX7_init_50 (fun x4 => ?_)
  refine y_perm List.perm_middle ?_
  refine y_putR yc7 4 (by decide) rfl rfl rfl rfl (Nat.le_of_ble_eq_true rfl) hX tw_278 dX7_init_53 ?_
  refine y_ald 0 rfl hX dX7_init_56 ?_
  refine y_ic hX dX7_init_57 ?_
  refine y_putI yc7 5 (by decide) rfl rfl (Nat.le_of_ble_eq_true rfl) hX tw_279 dX7_init_58 ?_
  refine y_perm (ws' := bk7 G q ((a0, x0), (a1, x1), (a2, x2), a3, (a4, x4)) ++ W) (List.Perm.of_eq (by unfold bk7; simp only [List.append_assoc, List.cons_append]; rfl)) ?_
  exact hR _ _ ((a0, x0), (a1, x1), (a2, x2), a3, (a4, x4)) dX7_init_61)
end XKf
