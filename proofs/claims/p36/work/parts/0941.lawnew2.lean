section XKh
section
variable {p : Program} {l : Launch} {e : Env} {R : Room} {s : State} {m : MethodId} {args : Array Value} {below : List Frame} {meth : Method} {c : Code} {D : va_G} {G : Nat → ClassId} {Q : State → Prop} {base nL pc : Nat} {Lv Lv' : List (Nat × Value)} {st : List Value} {ws : va_W} {cells slots : Nat} {cc : ByteArray} {own : String} {Ts : List Cond}
theorem y_astL {a i : Nat} {k : Fin 4} (hi : (k : Nat) = i) (hn : i < nL) (hLv : (i, Value.ref a) :: Lv.filter (fun q => !(q.1 == i) && !(q.1 + 1 == i && q.2.category == 2)) = Lv') (hX : YX0 p s m args c D G base cc nL own Ts) (d : decode cc pc = .ok (.astore_n k, 1)) (kk : YW p l e R s m args below meth c D Q base nL (pc + 1) Lv' st ws cells slots) : YW p l e R s m args below meth c D Q base nL pc Lv (.ref a :: st) ws cells slots :=
  fun H locs ls hP hD hS hl => lv_astore_n hX.1.1 hX.1.2.1 d hi hl hn hLv (fun ls' hl' => kk H locs ls' hP hD hS hl')
theorem y_astL2 {a i : Nat} (hn : i < nL) (hLv : (i, Value.ref a) :: Lv.filter (fun q => !(q.1 == i) && !(q.1 + 1 == i && q.2.category == 2)) = Lv') (hX : YX0 p s m args c D G base cc nL own Ts) (d : decode cc pc = .ok (.astore i, 2)) (kk : YW p l e R s m args below meth c D Q base nL (pc + 2) Lv' st ws cells slots) : YW p l e R s m args below meth c D Q base nL pc Lv (.ref a :: st) ws cells slots :=
  fun H locs ls hP hD hS hl => lv_astore hX.1.1 hX.1.2.1 d hl hn hLv (fun ls' hl' => kk H locs ls' hP hD hS hl')
theorem y_biL {n : Int} (hX : YX0 p s m args c D G base cc nL own Ts) (d : decode cc pc = .ok (.bipush n, 2)) (hn : (Int8.ofInt n).toInt32 = Int32.ofInt n) (k : YW p l e R s m args below meth c D Q base nL (pc + 2) Lv (.int (Int32.ofInt n) :: st) ws cells slots) : YW p l e R s m args below meth c D Q base nL pc Lv st ws cells slots :=
  fun H locs ls hP hD hS hl => lv_bipush hX.1.1 hX.1.2.1 d hn (k H locs ls hP hD hS hl)
end
abbrev B7 : Type := (Nat × FB) × (Nat × FB) × (Nat × (Nat × (Nat × FB) × (Nat × FB) × (Nat × FB) × (Nat × FB) × (Nat × FB) × (Nat × FB))) × Nat × (Nat × Nat)
set_option maxHeartbeats 4000000 in
set_option maxRecDepth 100000 in
theorem lw_new {p : Program} {l : Launch} {e : Env} {s : State} {m : MethodId} {args : Array Value} {below : List Frame} {meth : Method} {c : Code} {D : va_G} {G : Nat → ClassId} {Q : State → Prop} {b base : Nat} (hX : YX0 p s m args c D G base cL_law 20 RL (Cond.initialized RL :: xT)) (hS : S1 G base s) (hk : ∀ (q7 : Nat) (x7 : B7) (a20 a21 a22 a23 a24 a25 a26 a27 a28 a29 : Nat), YW p l e room_1 s m args below meth c D Q base 20 61 [(11, .ref a29), (10, .ref a28), (9, .ref a27), (8, .ref a26), (7, .ref a25), (6, .ref a24), (5, .ref a23), (4, .ref a22), (3, .ref a21), (2, .ref a20), (1, .ref q7), (0, .ref b)] [] ((a29, .inl (G 0, 64, .inl (fun _ => 0))) :: (a28, .inl (G 0, 60, .inl (fun _ => 0))) :: (a27, .inl (G 0, 4, .inl (fun _ => 0))) :: (a26, .inl (G 0, 4, .inl (fun _ => 0))) :: (a25, .inl (G 0, 3, .inl (fun _ => 0))) :: (a24, .inl (G 0, 3, .inl (fun _ => 0))) :: (a23, .inl (G 0, 9, .inl (fun _ => 0))) :: (a22, .inl (G 0, 3, .inl (fun _ => 0))) :: (a21, .inl (G 0, 8, .inl (fun _ => 0))) :: (a20, .inl (G 0, 19, .inl (fun _ => 0))) :: (bk7 G q7 x7 ++ [])) 416 13299) : YW p l e room_1 s m args below meth c D Q base 20 0 [(0, .ref b)] [] [] 0 0 := by
  refine y_newL (fs := [.null, .null, .null, .null, .null, .int 0]) yc7 hX tw_17 tw_18 tw_1 (fun j hj => by rcases (show j = 0 ∨ j = 1 ∨ j = 2 ∨ j = 3 ∨ j = 4 ∨ j = 5 by omega) with rfl | rfl | rfl | rfl | rfl | rfl <;> rfl) (by decide) (by decide) dL_law_0 (fun q7 => ?_)
  refine y_dupL hX dL_law_3 ?_
  refine y_callL kX7_init YS1 hS hX ⟨tw_19, tw_20, tw_1, tw_21⟩ rfl ⟨by decide, by decide, by decide +kernel⟩ ⟨by decide, by decide⟩ (by decide) (by decide) (Nat.le_of_ble_eq_true rfl) dL_law_4 (fun x7 => ?_)
  refine y_astL rfl (by decide) rfl hX dL_law_7 ?_
  refine y_biL hX dL_law_8 rfl ?_
  refine y_newaL (atype := .int) (N' := 19) (a0 := (19, .inl (fun _ => 0))) (ty := .int) (t0 := 0) rfl rfl hX tw_67 (fun _ => rfl) (by decide) (by decide) (by decide) (by decide) (by decide) dL_law_10 (fun a20 => ?_)
  refine y_astL rfl (by decide) rfl hX dL_law_12 ?_
  refine y_biL hX dL_law_13 rfl ?_
  refine y_newaL (atype := .int) (N' := 8) (a0 := (8, .inl (fun _ => 0))) (ty := .int) (t0 := 0) rfl rfl hX tw_67 (fun _ => rfl) (by decide) (by decide) (by decide) (by decide) (by decide) dL_law_15 (fun a21 => ?_)
  refine y_astL rfl (by decide) rfl hX dL_law_17 ?_
  refine y_icL hX dL_law_18 ?_
  refine y_newaL (atype := .int) (N' := 3) (a0 := (3, .inl (fun _ => 0))) (ty := .int) (t0 := 0) rfl rfl hX tw_67 (fun _ => rfl) (by decide) (by decide) (by decide) (by decide) (by decide) dL_law_19 (fun a22 => ?_)
  refine y_astL2 (by decide) rfl hX dL_law_21 ?_
  refine y_biL hX dL_law_23 rfl ?_
  refine y_newaL (atype := .int) (N' := 9) (a0 := (9, .inl (fun _ => 0))) (ty := .int) (t0 := 0) rfl rfl hX tw_67 (fun _ => rfl) (by decide) (by decide) (by decide) (by decide) (by decide) dL_law_25 (fun a23 => ?_)
  refine y_astL2 (by decide) rfl hX dL_law_27 ?_
  refine y_icL hX dL_law_29 ?_
  refine y_newaL (atype := .int) (N' := 3) (a0 := (3, .inl (fun _ => 0))) (ty := .int) (t0 := 0) rfl rfl hX tw_67 (fun _ => rfl) (by decide) (by decide) (by decide) (by decide) (by decide) dL_law_30 (fun a24 => ?_)
  refine y_astL2 (by decide) rfl hX dL_law_32 ?_
  refine y_icL hX dL_law_34 ?_
  refine y_newaL (atype := .int) (N' := 3) (a0 := (3, .inl (fun _ => 0))) (ty := .int) (t0 := 0) rfl rfl hX tw_67 (fun _ => rfl) (by decide) (by decide) (by decide) (by decide) (by decide) dL_law_35 (fun a25 => ?_)
  refine y_astL2 (by decide) rfl hX dL_law_37 ?_
  refine y_icL hX dL_law_39 ?_
  refine y_newaL (atype := .int) (N' := 4) (a0 := (4, .inl (fun _ => 0))) (ty := .int) (t0 := 0) rfl rfl hX tw_67 (fun _ => rfl) (by decide) (by decide) (by decide) (by decide) (by decide) dL_law_40 (fun a26 => ?_)
  refine y_astL2 (by decide) rfl hX dL_law_42 ?_
  refine y_icL hX dL_law_44 ?_
  refine y_newaL (atype := .int) (N' := 4) (a0 := (4, .inl (fun _ => 0))) (ty := .int) (t0 := 0) rfl rfl hX tw_67 (fun _ => rfl) (by decide) (by decide) (by decide) (by decide) (by decide) dL_law_45 (fun a27 => ?_)
  refine y_astL2 (by decide) rfl hX dL_law_47 ?_
  refine y_biL hX dL_law_49 rfl ?_
  refine y_newaL (atype := .int) (N' := 60) (a0 := (60, .inl (fun _ => 0))) (ty := .int) (t0 := 0) rfl rfl hX tw_67 (fun _ => rfl) (by decide) (by decide) (by decide) (by decide) (by decide) dL_law_51 (fun a28 => ?_)
  refine y_astL2 (by decide) rfl hX dL_law_53 ?_
  refine y_biL hX dL_law_55 rfl ?_
  refine y_newaL (atype := .int) (N' := 64) (a0 := (64, .inl (fun _ => 0))) (ty := .int) (t0 := 0) rfl rfl hX tw_67 (fun _ => rfl) (by decide) (by decide) (by decide) (by decide) (by decide) dL_law_57 (fun a29 => ?_)
  refine y_astL2 (by decide) rfl hX dL_law_59 ?_
  exact hk q7 x7 a20 a21 a22 a23 a24 a25 a26 a27 a28 a29
end XKh
