section XKh
section
variable {p : Program} {l : Launch} {e : Env} {R : Room} {s : State} {m : MethodId} {args : Array Value} {below : List Frame} {meth : Method} {c : Code} {D : va_G} {G : Nat → ClassId} {Q : State → Prop} {base nL pc : Nat} {Lv Lv' : List (Nat × Value)} {st : List Value} {ws : va_W} {cells slots : Nat} {cc : ByteArray} {own : String} {Ts : List Cond}
theorem y_astL {a i : Nat} {k : Fin 4} (hi : (k : Nat) = i) (hn : i < nL) (hLv : (i, Value.ref a) :: Lv.filter (fun q => !(q.1 == i) && !(q.1 + 1 == i && q.2.category == 2)) = Lv') (hX : YX0 p s m args c D G base cc nL own Ts) (d : decode cc pc = .ok (.astore_n k, 1)) (kk : YW p l e R s m args below meth c D Q base nL (pc + 1) Lv' st ws cells slots) : YW p l e R s m args below meth c D Q base nL pc Lv (.ref a :: st) ws cells slots :=
  fun H locs ls hP hD hS hl => lv_astore_n hX.1.1 hX.1.2.1 d hi hl hn hLv (fun ls' hl' => kk H locs ls' hP hD hS hl')
theorem y_istL {i : Nat} {v : Int32} (hn : i < nL) (hLv : (i, Value.int v) :: Lv.filter (fun q => !(q.1 == i) && !(q.1 + 1 == i && q.2.category == 2)) = Lv') (hX : YX0 p s m args c D G base cc nL own Ts) (d : decode cc pc = .ok (.istore i, 2)) (kk : YW p l e R s m args below meth c D Q base nL (pc + 2) Lv' st ws cells slots) : YW p l e R s m args below meth c D Q base nL pc Lv (.int v :: st) ws cells slots :=
  fun H locs ls hP hD hS hl => lv_istore hX.1.1 hX.1.2.1 d hl hn hLv (fun ls' hl' => kk H locs ls' hP hD hS hl')
end
abbrev B7 : Type := (Nat × FB) × (Nat × FB) × (Nat × (Nat × (Nat × FB) × (Nat × FB) × (Nat × FB) × (Nat × FB) × (Nat × FB) × (Nat × FB))) × Nat × (Nat × Nat)
abbrev B8 : Type := Nat × Nat × Nat × Nat × Nat
set_option maxHeartbeats 4000000 in
set_option maxRecDepth 100000 in
theorem lw_new {p : Program} {l : Launch} {e : Env} {s : State} {m : MethodId} {args : Array Value} {below : List Frame} {meth : Method} {c : Code} {D : va_G} {G : Nat → ClassId} {Q : State → Prop} {b base : Nat} (hX : YX0 p s m args c D G base cL_law 9 RL (Cond.initialized RL :: xT)) (hS : S1 G base s) (hk : ∀ (q7 : Nat) (x7 : B7) (q8 : Nat) (x8 : B8) (qo : Nat), YW p l e room_1 s m args below meth c D Q base 9 23 [(4, .int (Int32.ofInt 0)), (3, .ref qo), (2, .ref q8), (1, .ref q7), (0, .ref b)] [] ((qo, .inl (G 2, 1, .inr (.inl (fun _ => 0)))) :: (bk8 G q8 x8 ++ (bk7 G q7 x7 ++ []))) 413 25730) : YW p l e room_1 s m args below meth c D Q base 9 0 [(0, .ref b)] [] [] 0 0 := by
  refine y_newL (fs := [.null, .null, .null, .null, .null, .int 0]) yc7 hX tw_19 tw_20 tw_1 (fun j hj => by rcases (show j = 0 ∨ j = 1 ∨ j = 2 ∨ j = 3 ∨ j = 4 ∨ j = 5 by omega) with rfl | rfl | rfl | rfl | rfl | rfl <;> rfl) (by decide) (by decide) dL_law_0 (fun q7 => ?_)
  refine y_dupL hX dL_law_3 ?_
  refine y_callL kX7_init YS1 hS hX ⟨tw_21, tw_22, tw_1, tw_23⟩ rfl ⟨by decide, by decide, by decide +kernel⟩ ⟨by decide, by decide⟩ (by decide) (by decide) (Nat.le_of_ble_eq_true rfl) dL_law_4 (fun x7 => ?_)
  refine y_astL rfl (by decide) rfl hX dL_law_7 ?_
  refine y_newL (fs := [.null, .int 0, .null, .int 0, .null, .int 0, .int 0, .int 0, .null, .int 0, .int 0, .int 0, .null, .long 0]) yc8 hX tw_1042 tw_1043 tw_9 (fun j hj => by rcases (show j = 0 ∨ j = 1 ∨ j = 2 ∨ j = 3 ∨ j = 4 ∨ j = 5 ∨ j = 6 ∨ j = 7 ∨ j = 8 ∨ j = 9 ∨ j = 10 ∨ j = 11 ∨ j = 12 ∨ j = 13 by omega) with rfl | rfl | rfl | rfl | rfl | rfl | rfl | rfl | rfl | rfl | rfl | rfl | rfl | rfl <;> rfl) (by decide) (by decide) dL_law_8 (fun q8 => ?_)
  refine y_dupL hX dL_law_11 ?_
  refine y_callL kX8_init YS1 hS hX ⟨tw_1044, tw_1045, tw_9, tw_1046⟩ rfl ⟨by decide, by decide, by decide +kernel⟩ ⟨by decide, by decide⟩ (by decide) (by decide) (Nat.le_of_ble_eq_true rfl) dL_law_12 (fun x8 => ?_)
  refine y_astL rfl (by decide) rfl hX dL_law_15 ?_
  refine y_icL hX dL_law_16 ?_
  refine y_newaL (atype := .long) (N' := 1) (a0 := (1, .inr (.inl (fun _ => 0)))) (ty := .long) (t0 := 2) rfl rfl hX tw_1492 (fun _ => rfl) (by decide) (by decide) (by decide) (by decide) (by decide) dL_law_17 (fun qo => ?_)
  refine y_astL rfl (by decide) rfl hX dL_law_19 ?_
  refine y_icL hX dL_law_20 ?_
  refine y_istL (by decide) rfl hX dL_law_21 ?_
  exact hk q7 x7 q8 x8 qo
end XKh

