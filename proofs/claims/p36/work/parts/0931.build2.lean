section XKb
def YC (C : String) (T : u_T) (N : Nat) (ty : Nat → FieldType) (ci : Nat) : Prop := vwCl[ci]? = some (C, T, N) ∧ (∀ w ∈ u_ws C T N, w ∈ xT) ∧ (∀ k, k < N → parseFieldDescriptor (T k).2.2.1 = some (ty k)) ∧ ∀ a, a < N → ∀ b, b < N → a ≠ b → (T a).2.1 ≠ (T b).2.1
theorem yc0 : YC RX0 TX0 12 tyX0 0 := ⟨rfl, inT_X0, tyX0_ok, nmX0⟩
theorem yc1 : YC RX1 TX1 7 tyX1 1 := ⟨rfl, inT_X1, tyX1_ok, nmX1⟩
theorem yc2 : YC RX2 TX2 6 tyX2 2 := ⟨rfl, inT_X2, tyX2_ok, nmX2⟩
theorem yc3 : YC RX3 TX3 2 tyX3 3 := ⟨rfl, inT_X3, tyX3_ok, nmX3⟩
theorem yc4 : YC RX4 TX4 3 tyX4 4 := ⟨rfl, inT_X4, tyX4_ok, nmX4⟩
theorem yc5 : YC RX5 TX5 3 tyX5 5 := ⟨rfl, inT_X5, tyX5_ok, nmX5⟩
theorem yc6 : YC RX6 TX6 12 tyX6 6 := ⟨rfl, inT_X6, tyX6_ok, nmX6⟩
theorem yc7 : YC RX7 TX7 6 tyX7 7 := ⟨rfl, inT_X7, tyX7_ok, nmX7⟩
theorem va_RA_inj {U : State} {ty : FieldType} {a b : ClassId} (h1 : va_RA U a ty) (h2 : va_RA U b ty) : a = b := by
  cases ty with
  | object C =>
    obtain ⟨k1, c1, -, -, -, e1⟩ := h1
    obtain ⟨k2, c2, -, -, -, e2⟩ := h2
    exact Option.some.inj (e1.symm.trans e2)
  | _ => exact Option.some.inj (Eq.trans (Eq.symm h1) h2)
section
variable {p : Program} {l : Launch} {e : Env} {R : Room} {s : State} {m : MethodId} {args : Array Value} {below : List Frame} {meth : Method} {c : Code} {D : va_G} {G : Nat → ClassId} {Q : State → Prop} {base nL pc : Nat} {Lv : List (Nat × Value)} {st : List Value} {W : va_W} {cells slots : Nat} {cc : ByteArray} {own : String} {q0 : Cond}
theorem y_putI {C : String} {T : u_T} {N ci index a : Nat} {ty : Nat → FieldType} {fs : List Value} {v : Int32} (hc : YC C T N ty ci) (k : Nat) (hk : k < N) (hfin : (T k).2.2.2 = false) (htk : ty k = .int) (hl : k < fs.length) (hX : YX p s m args meth c D G base cc nL own (q0 :: xT)) (hlw : Cond.fieldLink own index (T k).1 (T k).2.1 (T k).2.2.1 ∈ xT) (d : decode cc pc = .ok (.putfield index, 3))
    (kk : YW p l e R s m args below meth c D Q base nL (pc + 3) Lv st ((a, .inr (ci, fs.set k (.int v))) :: W) cells slots) : YW p l e R s m args below meth c D Q base nL pc Lv (.int v :: .ref a :: st) ((a, .inr (ci, fs)) :: W) cells slots := by
  intro H locs ls hP hD hS hl'
  exact va_put (ty := .int) (v := .int v) (rest := st) hX.1.1 hX.1.2.1 hX.1.2.2.2.2 (fun w h => xgood1 (hc.2.1 w h)) ty hc.2.2.1 hc.2.2.2 hX.1.2.2.2.1 hX.2.1 hP hD hS 0 rfl hc.1 k hk (hX.1.2.2.2.2 _ (xgood1 hlw)) (fun _ z => z) hfin (by rw [hc.2.2.1 k hk, htk]) rfl rfl hl d (fun H1 locs1 hP1 hD1 hS1 => kk H1 locs1 ls hP1 hD1 hS1 hl')
theorem y_putR {C : String} {T : u_T} {N ci index a v : Nat} {ty : Nat → FieldType} {fs : List Value} (hc : YC C T N ty ci) (k : Nat) (hk : k < N) (hfin : (T k).2.2.2 = true) (hdecl : (T k).1 = own) (hnar : narrow (ty k) (.ref v) = .ref v) (hfit : fits (ty k) (.ref v) = true) (hl : k < fs.length) (hX : YX p s m args meth c D G base cc nL own (q0 :: xT)) (hlw : Cond.fieldLink own index (T k).1 (T k).2.1 (T k).2.2.1 ∈ xT) (d : decode cc pc = .ok (.putfield index, 3))
    (kk : YW p l e R s m args below meth c D Q base nL (pc + 3) Lv st ((a, .inr (ci, fs.set k (.ref v))) :: W) cells slots) : YW p l e R s m args below meth c D Q base nL pc Lv (.ref v :: .ref a :: st) ((a, .inr (ci, fs)) :: W) cells slots := by
  intro H locs ls hP hD hS hl'
  exact va_putF (ty := ty k) (v := .ref v) (rest := st) hX.1.1 hX.1.2.1 hX.1.2.2.2.2 (fun w h => xgood1 (hc.2.1 w h)) ty hc.2.2.1 hc.2.2.2 hX.1.2.2.2.1 hX.2.1 hP hD hS 0 rfl hc.1 k hk (hX.1.2.2.2.2 _ (xgood1 hlw)) (fun _ z => z) hfin hX.2.2.2 hdecl (hc.2.2.1 k hk) hnar hfit hl d (fun H1 locs1 hP1 hD1 hS1 => kk H1 locs1 ls hP1 hD1 hS1 hl')
theorem y_get {C : String} {T : u_T} {N ci index a : Nat} {ty : Nat → FieldType} {fs : List Value} {v : Value} (hc : YC C T N ty ci) (k : Nat) (hk : k < N) (hv : fs[k]? = some v) (hX : YX p s m args meth c D G base cc nL own (q0 :: xT)) (hlw : Cond.fieldLink own index (T k).1 (T k).2.1 (T k).2.2.1 ∈ xT) (d : decode cc pc = .ok (.getfield index, 3))
    (kk : YW p l e R s m args below meth c D Q base nL (pc + 3) Lv (v :: st) ((a, .inr (ci, fs)) :: W) cells slots) : YW p l e R s m args below meth c D Q base nL pc Lv (.ref a :: st) ((a, .inr (ci, fs)) :: W) cells slots := by
  intro H locs ls hP hD hS hl'
  exact va_get (rest := st) hX.1.1 hX.1.2.1 hX.1.2.2.2.2 (fun w h => xgood1 (hc.2.1 w h)) hX.1.2.2.2.1 hX.2.1 hP 0 rfl hc.1 k hk (hX.1.2.2.2.2 _ (xgood1 hlw)) (fun _ z => z) hv d (kk H locs ls hP hD hS hl')
theorem y_new {C : String} {T : u_T} {N ci index : Nat} {ty : Nat → FieldType} {fs : List Value} (hc : YC C T N ty ci) (hX : YX p s m args meth c D G base cc nL own (q0 :: xT)) (hcl : Cond.classLink own index C ∈ xT) (hinst : Cond.instantiable C N ∈ xT) (hini : Cond.initialized C ∈ xT) (hfs : ∀ j, j < N → defaultValue (ty j) = vp_V fs j) (hcells : cells + 1 ≤ R.cells) (hslots : slots + N ≤ R.slots) (d : decode cc pc = .ok (.new index, 3))
    (kk : ∀ q : Nat, YW p l e R s m args below meth c D Q base nL (pc + 3) Lv (.ref q :: st) ((q, .inr (ci, fs)) :: W) (cells + 1) (slots + N)) : YW p l e R s m args below meth c D Q base nL pc Lv st W cells slots := by
  intro H locs ls hP hD hS hl'
  exact va_new (rest := st) hX.1.1 hX.1.2.1 hX.1.2.2.2.2 (fun w h => xgood1 (hc.2.1 w h)) ty hc.2.2.1 hX.1.2.2.2.1 (hX.1.2.2.2.2 _ (xgood1 hcl)) (hX.1.2.2.2.2 _ (xgood1 hinst)) (hX.1.2.2.2.2 _ (xgood1 hini)) hX.2.1 hP hD hS (fun q hq => Nat.le_trans hX.2.2.1 hq) hc.1 hfs hcells hslots d (fun q H1 hP1 hD1 hS1 => kk q H1 locs ls (va_P_perm (List.perm_append_singleton _ _) hP1) (va_D_perm (List.perm_append_singleton _ _) hD1) hS1 hl')
theorem y_newa {atype : ArrayType} {ty : FieldType} {t0 N' : Nat} {g : ClassId} {n : Int32} {a0 : vp_A} (hty : newarray.typeOf atype = ty) (ht : (xtys G)[t0]? = some (g, ty)) (hX : YX p s m args meth c D G base cc nL own (q0 :: xT)) (harr : Cond.arrayClass (newarray.typeOf atype) ∈ xT) (ha : ∀ cA : ClassId, vp_cell cA a0 = arrV cA N' (fun _ => defaultValue ty)) (hn : ¬ n < 0) (hN : n.toNatClampNeg = N') (hbytes : N' * componentBytes ty ≤ 536870912) (hcells : cells + 1 ≤ R.cells) (hslots : slots + N' ≤ R.slots) (d : decode cc pc = .ok (.newarray atype, 2))
    (kk : ∀ q : Nat, YW p l e R s m args below meth c D Q base nL (pc + 2) Lv (.ref q :: st) ((q, .inl (g, a0)) :: W) (cells + 1) (slots + N')) : YW p l e R s m args below meth c D Q base nL pc Lv (.int n :: st) W cells slots := by
  intro H locs ls hP hD hS hl'
  refine va_newa (rest := st) hX.1.1 hX.1.2.1 (hX.1.2.2.2.2 _ (xgood1 harr)) hty hX.2.1 hP hD hS (fun q hq => Nat.le_trans hX.2.2.1 hq) ha hn hN hbytes hcells hslots d (fun q cA H1 hK1 hP1 hD1 hS1 => ?_)
  have e : cA = g := va_RA_inj (hK1.2 7 (cA, ty) rfl).2 (hX.2.1.2 t0 _ ht).2
  subst e
  exact kk q H1 locs ls (va_P_perm (List.perm_append_singleton _ _) hP1) (va_D_perm (List.perm_append_singleton _ _) hD1) hS1 hl'
theorem y_newq {C : String} {t0 N' index : Nat} {g : ClassId} {n : Int32} (ht : (xtys G)[t0]? = some (g, .object C)) (hX : YX p s m args meth c D G base cc nL own (q0 :: xT)) (hcl : Cond.classLink own index C ∈ xT) (hover : va_AO C s) (hn : ¬ n < 0) (hN : n.toNatClampNeg = N') (hbytes : N' * 4 ≤ 536870912) (hcells : cells + 1 ≤ R.cells) (hslots : slots + N' ≤ R.slots) (d : decode cc pc = .ok (.anewarray index, 3))
    (kk : ∀ q : Nat, YW p l e R s m args below meth c D Q base nL (pc + 3) Lv (.ref q :: st) ((q, .inl (g, N', .inr (.inr (.inr (.inr (fun _ => none)))))) :: W) (cells + 1) (slots + N')) : YW p l e R s m args below meth c D Q base nL pc Lv (.int n :: st) W cells slots := by
  intro H locs ls hP hD hS hl'
  refine va_newq (rest := st) hX.1.1 hX.1.2.1 hX.1.2.2.2.1 (hX.1.2.2.2.2 _ (xgood1 hcl)) hover hX.2.1 hP hD hS (fun q hq => Nat.le_trans hX.2.2.1 hq) hn hN hbytes hcells hslots d (fun q cA H1 hK1 hP1 hD1 hS1 => ?_)
  have e : cA = g := va_RA_inj (hK1.2 7 (cA, .object C) rfl).2 (hX.2.1.2 t0 _ ht).2
  subst e
  exact kk q H1 locs ls (va_P_perm (List.perm_append_singleton _ _) hP1) (va_D_perm (List.perm_append_singleton _ _) hD1) hS1 hl'
theorem y_aast {a v n ci t0 : Nat} {g : ClassId} {r : vw_C} {vs : List Value} {f : Nat → Option Nat} {i : Int32} (ht : (xtys G)[t0]? = some (g, .object r.1)) (hc : vwCl[ci]? = some r) (hX : YX p s m args meth c D G base cc nL own (q0 :: xT)) (hin : vp_in i n) (d : decode cc pc = .ok (.aastore, 1))
    (kk : YW p l e R s m args below meth c D Q base nL (pc + 1) Lv st ((a, .inl (g, n, .inr (.inr (.inr (.inr (va_up f i.toNatClampNeg (some v))))))) :: (v, .inr (ci, vs)) :: W) cells slots) : YW p l e R s m args below meth c D Q base nL pc Lv (.ref v :: .int i :: .ref a :: st) ((a, .inl (g, n, .inr (.inr (.inr (.inr f))))) :: (v, .inr (ci, vs)) :: W) cells slots := by
  intro H locs ls hP hD hS hl'
  exact va_astq (rest := st) hX.1.1 hX.1.2.1 hX.2.1 hP hD hS 0 t0 1 ci rfl ht rfl hc hin d (fun H1 locs1 hP1 hD1 hS1 => kk H1 locs1 ls hP1 hD1 hS1 hl')
theorem y_iast {a n : Nat} {f : Nat → Int32} {i x : Int32} (hX : YX p s m args meth c D G base cc nL own (q0 :: xT)) (hin : vp_in i n) (d : decode cc pc = .ok (.iastore, 1))
    (kk : YW p l e R s m args below meth c D Q base nL (pc + 1) Lv st ((a, .inl (G 0, n, .inl (upd f i.toNatClampNeg x))) :: W) cells slots) : YW p l e R s m args below meth c D Q base nL pc Lv (.int x :: .int i :: .ref a :: st) ((a, .inl (G 0, n, .inl f)) :: W) cells slots := by
  intro H locs ls hP hD hS hl'
  exact va_iast (rest := st) hX.1.1 hX.1.2.1 hX.2.1 hP hD hS 0 0 rfl rfl hin d (fun H1 locs1 hP1 hD1 hS1 => kk H1 locs1 ls hP1 hD1 hS1 hl')
end
/-- what a constructor may know besides -/
def YS (S : (Nat → ClassId) → Nat → State → Prop) : Prop := (∀ (G : Nat → ClassId) (base : Nat) (u U : State), base ≤ u.heap.size → u.WarmedH U.vm → (∀ q, q < base → U.heap[q]? = u.heap[q]?) → S G base u → S G base U) ∧ ∀ (G : Nat → ClassId) (base : Nat) (u U : State), u.vm = U.vm → U.heap = u.heap → S G base u → S G base U
def YB {S : (Nat → ClassId) → Nat → State → Prop} (D : va_G) (G : Nat → ClassId) (base sz : Nat) (w : va_W) : State → Prop := fun U => U.heap.size = sz ∧ base ≤ U.heap.size ∧ va_K D vwCl (xtys G) U ∧ S G base U ∧ va_P D vwCl w U.heap ∧ va_D (yA base) w
def YQ {β : Type} (D : va_G) (base : Nat) (w : β → va_W) : Array Value → State → Outcome → State → Prop := fun _ st o t => (o = .returned none ∧ ∃ x : β, va_P D vwCl (w x) t.heap ∧ va_D (yA base) (w x)) ∧ va_F (yA base) st t
def XKc {β : Type} (y : MethodName) (ws : List Cond) (rm : Room) (ci : Nat) (fs : List Value) (S : (Nat → ClassId) → Nat → State → Prop) (blk : (Nat → ClassId) → Nat → β → va_W) : Prop :=
  ∀ (l : Launch) (D : va_G) (G : Nat → ClassId) (base q sz : Nat) (W : va_W), Met l y ws rm (va_Pc [.ref q] (YB (S := S) D G base sz ((q, .inr (ci, fs)) :: W))) (YQ (β := β) D base (fun x => blk G q x ++ W)) rm.cells rm.slots (yA base)
theorem YB_blind {S : (Nat → ClassId) → Nat → State → Prop} (hS : YS S) (D : va_G) (G : Nat → ClassId) (base sz q : Nat) (w : va_W) : FrameBlind (va_Pc [.ref q] (YB (S := S) D G base sz w)) := by
  intro a U g mk h
  obtain ⟨h0, h1, h2, h3, h4, h5, h6⟩ := h
  exact ⟨h0, h1, h2, va_K.moved (u := U) (U := U.calling g mk a) (Vm.Alike.refl U.vm) h3, hS.2 G base U (U.calling g mk a) rfl rfl h4, h5, h6⟩
section
variable {p : Program} {l : Launch} {e : Env} {R : Room} {s : State} {m : MethodId} {args : Array Value} {below : List Frame} {meth : Method} {c : Code} {D : va_G} {G : Nat → ClassId} {Q : State → Prop} {base nL pc : Nat} {Lv : List (Nat × Value)} {st : List Value} {W : va_W} {cells slots : Nat} {cc : ByteArray} {own : String} {q0 : Cond}
theorem y_call {β : Type} {S : (Nat → ClassId) → Nat → State → Prop} {y : MethodName} {cb : ByteArray} {mL ci index a : Nat} {rm : Room} {fs : List Value} {blk : (Nat → ClassId) → Nat → β → va_W} (hM : XKc y (Cond.code y cb mL none :: xT) rm ci fs S blk) (hS : YS S) (hSs : S G base s) (hX : YX p s m args meth c D G base cc nL own (q0 :: xT))
    (hw : Cond.methodLink own index y ∈ xT ∧ Cond.instanceMethod y ∈ xT ∧ Cond.initialized y.cls ∈ xT ∧ Cond.code y cb mL none ∈ xT) (hy : y.name = "<init>") (hd : y.cls ≠ "java/lang/invoke/MethodHandle" ∧ y.cls ≠ "java/lang/invoke/VarHandle" ∧ (parseMethodDescriptor y.desc).map (fun d => d.parameters.length) = some 0) (hR : rm.frames + 1 ≤ R.frames ∧ 8 + (mL + 11) + rm.locals ≤ R.locals) (hcells : cells + rm.cells ≤ R.cells) (hslots : slots + rm.slots ≤ R.slots) (hst : (st.map fun v => v.category).sum ≤ 8) (d : decode cc pc = .ok (.invokespecial index, 3))
    (kk : ∀ x : β, YW p l e R s m args below meth c D Q base nL (pc + 3) Lv st (blk G a x ++ W) (cells + rm.cells) (slots + rm.slots)) : YW p l e R s m args below meth c D Q base nL pc Lv (.ref a :: st) ((a, .inr (ci, fs)) :: W) cells slots := by
  intro H locs ls hP hD hS' hl
  have hMet := hM l D G base a H.size W
  have hcw := cwI (R := R) (s := s) (args := args) (own := own) (index := index) (Ts := q0 :: xT) (ws := Cond.code y cb mL none :: xT) (ws' := xT) (rm := rm) (mc := rm.cells) (ms := rm.slots) 0 hX.1.2.2.2.2 (xgood (by
    intro w h
    rcases List.mem_cons.mp h with rfl | h
    · exact hw.2.2.2
    · exact h)) rfl rfl rfl (hX.1.2.2.2.2 _ (xgood1 hw.2.2.1)) (hX.1.2.2.2.2 _ (xgood1 hw.1)) (hX.1.2.2.2.2 _ (xgood1 hw.2.1)) hy hd hR
  have hr := va_runI (e := e) (locs := locs) (meth := meth) (below := below) (As := []) (rest := st) (g := F0 m pc ls (.ref a :: st)) hX.1 hMet hcw ⟨YB_blind hS D G base H.size a _, fun U hU hW => ⟨rfl, by rw [hU], by rw [hU]; exact Nat.le_trans hX.2.2.1 hS'.1, va_K.moved hW.alike hX.2.1, hS.1 G base s U hX.2.2.1 hW (fun q hq => by rw [hU]; exact hS'.2.1 q (Nat.lt_of_lt_of_le hq hX.2.2.1) (fun z => absurd hq (Nat.not_lt.mpr z))) hSs, by rw [hU]; exact hP, hD⟩⟩ rfl rfl hl.1 rfl (lv_room hst) d ⟨hcells, hslots⟩
  intro T hT X
  obtain ⟨v, st₀, t, T', L2, h0, X', hL, e1, e2, ⟨⟨hv, x, hP1, hD1⟩, hz, hq⟩, stp⟩ := hr T hT X
  cases hv
  rw [h0] at hz hq
  have hS1 : va_S (yA base) s.heap T'.heap (locs ++ L2) := ⟨Nat.le_trans hS'.1 (by rw [e1]; exact hz), fun q h1 h2 => by
      rw [e1, hq q (Nat.lt_of_lt_of_le h1 hS'.1) h2]
      exact hS'.2.1 q h1 h2, fun q hq => by
      rcases List.mem_append.mp hq with h | h
      · exact hS'.2.2 q h
      · exact hL q h⟩
  obtain ⟨t2, a1, b1⟩ := kk x T'.heap (locs ++ L2) ls (by rw [e1]; exact hP1) hD1 hS1 hl T' rfl X'
  exact ⟨t2, stp t2 a1, b1⟩
theorem y_callN {β : Type} {S : (Nat → ClassId) → Nat → State → Prop} {y : MethodName} {cb : ByteArray} {mL ci index a : Nat} {rm : Room} {fs : List Value} {blk : (Nat → ClassId) → Nat → β → va_W} (hM : XKc y (Cond.code y cb mL none :: xT) rm ci fs S blk) (hS : YS S) (hSs : S G base s) (hX : YX p s m args meth c D G base cc nL own (q0 :: xT))
    (hw : va_Nw (.methodLinkNest own index y "UnitKitchens") s ∧ Cond.instanceMethod y ∈ xT ∧ Cond.initialized y.cls ∈ xT ∧ Cond.code y cb mL none ∈ xT) (hy : y.name = "<init>") (hd : y.cls ≠ "java/lang/invoke/MethodHandle" ∧ y.cls ≠ "java/lang/invoke/VarHandle" ∧ (parseMethodDescriptor y.desc).map (fun d => d.parameters.length) = some 0) (hR : rm.frames + 1 ≤ R.frames ∧ 8 + (mL + 11) + rm.locals ≤ R.locals) (hcells : cells + rm.cells ≤ R.cells) (hslots : slots + rm.slots ≤ R.slots) (hst : (st.map fun v => v.category).sum ≤ 8) (d : decode cc pc = .ok (.invokespecial index, 3))
    (kk : ∀ x : β, YW p l e R s m args below meth c D Q base nL (pc + 3) Lv st (blk G a x ++ W) (cells + rm.cells) (slots + rm.slots)) : YW p l e R s m args below meth c D Q base nL pc Lv (.ref a :: st) ((a, .inr (ci, fs)) :: W) cells slots := by
  intro H locs ls hP hD hS' hl
  have hMet := hM l D G base a H.size W
  have hcw := va_cnB (R := R) (s := s) (args := args) (own := own) (host := "UnitKitchens") (index := index) (Ts := q0 :: xT) (ws := Cond.code y cb mL none :: xT) (ws' := xT) (rm := rm) (mc := rm.cells) (ms := rm.slots) 0 hX.1.2.2.2.2 (xgood (by
    intro w h
    rcases List.mem_cons.mp h with rfl | h
    · exact hw.2.2.2
    · exact h)) rfl rfl rfl hw.1 (hX.1.2.2.2.2 _ (xgood1 hw.2.2.1)) hd hR
  have hr := va_runIN (e := e) (locs := locs) (meth := meth) (below := below) (As := []) (rest := st) (g := F0 m pc ls (.ref a :: st)) hX.1 hMet ⟨hcw, hy, hX.1.2.2.2.2 _ (xgood1 hw.2.1)⟩ ⟨YB_blind hS D G base H.size a _, fun U hU hW => ⟨rfl, by rw [hU], by rw [hU]; exact Nat.le_trans hX.2.2.1 hS'.1, va_K.moved hW.alike hX.2.1, hS.1 G base s U hX.2.2.1 hW (fun q hq => by rw [hU]; exact hS'.2.1 q (Nat.lt_of_lt_of_le hq hX.2.2.1) (fun z => absurd hq (Nat.not_lt.mpr z))) hSs, by rw [hU]; exact hP, hD⟩⟩ rfl rfl hl.1 rfl (lv_room hst) d ⟨hcells, hslots⟩
  intro T hT X
  obtain ⟨v, st₀, t, T', L2, h0, X', hL, e1, e2, ⟨⟨hv, x, hP1, hD1⟩, hz, hq⟩, stp⟩ := hr T hT X
  cases hv
  rw [h0] at hz hq
  have hS1 : va_S (yA base) s.heap T'.heap (locs ++ L2) := ⟨Nat.le_trans hS'.1 (by rw [e1]; exact hz), fun q h1 h2 => by
      rw [e1, hq q (Nat.lt_of_lt_of_le h1 hS'.1) h2]
      exact hS'.2.1 q h1 h2, fun q hq => by
      rcases List.mem_append.mp hq with h | h
      · exact hS'.2.2 q h
      · exact hL q h⟩
  obtain ⟨t2, a1, b1⟩ := kk x T'.heap (locs ++ L2) ls (by rw [e1]; exact hP1) hD1 hS1 hl T' rfl X'
  exact ⟨t2, stp t2 a1, b1⟩
end
/-- a constructor's contract out of its walk -/
theorem XKc.of {β : Type} {S : (Nat → ClassId) → Nat → State → Prop} {y : MethodName} {cb : ByteArray} {mL ci : Nat} {rm : Room} {fs : List Value} {blk : (Nat → ClassId) → Nat → β → va_W} (hy : plainName y.cls = true) (hi : y.name = "<init>") (h1 : 1 ≤ mL)
    (body : ∀ (p : Program) (l : Launch) (e : Env) (s : State) (m : MethodId) (args : Array Value) (below : List Frame) (meth : Method) (c : Code) (D : va_G) (G : Nat → ClassId) (base q : Nat) (W : va_W), YX p s m args meth c D G base cb mL y.cls (Cond.code y cb mL none :: xT) → S G base s →
      (∀ (Lv : List (Nat × Value)) (pc : Nat) (x : β), decode cb pc = .ok (.return_, 1) → YW p l e rm s m args below meth c D (MQ below (YQ (β := β) D base (fun x => blk G q x ++ W)) args s rm.cells rm.slots (yA base)) base mL pc Lv [] (blk G q x ++ W) rm.cells rm.slots) →
      YW p l e rm s m args below meth c D (MQ below (YQ (β := β) D base (fun x => blk G q x ++ W)) args s rm.cells rm.slots (yA base)) base mL 0 [(0, .ref q)] [] ((q, .inr (ci, fs)) :: W) 0 0) : XKc y (Cond.code y cb mL none :: xT) rm ci fs S blk := by
  intro l D G base q sz Wr
  refine Met.ofW (cc := cb) (maxL := mL) (ret := none) hy rfl ?_
  intro p e s m args below meth c s₁ B hml hv
  obtain ⟨rfl, rfl, hb, hK, hSs, hP, hD⟩ := hv
  have hX : YX p s m ([Value.ref q] : List Value).toArray meth c D G base cb mL y.cls (Cond.code y cb mL none :: xT) := ⟨⟨B.exec, B.bytes, hml, findClass_of_methodNamed B.named, atoms_spec (ws := Cond.code y cb mL none :: xT) B.pre⟩, hK, hb, (name_of_methodNamed B.named B.method).1.trans hi⟩
  have hl := lv_entry ([.ref q]) (n := mL) h1
  rw [lg_entry_eq]
  refine body p l e s m _ below meth c D G base q Wr hX hSs (fun Lv pc x d => ?_) s.heap [] _ hP hD va_S.rf hl
  intro H locs ls hP1 hD1 hS1 hl1
  exact W.vret hX.1.1 hX.1.2.1 B.returns (fun t ht hW => ⟨⟨rfl, x, by rw [ht]; exact hP1, hD1⟩, hS1.F ht⟩) hS1.2.2 d B.notSynchronized
/-- what the constructors know besides: names of private members of the nest, the first settings, the classes of rows -/
def ynl : List (String × Nat × MethodName) := [("UnitKitchens$Film", 47, yX1_init), ("UnitKitchens$Kitchen", 21, yX3_init), ("UnitKitchens$Film", 48, yX2_init), ("UnitKitchens$Lorry", 20, yX3_init), ("UnitKitchens$Film", 49, yX6_init), ("UnitKitchens", 32, yX5_init)]
def S1 (G : Nat → ClassId) (base : Nat) (U : State) : Prop :=
  (∀ q ∈ ynl, va_Nw (.methodLinkNest q.1 q.2.1 q.2.2 "UnitKitchens") U) ∧ va_Nw (.fieldLinkNest "UnitKitchens$Film" 9 "UnitKitchens" "FIRST_SETTING" "[I" "UnitKitchens") U ∧ va_Nw (.castable "[I" "java/lang/Cloneable") U ∧
  (∀ C ∈ ["UnitKitchens$Kitchen", "UnitKitchens$Lorry", "UnitKitchens$Unit", "UnitKitchens$Film"], va_AO C U) ∧
  ∃ (r0 : Nat) (cell : Cell), r0 < base ∧ va_Z "UnitKitchens" "FIRST_SETTING" "[I" (.ref r0) (yA base) U U.heap ∧ U.heap[r0]? = some cell ∧ cell.cls = G 0 ∧ cell.vm ≠ .unknown ∧ (∀ k, cell.vm ≠ .statics k) ∧ cell.slots = Array.ofFn (n := 6) (fun j => Value.int (Int32.ofInt ((xst 34).getD j.val 0)))
theorem YS1 : YS S1 := by
  refine ⟨fun G base u U hb hW hq h => ?_, fun G base u U hv hh h => ?_⟩
  · obtain ⟨h1, h2, h3, h4, r0, cell, hr, h5, h6, h7⟩ := h
    refine ⟨fun q hq => va_Nw.warmM hW (h1 q hq), va_Nw.warmF hW h2, va_Nw.warmC hW h3, fun C hC => (h4 C hC).moved hW.alike, r0, cell, hr, ?_, by rw [hq r0 hr]; exact h6, h7⟩
    exact (va_Z.moved hW.alike h5).kept (fun a _ ha => hq a (Nat.not_le.mp ha))
  · obtain ⟨h1, h2, h3, h4, r0, cell, hr, h5, h6, h7⟩ := h
    have hal : u.vm.Alike U.vm := hv ▸ Vm.Alike.refl u.vm
    refine ⟨fun q hq => va_Nw.same rfl hv (h1 q hq), va_Nw.same rfl hv h2, va_Nw.same rfl hv h3, fun C hC => (h4 C hC).moved hal, r0, cell, hr, ?_, by rw [hh]; exact h6, h7⟩
    rw [hh]
    exact va_Z.moved hal h5
end XKb
