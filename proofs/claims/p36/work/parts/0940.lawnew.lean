section XKg
/-! the same steps in the law's own frame -/
def YX0 (p : Program) (s : State) (m : MethodId) (args : Array Value) (c : Code) (D : va_G) (G : Nat → ClassId) (base : Nat) (cc : ByteArray) (nL : Nat) (own : String) (Ts : List Cond) : Prop :=
  (p.tables.exec = Jvm.exec ∧ c.code = cc ∧ c.maxLocals = nL ∧ s.vm.findClass own = some m.cls ∧ ∀ w ∈ Ts, w.before args s = true) ∧ va_K D vwCl (xtys G) s ∧ base ≤ s.heap.size
section
variable {p : Program} {l : Launch} {e : Env} {R : Room} {s : State} {m : MethodId} {args : Array Value} {below : List Frame} {meth : Method} {c : Code} {D : va_G} {G : Nat → ClassId} {Q : State → Prop} {base nL pc : Nat} {Lv : List (Nat × Value)} {st : List Value} {W ws : va_W} {cells slots : Nat} {cc : ByteArray} {own : String} {q0 : Cond} {Ts : List Cond}
theorem y_icL {n : Int} (hX : YX0 p s m args c D G base cc nL own Ts) (d : decode cc pc = .ok (.iconst n, 1)) (k : YW p l e R s m args below meth c D Q base nL (pc + 1) Lv (.int (Int32.ofInt n) :: st) ws cells slots) : YW p l e R s m args below meth c D Q base nL pc Lv st ws cells slots :=
  fun H locs ls hP hD hS hl => lv_iconst hX.1.1 hX.1.2.1 d rfl (k H locs ls hP hD hS hl)
theorem y_dupL {a : Nat} (hX : YX0 p s m args c D G base cc nL own Ts) (d : decode cc pc = .ok (.dup, 1)) (k : YW p l e R s m args below meth c D Q base nL (pc + 1) Lv (.ref a :: .ref a :: st) ws cells slots) : YW p l e R s m args below meth c D Q base nL pc Lv (.ref a :: st) ws cells slots :=
  fun H locs ls hP hD hS hl => lv_dup hX.1.1 hX.1.2.1 d rfl (k H locs ls hP hD hS hl)
theorem y_newL {C : String} {T : u_T} {N ci index : Nat} {ty : Nat → FieldType} {fs : List Value} (hc : YC C T N ty ci) (hX : YX0 p s m args c D G base cc nL own (q0 :: xT)) (hcl : Cond.classLink own index C ∈ xT) (hinst : Cond.instantiable C N ∈ xT) (hini : Cond.initialized C ∈ xT) (hfs : ∀ j, j < N → defaultValue (ty j) = vp_V fs j) (hcells : cells + 1 ≤ R.cells) (hslots : slots + N ≤ R.slots) (d : decode cc pc = .ok (.new index, 3))
    (kk : ∀ q : Nat, YW p l e R s m args below meth c D Q base nL (pc + 3) Lv (.ref q :: st) ((q, .inr (ci, fs)) :: W) (cells + 1) (slots + N)) : YW p l e R s m args below meth c D Q base nL pc Lv st W cells slots := by
  intro H locs ls hP hD hS hl'
  exact va_new (rest := st) hX.1.1 hX.1.2.1 hX.1.2.2.2.2 (fun w h => xgood1 (hc.2.1 w h)) ty hc.2.2.1 hX.1.2.2.2.1 (hX.1.2.2.2.2 _ (xgood1 hcl)) (hX.1.2.2.2.2 _ (xgood1 hinst)) (hX.1.2.2.2.2 _ (xgood1 hini)) hX.2.1 hP hD hS (fun q hq => Nat.le_trans hX.2.2 hq) hc.1 hfs hcells hslots d (fun q H1 hP1 hD1 hS1 => kk q H1 locs ls (va_P_perm (List.perm_append_singleton _ _) hP1) (va_D_perm (List.perm_append_singleton _ _) hD1) hS1 hl')
theorem y_newaL {atype : ArrayType} {ty : FieldType} {t0 N' : Nat} {g : ClassId} {n : Int32} {a0 : vp_A} (hty : newarray.typeOf atype = ty) (ht : (xtys G)[t0]? = some (g, ty)) (hX : YX0 p s m args c D G base cc nL own (q0 :: xT)) (harr : Cond.arrayClass (newarray.typeOf atype) ∈ xT) (ha : ∀ cA : ClassId, vp_cell cA a0 = arrV cA N' (fun _ => defaultValue ty)) (hn : ¬ n < 0) (hN : n.toNatClampNeg = N') (hbytes : N' * componentBytes ty ≤ 536870912) (hcells : cells + 1 ≤ R.cells) (hslots : slots + N' ≤ R.slots) (d : decode cc pc = .ok (.newarray atype, 2))
    (kk : ∀ q : Nat, YW p l e R s m args below meth c D Q base nL (pc + 2) Lv (.ref q :: st) ((q, .inl (g, a0)) :: W) (cells + 1) (slots + N')) : YW p l e R s m args below meth c D Q base nL pc Lv (.int n :: st) W cells slots := by
  intro H locs ls hP hD hS hl'
  refine va_newa (rest := st) hX.1.1 hX.1.2.1 (hX.1.2.2.2.2 _ (xgood1 harr)) hty hX.2.1 hP hD hS (fun q hq => Nat.le_trans hX.2.2 hq) ha hn hN hbytes hcells hslots d (fun q cA H1 hK1 hP1 hD1 hS1 => ?_)
  have e : cA = g := va_RA_inj (hK1.2 7 (cA, ty) rfl).2 (hX.2.1.2 t0 _ ht).2
  subst e
  exact kk q H1 locs ls (va_P_perm (List.perm_append_singleton _ _) hP1) (va_D_perm (List.perm_append_singleton _ _) hD1) hS1 hl'
theorem y_callL {β : Type} {S : (Nat → ClassId) → Nat → State → Prop} {y : MethodName} {cb : ByteArray} {mL ci index a : Nat} {rm : Room} {fs : List Value} {blk : (Nat → ClassId) → Nat → β → va_W} (hM : XKc y (Cond.code y cb mL none :: xT) rm ci fs S blk) (hS : YS S) (hSs : S G base s) (hX : YX0 p s m args c D G base cc nL own (q0 :: xT))
    (hw : Cond.methodLink own index y ∈ xT ∧ Cond.instanceMethod y ∈ xT ∧ Cond.initialized y.cls ∈ xT ∧ Cond.code y cb mL none ∈ xT) (hy : y.name = "<init>") (hd : y.cls ≠ "java/lang/invoke/MethodHandle" ∧ y.cls ≠ "java/lang/invoke/VarHandle" ∧ (parseMethodDescriptor y.desc).map (fun d => d.parameters.length) = some 0) (hR : rm.frames + 1 ≤ R.frames ∧ 8 + (mL + 11) + rm.locals ≤ R.locals) (hcells : cells + rm.cells ≤ R.cells) (hslots : slots + rm.slots ≤ R.slots) (hst : (st.map fun v => v.category).sum ≤ 8) (d : decode cc pc = .ok (.invokespecial index, 3))
    (kk : ∀ x : β, YW p l e R s m args below meth c D Q base nL (pc + 3) Lv st (blk G a x ++ W) (cells + rm.cells) (slots + rm.slots)) : YW p l e R s m args below meth c D Q base nL pc Lv (.ref a :: st) ((a, .inr (ci, fs)) :: W) cells slots := by
  intro H locs ls hP hD hS' hl
  have hMet := hM l D G base a H.size W
  have hcw := cwI (R := R) (s := s) (args := args) (own := own) (index := index) (Ts := q0 :: xT) (ws := Cond.code y cb mL none :: xT) (ws' := xT) (rm := rm) (mc := rm.cells) (ms := rm.slots) 0 hX.1.2.2.2.2 (xgood (by
    intro w h
    rcases List.mem_cons.mp h with rfl | h
    · exact hw.2.2.2
    · exact h)) rfl rfl rfl (hX.1.2.2.2.2 _ (xgood1 hw.2.2.1)) (hX.1.2.2.2.2 _ (xgood1 hw.1)) (hX.1.2.2.2.2 _ (xgood1 hw.2.1)) hy hd hR
  have hr := va_runI (e := e) (locs := locs) (meth := meth) (below := below) (As := []) (rest := st) (g := F0 m pc ls (.ref a :: st)) hX.1 hMet hcw ⟨YB_blind hS D G base H.size a _, fun U hU hW => ⟨rfl, by rw [hU], by rw [hU]; exact Nat.le_trans hX.2.2 hS'.1, va_K.moved hW.alike hX.2.1, hS.1 G base s U hX.2.2 hW (fun q hq => by rw [hU]; exact hS'.2.1 q (Nat.lt_of_lt_of_le hq hX.2.2) (fun z => absurd hq (Nat.not_lt.mpr z))) hSs, by rw [hU]; exact hP, hD⟩⟩ rfl rfl hl.1 rfl (lv_room hst) d ⟨hcells, hslots⟩
  intro T hT X
  obtain ⟨v, st₀, t, T', L2, h0, X', hL, e1, e2, ⟨⟨hv, x, hP1, hD1⟩, hz, hq⟩, stp⟩ := hr T hT X
  cases hv
  rw [h0] at hz hq
  have hS1 : va_S (yA base) s.heap T'.heap (locs ++ L2) := ⟨Nat.le_trans hS'.1 (by rw [e1]; exact hz), fun q h1 h2 => by
      rw [e1, hq q (Nat.lt_of_lt_of_le h1 hS'.1) h2]
      exact hS'.2.1 q h1 h2, fun q hq => by
      rcases List.mem_append.mp hq with h | h
      · exact hS'.2.2 q h
      · exact hL q h⟩
  obtain ⟨t2, a1, b1⟩ := kk x T'.heap (locs ++ L2) ls (by rw [e1]; exact hP1) hD1 hS1 hl T' rfl X'
  exact ⟨t2, stp t2 a1, b1⟩
end
end XKg
