section XKa
/-! constructors: a world that grows -/
theorem va_P_iff {D : va_G} {cl : List vw_C} {ws : va_W} {H : Heap} : va_P D cl ws H ↔ ∀ q ∈ ws, va_at D cl q H := ⟨fun h q hq => (List.getElem?_of_mem hq).elim fun k hk => h k q hk, fun h _ q hk => h q (List.mem_of_getElem? hk)⟩
theorem va_D_iff {A : Nat → Prop} {ws : va_W} : va_D A ws ↔ ws.Pairwise (fun p q => p.1 ≠ q.1) ∧ ∀ q ∈ ws, A q.1 := by
  constructor
  · intro h
    refine ⟨List.pairwise_iff_getElem.mpr (fun i j hi hj hij e => ?_), fun q hq => (List.getElem?_of_mem hq).elim fun k hk => h.2 k q hk⟩
    have := h.1 i j _ _ (List.getElem?_eq_getElem hi) (List.getElem?_eq_getElem hj) e
    omega
  · rintro ⟨h1, h2⟩
    refine ⟨fun i j p q hi hj e => ?_, fun k q hk => h2 q (List.mem_of_getElem? hk)⟩
    obtain ⟨hi', rfl⟩ := List.getElem?_eq_some_iff.mp hi
    obtain ⟨hj', rfl⟩ := List.getElem?_eq_some_iff.mp hj
    have g := List.pairwise_iff_getElem.mp h1
    rcases Nat.lt_trichotomy i j with z | z | z
    · exact absurd e (g i j hi' hj' z)
    · exact z
    · exact absurd e.symm (g j i hj' hi' z)
theorem va_P_perm {D : va_G} {cl : List vw_C} {ws ws' : va_W} {H : Heap} (p : ws.Perm ws') (h : va_P D cl ws H) : va_P D cl ws' H := va_P_iff.mpr fun q hq => va_P_iff.mp h q (p.mem_iff.mpr hq)
theorem va_D_perm {A : Nat → Prop} {ws ws' : va_W} (p : ws.Perm ws') (h : va_D A ws) : va_D A ws' := by
  obtain ⟨h1, h2⟩ := va_D_iff.mp h
  exact va_D_iff.mpr ⟨(List.Perm.pairwise_iff (fun h => Ne.symm h) p).mp h1, fun q hq => h2 q (p.mem_iff.mpr hq)⟩
def yA (base : Nat) : Nat → Prop := fun z => base ≤ z
def YX (p : Program) (s : State) (m : MethodId) (args : Array Value) (meth : Method) (c : Code) (D : va_G) (G : Nat → ClassId) (base : Nat) (cc : ByteArray) (nL : Nat) (own : String) (Ts : List Cond) : Prop :=
  (p.tables.exec = Jvm.exec ∧ c.code = cc ∧ c.maxLocals = nL ∧ s.vm.findClass own = some m.cls ∧ ∀ w ∈ Ts, w.before args s = true) ∧ va_K D vwCl (xtys G) s ∧ base ≤ s.heap.size ∧ meth.name = "<init>"
section
variable (p : Program) (l : Launch) (e : Env) (R : Room) (s : State) (m : MethodId) (args : Array Value) (below : List Frame) (meth : Method) (c : Code) (D : va_G) (Q : State → Prop) (base nL : Nat)
/-- at a place of a constructor: the locals, the stack, the world, the room used -/
def YW (pc : Nat) (Lv : List (Nat × Value)) (st : List Value) (ws : va_W) (cells slots : Nat) : Prop :=
  ∀ (H : Heap) (locs : List Loc) (ls : Array Slot), va_P D vwCl ws H → va_D (yA base) ws → va_S (yA base) s.heap H locs → lv_has ls nL Lv → W p l e R s m args below meth c H locs cells slots Q (F0 m pc ls st)
end
section
variable {p : Program} {l : Launch} {e : Env} {R : Room} {s : State} {m : MethodId} {args : Array Value} {below : List Frame} {meth : Method} {c : Code} {D : va_G} {G : Nat → ClassId} {Q : State → Prop} {base nL pc : Nat} {Lv : List (Nat × Value)} {st : List Value} {ws : va_W} {cells slots : Nat} {cc : ByteArray} {own : String} {Ts : List Cond}
theorem y_perm {ws' : va_W} (h : ws.Perm ws') (k : YW p l e R s m args below meth c D Q base nL pc Lv st ws' cells slots) : YW p l e R s m args below meth c D Q base nL pc Lv st ws cells slots :=
  fun H locs ls hP hD hS hl => k H locs ls (va_P_perm h hP) (va_D_perm h hD) hS hl
theorem y_ald {a : Nat} {i : Fin 4} (j : Nat) (hj : Lv[j]? = some ((i : Nat), .ref a)) (hX : YX p s m args meth c D G base cc nL own Ts) (d : decode cc pc = .ok (.aload_n i, 1)) (k : YW p l e R s m args below meth c D Q base nL (pc + 1) Lv (.ref a :: st) ws cells slots) : YW p l e R s m args below meth c D Q base nL pc Lv st ws cells slots :=
  fun H locs ls hP hD hS hl => lv_aload_n hX.1.1 hX.1.2.1 d rfl (lv_at hl j hj) (k H locs ls hP hD hS hl)
theorem y_ild {a : Int32} {i : Fin 4} (j : Nat) (hj : Lv[j]? = some ((i : Nat), .int a)) (hX : YX p s m args meth c D G base cc nL own Ts) (d : decode cc pc = .ok (.iload_n i, 1)) (k : YW p l e R s m args below meth c D Q base nL (pc + 1) Lv (.int a :: st) ws cells slots) : YW p l e R s m args below meth c D Q base nL pc Lv st ws cells slots :=
  fun H locs ls hP hD hS hl => lv_iload_n hX.1.1 hX.1.2.1 d rfl (lv_at hl j hj) (k H locs ls hP hD hS hl)
theorem y_ic {n : Int} (hX : YX p s m args meth c D G base cc nL own Ts) (d : decode cc pc = .ok (.iconst n, 1)) (k : YW p l e R s m args below meth c D Q base nL (pc + 1) Lv (.int (Int32.ofInt n) :: st) ws cells slots) : YW p l e R s m args below meth c D Q base nL pc Lv st ws cells slots :=
  fun H locs ls hP hD hS hl => lv_iconst hX.1.1 hX.1.2.1 d rfl (k H locs ls hP hD hS hl)
theorem y_bi {n : Int} (hX : YX p s m args meth c D G base cc nL own Ts) (d : decode cc pc = .ok (.bipush n, 2)) (hn : (Int8.ofInt n).toInt32 = Int32.ofInt n) (k : YW p l e R s m args below meth c D Q base nL (pc + 2) Lv (.int (Int32.ofInt n) :: st) ws cells slots) : YW p l e R s m args below meth c D Q base nL pc Lv st ws cells slots :=
  fun H locs ls hP hD hS hl => lv_bipush hX.1.1 hX.1.2.1 d hn (k H locs ls hP hD hS hl)
theorem y_si {n : Int} (hX : YX p s m args meth c D G base cc nL own Ts) (d : decode cc pc = .ok (.sipush n, 3)) (hn : (Int16.ofInt n).toInt32 = Int32.ofInt n) (k : YW p l e R s m args below meth c D Q base nL (pc + 3) Lv (.int (Int32.ofInt n) :: st) ws cells slots) : YW p l e R s m args below meth c D Q base nL pc Lv st ws cells slots :=
  fun H locs ls hP hD hS hl => lv_sipush hX.1.1 hX.1.2.1 d hn (k H locs ls hP hD hS hl)
theorem y_dup {a : Nat} (hX : YX p s m args meth c D G base cc nL own Ts) (d : decode cc pc = .ok (.dup, 1)) (k : YW p l e R s m args below meth c D Q base nL (pc + 1) Lv (.ref a :: .ref a :: st) ws cells slots) : YW p l e R s m args below meth c D Q base nL pc Lv (.ref a :: st) ws cells slots :=
  fun H locs ls hP hD hS hl => lv_dup hX.1.1 hX.1.2.1 d rfl (k H locs ls hP hD hS hl)
theorem y_goto {off : Int} {t : Nat} (hX : YX p s m args meth c D G base cc nL own Ts) (d : decode cc pc = .ok (.goto off, 3)) (ht : (pc : Int) + off = (t : Int)) (k : YW p l e R s m args below meth c D Q base nL t Lv st ws cells slots) : YW p l e R s m args below meth c D Q base nL pc Lv st ws cells slots :=
  fun H locs ls hP hD hS hl => lv_goto hX.1.1 hX.1.2.1 d ht (k H locs ls hP hD hS hl)
theorem y_ge {off : Int} {t : Nat} {a b : Int32} (hX : YX p s m args meth c D G base cc nL own Ts) (d : decode cc pc = .ok (.if_icmp .ge off, 3)) (ht : (pc : Int) + off = (t : Int)) (k1 : b ≤ a → YW p l e R s m args below meth c D Q base nL t Lv st ws cells slots) (k0 : ¬ b ≤ a → YW p l e R s m args below meth c D Q base nL (pc + 3) Lv st ws cells slots) : YW p l e R s m args below meth c D Q base nL pc Lv (.int b :: .int a :: st) ws cells slots :=
  fun H locs ls hP hD hS hl => lv_icmp_ge hX.1.1 hX.1.2.1 d ht (fun z => k1 z H locs ls hP hD hS hl) (fun z => k0 z H locs ls hP hD hS hl)
theorem y_ist {a v : Int32} {o : Nat} {i : Fin 4} (hi : (i : Nat) = 1) (hX : YX p s m args meth c D G base cc nL own Ts) (hn : 1 < nL) (d : decode cc pc = .ok (.istore_n i, 1)) (hLv : Lv = [(0, .ref o)] ∨ Lv = [(0, .ref o), (1, .int a)]) (k : YW p l e R s m args below meth c D Q base nL (pc + 1) [(0, .ref o), (1, .int v)] st ws cells slots) : YW p l e R s m args below meth c D Q base nL pc Lv (.int v :: st) ws cells slots := by
  intro H locs ls hP hD hS hl
  have hl0 : lv_has ls nL [(0, .ref o)] := lv_less hl (fun q hq => by
    have e : q = (0, .ref o) := by simpa using hq
    subst e
    rcases hLv with e | e <;> rw [e] <;> simp)
  exact lv_istore_n hX.1.1 hX.1.2.1 d hi hl0 hn rfl (fun ls' hl' => k H locs ls' hP hD hS (lv_less hl' (fun q hq => by
    rcases List.mem_cons.mp hq with e | hq
    · subst e
      simp [Value.category]
    · have e : q = (1, .int v) := by simpa using hq
      subst e
      simp)))
theorem y_inc {a : Int32} {o : Nat} {n : Int} {v : Int32} (hX : YX p s m args meth c D G base cc nL own Ts) (hn : 1 < nL) (d : decode cc pc = .ok (.iinc 1 n, 3)) (hv : a + Int32.ofInt n = v) (k : YW p l e R s m args below meth c D Q base nL (pc + 3) [(0, .ref o), (1, .int v)] st ws cells slots) : YW p l e R s m args below meth c D Q base nL pc [(0, .ref o), (1, .int a)] st ws cells slots :=
  fun H locs ls hP hD hS hl => lv_iinc (v := v) hX.1.1 hX.1.2.1 d hl (x := a) (k := 1) rfl hv hn rfl (fun ls' hl' => k H locs ls' hP hD hS (lv_less hl' (fun q hq => by
    rcases List.mem_cons.mp hq with e | hq
    · subst e
      simp [Value.category]
    · have e : q = (1, .int v) := by simpa using hq
      subst e
      simp)))
theorem y_obj {a index : Nat} (hX : YX p s m args meth c D G base cc nL own Ts) (h1 : Cond.methodLink own index objectInit ∈ Ts) (h2 : Cond.instanceMethod objectInit ∈ Ts) (h3 : Cond.code objectInit ⟨#[0xb1]⟩ 1 none ∈ Ts) (hf : 1 ≤ R.frames) (hlo : 20 ≤ R.locals) (d : decode cc pc = .ok (.invokespecial index, 3)) (k : YW p l e R s m args below meth c D Q base nL (pc + 3) Lv [] ws cells slots) : YW p l e R s m args below meth c D Q base nL pc Lv [.ref a] ws cells slots := by
  intro H locs ls hP hD hS hl
  refine W.objInit hX.1.1 hX.1.2.1 hX.1.2.2.2.1 (hX.1.2.2.2.2 _ h1) (hX.1.2.2.2.2 _ h2) (hX.1.2.2.2.2 _ h3) rfl (by rw [hX.1.2.2.1]; exact hl.1) rfl d hf (Nat.le_trans (Nat.le_of_ble_eq_true rfl) hlo) ?_
  exact k H locs ls hP hD hS hl
end
end XKa
