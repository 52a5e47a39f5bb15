/-! the world: which objects there are, what each holds -/
section XL1
def xlen : Nat → Int
  | 2 => 6 | 3 => 8 | 4 => 8 | 9 => 3 | 11 => 192 | 12 => 3 | 19 => 4 | 20 => 19 | 21 => 8 | 22 => 3 | 23 => 9 | 24 => 3 | 25 => 3 | 26 => 4 | 27 => 4 | 28 => 60 | 29 => 64
  | 31 => 9 | 32 => 6 | 33 => 6 | 34 => 6 | 35 => 4 | 36 => 4
  | _ => 0
/-- what the static rows hold -/
def xst : Nat → List Int
  | 31 => [1, 1, 0, 1, 0, 1, 0, 2, 0]
  | 32 => [1, 0, 0, 5, 1, 10]
  | 33 => [50, 120, 20, 60, 20, 500]
  | 34 => [10, 15, 1, 40, 5, 120]
  | 35 => [1, 0, 1, 30]
  | 36 => [300, 300, 600, 600]
  | _ => []
def xcn (f : Int → Int) (s : Int) : Value := .int (Int32.ofInt (f s))
def xca (c : ClassId) (n : Nat) (f : Int → Int) : va_E := .inl (c, n, .inl (fun j => Int32.ofInt (f (j : Int))))
def xcq (c : ClassId) (n : Nat) (g : Int → Nat) : va_E := .inl (c, n, .inr (.inr (.inr (.inr (fun j => some (g (j : Int)))))))
def xcf (G : Nat → ClassId) (ρ : XOb → Nat) (f : Int → Int) (t : Nat) (i k : Int) : va_E :=
  match t with
  | 0 => .inr (7, [.ref (ρ (1, 0, 0)), .ref (ρ (1, 1, 0)), .ref (ρ (15, 0, 0)), .ref (ρ (17, 0, 0)), .ref (ρ (18, 0, 0)), xcn f 5])
  | 1 => .inr (0, [xcn f 0, xcn f 1, .ref (ρ (2, i, 0)), xcn f 3, .ref (ρ (3, i, 0)), .ref (ρ (4, i, 0)), xcn f 6, .ref (ρ (5, i, 0)), xcn f 8, .ref (ρ (6, i, 0)), xcn f 10, .ref (ρ (7, i, 0))])
  | 2 => xca (G 0) 6 f
  | 3 => xca (G 0) 8 f
  | 4 => xca (G 0) 8 f
  | 5 => xcq (G 3) 3 (fun j => ρ (8, i, j))
  | 6 => xcq (G 4) 4 (fun j => ρ (13, i, j))
  | 7 => xcq (G 5) 12 (fun j => ρ (14, i, j))
  | 8 => .inr (1, [xcn f 0, .ref (ρ (9, i, k)), xcn f 2, xcn f 3, .ref (ρ (10, i, k)), xcn f 5, xcn f 6])
  | 9 => xca (G 0) 3 f
  | 10 => .inr (3, [.ref (ρ (11, i, k)), .ref (ρ (12, i, k))])
  | 11 => xca (G 0) 192 f
  | 12 => xca (G 0) 3 f
  | 13 => .inr (2, [xcn f 0, xcn f 1, xcn f 2, .ref (ρ (10, i, k + 3)), xcn f 4, xcn f 5])
  | 14 => .inr (6, [xcn f 0, xcn f 1, xcn f 2, xcn f 3, xcn f 4, xcn f 5, xcn f 6, xcn f 7, xcn f 8, xcn f 9, xcn f 10, xcn f 11])
  | 15 => .inr (4, [.ref (ρ (16, 0, 0)), xcn f 1, xcn f 2])
  | 16 => xcq (G 6) 6 (fun j => ρ (1, j + 2, 0))
  | 17 => xca (G 1) 60 f
  | 18 => .inr (5, [xcn f 0, xcn f 1, .ref (ρ (19, 0, 0))])
  | 19 => xca (G 0) 4 f
  | 20 => xca (G 0) 19 f
  | 21 => xca (G 0) 8 f
  | 22 => xca (G 0) 3 f
  | 23 => xca (G 0) 9 f
  | 24 => xca (G 0) 3 f
  | 25 => xca (G 0) 3 f
  | 26 => xca (G 0) 4 f
  | 27 => xca (G 0) 4 f
  | 28 => xca (G 0) 60 f
  | _ => xca (G 0) 64 f
/-- how many there are of a tag -/
def xvi : Nat → Int
  | 0 => 1 | 1 => 8 | 2 => 8 | 3 => 8 | 4 => 8 | 5 => 8 | 6 => 8 | 7 => 8 | 8 => 8 | 9 => 8 | 10 => 8 | 11 => 8 | 12 => 8 | 13 => 8 | 14 => 8
  | 15 => 1 | 16 => 1 | 17 => 1 | 18 => 1 | 19 => 1 | 20 => 1 | 21 => 1 | 22 => 1 | 23 => 1 | 24 => 1 | 25 => 1 | 26 => 1 | 27 => 1 | 28 => 1 | 29 => 1
  | _ => 0
def xvk : Nat → Int
  | 8 => 3 | 9 => 3 | 10 => 7 | 11 => 7 | 12 => 7 | 13 => 4 | 14 => 12
  | _ => 1
def xval (t : Nat) (i k : Int) : Prop := 0 ≤ i ∧ i < xvi t ∧ 0 ≤ k ∧ k < xvk t
def xobs : List XOb := (List.range 30).flatMap fun t : Nat => (List.range (xvi t).toNat).flatMap fun i : Nat => (List.range (xvk t).toNat).map fun k : Nat => (t, Int.ofNat i, Int.ofNat k)
theorem xvi_big : ∀ {t : Nat}, 30 ≤ t → xvi t = 0
  | t, h => by
    unfold xvi
    split <;> first | omega | rfl
theorem xval_mem {t : Nat} {i k : Int} (h : xval t i k) : (t, i, k) ∈ xobs := by
  obtain ⟨h1, h2, h3, h4⟩ := h
  have ht : t < 30 := by
    rcases Nat.lt_or_ge t 30 with q | q
    · exact q
    · rw [xvi_big q] at h2
      omega
  refine List.mem_flatMap.mpr ⟨t, List.mem_range.mpr ht, List.mem_flatMap.mpr ⟨i.toNat, List.mem_range.mpr (by omega), List.mem_map.mpr ⟨k.toNat, List.mem_range.mpr (by omega), ?_⟩⟩⟩
  simp only [Int.ofNat_eq_natCast, Int.toNat_of_nonneg h1, Int.toNat_of_nonneg h3]
theorem xval_of {o : XOb} (h : o ∈ xobs) : xval o.1 o.2.1 o.2.2 := by
  obtain ⟨t, ht, h⟩ := List.mem_flatMap.mp h
  obtain ⟨i, hi, h⟩ := List.mem_flatMap.mp h
  obtain ⟨k, hk, h⟩ := List.mem_map.mp h
  subst h
  rw [List.mem_range] at hi hk
  refine ⟨?_, ?_, ?_, ?_⟩ <;> simp only [Int.ofNat_eq_natCast] <;> omega
set_option maxRecDepth 100000 in
theorem xobs_nd : xobs.Nodup := by decide +kernel
def xworld (G : Nat → ClassId) (ρ : XOb → Nat) (M : XM) : va_W := xobs.map (fun o => (ρ o, xcf G ρ (M o.1 o.2.1 o.2.2) o.1 o.2.1 o.2.2))
def xup (M : XM) (t : Nat) (i k s v : Int) : XM := fun t' i' k' s' => if t' = t ∧ i' = i ∧ k' = k ∧ s' = s then v else M t' i' k' s'
/-- a whole row copied into another one of its tag -/
def xcp (M : XM) (t : Nat) (i k i2 k2 : Int) : XM := fun t' i' k' s' => if t' = t ∧ i' = i2 ∧ k' = k2 ∧ 0 ≤ s' ∧ s' < xlen t then M t i k s' else M t' i' k' s'
def XInj (ρ : XOb → Nat) : Prop := ∀ a ∈ xobs, ∀ b ∈ xobs, ρ a = ρ b → a = b
def XA (ρ : XOb → Nat) (sz : Nat) : Nat → Prop := fun q => (∃ o ∈ xobs, q = ρ o) ∨ sz ≤ q
theorem XA_in {ρ : XOb → Nat} {sz : Nat} {o : XOb} (h : o ∈ xobs) : XA ρ sz (ρ o) := Or.inl ⟨o, h, rfl⟩
theorem XA_le {ρ : XOb → Nat} {a b : Nat} (h : a ≤ b) (q : Nat) (hq : XA ρ b q) : XA ρ a q := hq.elim Or.inl (fun z => Or.inr (Nat.le_trans h z))
theorem xw_at {t : Nat} {i k : Int} (h : xval t i k) : ∃ q0 : Nat, xobs[q0]? = some (t, i, k) := List.getElem?_of_mem (xval_mem h)
theorem xw_get {G : Nat → ClassId} {ρ : XOb → Nat} {M : XM} {q0 t : Nat} {i k : Int} (h : xobs[q0]? = some (t, i, k)) : (xworld G ρ M)[q0]? = some (ρ (t, i, k), xcf G ρ (M t i k) t i k) := by
  simp [xworld, List.getElem?_map, h]
theorem xw_set {G : Nat → ClassId} {ρ : XOb → Nat} {M M' : XM} {q0 t : Nat} {i k : Int} {e : va_E} (h : xobs[q0]? = some (t, i, k)) (he : xcf G ρ (M' t i k) t i k = e) (hM : ∀ (t' : Nat) (i' k' : Int), ¬ (t' = t ∧ i' = i ∧ k' = k) → M' t' i' k' = M t' i' k') : (xworld G ρ M).set q0 (ρ (t, i, k), e) = xworld G ρ M' := by
  have hl : q0 < xobs.length := (List.getElem?_eq_some_iff.mp h).1
  apply List.ext_getElem?
  intro j
  by_cases hj : j = q0
  · subst hj
    rw [List.getElem?_set_self (by simpa [xworld] using hl), xw_get h, he]
  · rw [List.getElem?_set_ne (Ne.symm hj)]
    simp only [xworld, List.getElem?_map]
    cases hq : xobs[j]? with
    | none => rfl
    | some o =>
      simp only [Option.map_some]
      have hn : ¬ (o.1 = t ∧ o.2.1 = i ∧ o.2.2 = k) := by
        rintro ⟨rfl, rfl, rfl⟩
        have hjl : j < xobs.length := (List.getElem?_eq_some_iff.mp hq).1
        have e1 : xobs[j] = o := (List.getElem?_eq_some_iff.mp hq).2
        have e2 : xobs[q0] = o := (List.getElem?_eq_some_iff.mp h).2
        exact hj ((List.getElem_inj xobs_nd).mp (e1.trans e2.symm))
      rw [hM _ _ _ hn]
theorem xw_D {G : Nat → ClassId} {ρ : XOb → Nat} {M : XM} {A : Nat → Prop} (hρ : XInj ρ) (hA : ∀ o ∈ xobs, A (ρ o)) : va_D A (xworld G ρ M) := by
  have key : ∀ (n : Nat) (q : Nat × va_E), (xworld G ρ M)[n]? = some q → ∃ o, xobs[n]? = some o ∧ q.1 = ρ o := by
    intro n q hq
    simp only [xworld, List.getElem?_map, Option.map_eq_some_iff] at hq
    obtain ⟨o, h1, h2⟩ := hq
    exact ⟨o, h1, by rw [← h2]⟩
  refine ⟨fun a b p q hp hq e => ?_, fun n q hq => ?_⟩
  · obtain ⟨o1, h1, e1⟩ := key a p hp
    obtain ⟨o2, h2, e2⟩ := key b q hq
    have ho : o1 = o2 := hρ o1 (List.mem_of_getElem? h1) o2 (List.mem_of_getElem? h2) (by rw [← e1, ← e2, e])
    subst ho
    obtain ⟨l1, g1⟩ := List.getElem?_eq_some_iff.mp h1
    obtain ⟨l2, g2⟩ := List.getElem?_eq_some_iff.mp h2
    exact (List.getElem_inj xobs_nd).mp (g1.trans g2.symm)
  · obtain ⟨o, h1, e1⟩ := key n q hq
    rw [e1]
    exact hA o (List.mem_of_getElem? h1)
def xtys (G : Nat → ClassId) : List (ClassId × FieldType) := [(G 0, .int), (G 1, .char), (G 2, .int), (G 3, .object "UnitKitchens$Kitchen"), (G 4, .object "UnitKitchens$Lorry"), (G 5, .object "UnitKitchens$Unit"), (G 6, .object "UnitKitchens$Film")]
/-- the static rows: class, name, tag, length -/
def xstats : List (String × String × Nat × Nat) := [("UnitKitchens", "NEEDS", 31, 9), ("UnitKitchens", "FIRST_SETTING", 34, 6)]
def XSF (ρ : XOb → Nat) (A : Nat → Prop) (U : State) (H : Heap) : Prop := ∀ q ∈ xstats, va_Z q.1 q.2.1 "[I" (.ref (ρ (q.2.2.1, 0, 0))) A U H ∧ va_T .int (ρ (q.2.2.1, 0, 0)) q.2.2.2 (fun j => .int (Int32.ofInt ((xst q.2.2.1).getD j 0))) A U H
theorem XSF.moved {ρ : XOb → Nat} {A : Nat → Prop} {u U : State} {H : Heap} (hvm : u.vm.Alike U.vm) (h : XSF ρ A u H) : XSF ρ A U H := fun q hq => ⟨va_Z.moved hvm (h q hq).1, va_T.moved hvm (h q hq).2⟩
theorem XSF.kept {ρ : XOb → Nat} {A : Nat → Prop} {U : State} {H H1 : Heap} (h : XSF ρ A U H) (hq : ∀ a : Nat, a < H.size → ¬ A a → H1[a]? = H[a]?) : XSF ρ A U H1 := fun q h1 => ⟨va_Z.kept (h q h1).1 hq, va_T.kept (h q h1).2 hq⟩
theorem XSF.narrow {ρ : XOb → Nat} {A B : Nat → Prop} {U : State} {H : Heap} (h : XSF ρ A U H) (hAB : ∀ q, B q → A q) : XSF ρ B U H := fun q h1 => ⟨va_Z.narrow (h q h1).1 hAB, va_T.narrow (h q h1).2 hAB⟩
/-- two words of private members of another class of the nest -/
def xnw1 : Cond := .methodLinkNest "UnitKitchens$Film" 196 ⟨"UnitKitchens", "dividedUp", "(II)I"⟩ "UnitKitchens"
def xnw2 : Cond := .fieldLinkNest "UnitKitchens$Kitchen" 48 "UnitKitchens" "NEEDS" "[I" "UnitKitchens"
def XNw (U : State) : Prop := va_Nw xnw1 U ∧ va_Nw xnw2 U
theorem XNw.warm {s U : State} (hW : s.WarmedH U.vm) (h : XNw s) : XNw U := ⟨va_Nw.warmM hW h.1, va_Nw.warmF hW h.2⟩
theorem XNw.same {u U : State} (hv : u.vm = U.vm) (h : XNw u) : XNw U := ⟨va_Nw.same rfl hv h.1, va_Nw.same rfl hv h.2⟩
/-- where a method begins: the world, the tables -/
def XB (D : va_G) (G : Nat → ClassId) (ρ : XOb → Nat) (sz : Nat) (M : XM) : State → Prop := fun U =>
  U.heap.size = sz ∧ va_P D vwCl (xworld G ρ M) U.heap ∧ va_K D vwCl (xtys G) U ∧ XInj ρ ∧ XSF ρ (XA ρ sz) U U.heap ∧ XNw U
def XQ (D : va_G) (G : Nat → ClassId) (ρ : XOb → Nat) (A : Nat → Prop) (Post : XPo) : Array Value → State → Outcome → State → Prop := fun _ st o t =>
  (∃ (rv : Option XV) (M' : XM), o = .returned (rv.map (xcv ρ)) ∧ Post rv.toList M' ∧ va_P D vwCl (xworld G ρ M') t.heap) ∧ va_F A st t
/-- the contract of a method that returns: from 'sp args M Post' on -/
def XCn (y : MethodName) (ws : List Cond) (rm : Room) (sp : XSp) : Prop :=
  ∀ (l : Launch) (D : va_G) (G : Nat → ClassId) (ρ : XOb → Nat) (sz : Nat) (av : List XV) (M : XM) (Post : XPo), sp av M Post →
    Met l y ws rm (va_Pc (av.map (xcv ρ)) (XB D G ρ sz M)) (XQ D G ρ (XA ρ sz) Post) 0 0 (XA ρ sz)
section
variable (p : Program) (l : Launch) (e : Env) (R : Room) (s : State) (m : MethodId) (args : Array Value) (below : List Frame) (meth : Method) (c : Code) (cells slots : Nat) (Q : State → Prop) (D : va_G) (G : Nat → ClassId) (ρ : XOb → Nat)
def XWW (nL : Nat) : XK := fun pc L st M =>
  ∀ (H : Heap) (locs : List Loc) (ls : Array Slot), va_P D vwCl (xworld G ρ M) H → va_S (XA ρ s.heap.size) s.heap H locs → lv_has ls nL (xlv ρ 0 L) →
    W p l e R s m args below meth c H locs cells slots Q (F0 m pc ls (st.map (xcv ρ)))
/-- what holds all along a method -/
def XCX (cc : ByteArray) (nL : Nat) (own : String) (Ts : List Cond) : Prop :=
  (p.tables.exec = Jvm.exec ∧ c.code = cc ∧ c.maxLocals = nL ∧ s.vm.findClass own = some m.cls ∧ ∀ w ∈ Ts, w.before args s = true) ∧
  va_K D vwCl (xtys G) s ∧ XInj ρ ∧ XSF ρ (XA ρ s.heap.size) s s.heap ∧ XNw s ∧ cells ≤ R.cells ∧ slots ≤ R.slots
/-- what a return comes to: either none comes, or it is the method's own end -/
def XRQ (ret : Option FieldType) (Post : XPo) : Prop :=
  (∀ (v : List XV) (M : XM), ¬ Post v M) ∨ (cells = 0 ∧ slots = 0 ∧ Q = MQ below (XQ D G ρ (XA ρ s.heap.size) Post) args s 0 0 (XA ρ s.heap.size) ∧ meth.sig.returnType = ret ∧ meth.locks = false)
end
/-- a step is sound at a place of a method -/
def XSnd (R : Room) (cc : ByteArray) (nL : Nat) (own : String) (Ts : List Cond) (ret : Option FieldType) (Post : XPo) (pc : Nat) (σ : XStp) : Prop :=
  ∀ (p : Program) (l : Launch) (e : Env) (s : State) (m : MethodId) (args : Array Value) (below : List Frame) (meth : Method) (c : Code) (cells slots : Nat) (Q : State → Prop) (D : va_G) (G : Nat → ClassId) (ρ : XOb → Nat),
    XCX p R s m args c cells slots D G ρ cc nL own Ts → XRQ s args below meth cells slots Q D G ρ ret Post →
    ∀ (L : XLs) (st : List XV) (M : XM) (K : XK), σ pc L st M K → (∀ pc' L' st' M', K pc' L' st' M' → XWW p l e R s m args below meth c cells slots Q D G ρ nL pc' L' st' M') →
      XWW p l e R s m args below meth c cells slots Q D G ρ nL pc L st M
/-- closed under a program's steps -/
def XCl (P : Nat → XStp) (WW : XK) : Prop :=
  (∀ (pc : Nat) (L : XLs) (st : List XV) (M : XM) (K : XK), P pc pc L st M K → (∀ pc' L' st' M', K pc' L' st' M' → WW pc' L' st' M') → WW pc L st M) ∧
  ∀ (pc : Nat) (L L' : XLs) (st : List XV) (M : XM), XLe L' L → WW pc L' st M → WW pc L st M
def xno : XStp := fun _ _ _ _ _ => False
def xlk : List (Nat × XStp) → Nat → XStp
  | [], _ => xno
  | q :: t, pc => if pc = q.1 then q.2 else xlk t pc
def XAll (R : Room) (cc : ByteArray) (nL : Nat) (own : String) (Ts : List Cond) (ret : Option FieldType) (Post : XPo) (P : List (Nat × XStp)) : Prop := ∀ q ∈ P, XSnd R cc nL own Ts ret Post q.1 q.2
theorem XAll.at {R : Room} {cc : ByteArray} {nL : Nat} {own : String} {Ts : List Cond} {ret : Option FieldType} {Post : XPo} : ∀ {P : List (Nat × XStp)}, XAll R cc nL own Ts ret Post P → ∀ pc, XSnd R cc nL own Ts ret Post pc (xlk P pc)
  | [], _, _ => fun _ _ _ _ _ _ _ _ _ _ _ _ _ _ _ _ _ _ _ _ _ h => absurd h (by simp [xlk, xno])
  | q :: t, h, pc => by
    simp only [xlk]
    split
    next e => rw [e]; exact h q List.mem_cons_self
    next => exact XAll.at (P := t) (fun q hq => h q (List.mem_cons_of_mem _ hq)) pc
theorem XAll.nil {R : Room} {cc : ByteArray} {nL : Nat} {own : String} {Ts : List Cond} {ret : Option FieldType} {Post : XPo} : XAll R cc nL own Ts ret Post [] := fun _ h => absurd h List.not_mem_nil
theorem XAll.cons {R : Room} {cc : ByteArray} {nL : Nat} {own : String} {Ts : List Cond} {ret : Option FieldType} {Post : XPo} {q : Nat × XStp} {P : List (Nat × XStp)} (h : XSnd R cc nL own Ts ret Post q.1 q.2) (t : XAll R cc nL own Ts ret Post P) : XAll R cc nL own Ts ret Post (q :: P) :=
  fun r hr => (List.mem_cons.mp hr).elim (fun e => e ▸ h) (t r)
theorem XAll.app {R : Room} {cc : ByteArray} {nL : Nat} {own : String} {Ts : List Cond} {ret : Option FieldType} {Post : XPo} {P P2 : List (Nat × XStp)} (h : XAll R cc nL own Ts ret Post P) (t : XAll R cc nL own Ts ret Post P2) : XAll R cc nL own Ts ret Post (P ++ P2) :=
  fun r hr => (List.mem_append.mp hr).elim (h r) (t r)
theorem XWW_cl {R : Room} {cc : ByteArray} {nL : Nat} {own : String} {Ts : List Cond} {ret : Option FieldType} {Post : XPo} {P : List (Nat × XStp)} (hP : XAll R cc nL own Ts ret Post P)
    {p : Program} {l : Launch} {e : Env} {s : State} {m : MethodId} {args : Array Value} {below : List Frame} {meth : Method} {c : Code} {cells slots : Nat} {Q : State → Prop} {D : va_G} {G : Nat → ClassId} {ρ : XOb → Nat}
    (hC : XCX p R s m args c cells slots D G ρ cc nL own Ts) (hR : XRQ s args below meth cells slots Q D G ρ ret Post) : XCl (xlk P) (XWW p l e R s m args below meth c cells slots Q D G ρ nL) :=
  ⟨fun pc L st M K h hk => hP.at pc p l e s m args below meth c cells slots Q D G ρ hC hR L st M K h hk,
    fun pc L L' st M hle h H locs ls hP hS hl => h H locs ls hP hS (xlv_weak hle hl)⟩
/-- a method's contract out of its steps -/
theorem XCn.of {y : MethodName} {ws ws' : List Cond} {rm : Room} {sp : XSp} {cc : ByteArray} {nL : Nat} {ret : Option FieldType} (P : XPo → List (Nat × XStp)) (hy : plainName y.cls = true) (hw : ws = Cond.code y cc nL ret :: ws')
    (hall : ∀ Post, XAll rm cc nL y.cls ws ret Post (P Post)) (hlen : ∀ av M Post, sp av M Post → (xen av).length ≤ nL)
    (body : ∀ av M Post, sp av M Post → ∀ WW : XK, XCl (xlk (P Post)) WW → WW 0 (xent nL av) [] M) : XCn y ws rm sp := by
  intro l D G ρ sz av M Post hsp
  refine Met.ofW (cc := cc) (maxL := nL) (ret := ret) hy hw ?_
  intro p e s m args below meth c s₁ B hml hv
  obtain ⟨rfl, hsz, hP, hK, hρ, hF, hN⟩ := hv
  subst hsz
  have hC : XCX p (headSpec ws rm).room s m ((av.map (xcv ρ)).toArray) c 0 0 D G ρ cc nL y.cls ws :=
    ⟨⟨B.exec, B.bytes, hml, findClass_of_methodNamed B.named, atoms_spec (ws := ws) B.pre⟩, hK, hρ, hF, hN, Nat.zero_le _, Nat.zero_le _⟩
  have hR : XRQ s ((av.map (xcv ρ)).toArray) below meth 0 0 (MQ below (XQ D G ρ (XA ρ s.heap.size) Post) ((av.map (xcv ρ)).toArray) s 0 0 (XA ρ s.heap.size)) D G ρ ret Post :=
    Or.inr ⟨rfl, rfl, rfl, B.returns, B.notSynchronized⟩
  have hl := lv_entry (av.map (xcv ρ)) (n := nL) (by
    have h1 := hlen av M Post hsp
    have h2 : ∀ a : List XV, (lg_sl (a.map (xcv ρ))).length = (xen a).length := by
      intro a
      induction a with
      | nil => rfl
      | cons v t ih =>
        simp only [List.map_cons, lg_sl, List.flatMap_cons, List.length_append, xen, xc1_eq] at ih ⊢
        split <;> simp [ih] <;> omega
    rw [h2]
    exact h1)
  rw [lg_entry_eq]
  exact body av M Post hsp _ (XWW_cl (hall Post) hC hR) s.heap [] _ hP va_S.rf (xent_has hl)
/-- symbolic running, from a place on to the cuts -/
def xrun (P : Nat → XStp) (cut : Nat → Bool) (WW : XK) : Nat → XK
  | 0, pc, L, st, M => WW pc L st M
  | n + 1, pc, L, st, M => P pc pc L st M (fun pc' L' st' M' => match cut pc' with
    | true => WW pc' L' st' M'
    | false => xrun P cut WW n pc' L' st' M')
theorem xrun_ok {P : Nat → XStp} {WW : XK} (hC : XCl P WW) (cut : Nat → Bool) : ∀ (n pc : Nat) (L : XLs) (st : List XV) (M : XM), xrun P cut WW n pc L st M → WW pc L st M
  | 0, _, _, _, _, h => h
  | n + 1, pc, L, st, M, h => hC.1 pc L st M _ h (fun pc' L' st' M' h' => by
    split at h'
    · exact h'
    · exact xrun_ok hC cut n pc' L' st' M' h')
end XL1
