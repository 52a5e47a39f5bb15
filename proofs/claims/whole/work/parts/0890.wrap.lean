section XLw
/-! the law's own methods: each calls one of the class's, in a try -/
def XEc (U : State) : Prop := ∀ a ∈ [(1 : Int), 2, 3], ∀ b ∈ [(1 : Int), 2, 3], ¬ a = b → va_Nc (xE a) (xE b) U
theorem XEc.moved {u U : State} (hvm : u.vm.Alike U.vm) (h : XEc u) : XEc U := fun a ha b hb n => va_Nc.moved hvm (h a ha b hb n)
def XBW (D : va_G) (G : Nat → ClassId) (ρ : XOb → Nat) (sz : Nat) (M : XM) : State → Prop := fun U => XBE D G ρ sz M U ∧ XEc U
theorem xblindW (av : List XV) (D : va_G) (G : Nat → ClassId) (ρ : XOb → Nat) (sz : Nat) (M : XM) : FrameBlind (va_Pc (av.map (xcv ρ)) (XBW D G ρ sz M)) := by
  intro a U g mk q
  obtain ⟨q0, q1, q2⟩ := q
  obtain ⟨r0, r1⟩ := xblindE av D G ρ sz M a U g mk ⟨q0, q1⟩
  exact ⟨r0, r1, XEc.moved (u := U) (U := U.calling g mk a) (Vm.Alike.refl U.vm) q2⟩
def XCw (y : MethodName) (ws : List Cond) (rm : Room) (sp : XSp) : Prop :=
  ∀ (l : Launch), l.stackTraces = false → ∀ (D : va_G) (G : Nat → ClassId) (ρ : XOb → Nat) (sz : Nat) (av : List XV) (M : XM) (Post : XPo), sp av M Post →
    Met l y ws rm (va_Pc (av.map (xcv ρ)) (XBW D G ρ sz M)) (XQ D G ρ (XA ρ sz) Post) 1 6 (XA ρ sz)
def XCZ (l : Launch) (R : Room) (s : State) (meth : Method) (c : Code) (ρ : XOb → Nat) (ret : Option FieldType) (hh : List (Nat × Nat × Nat × Nat)) : Prop :=
  l.stackTraces = false ∧ ((XEw s ∧ XEs s ∧ XEz (XA ρ s.heap.size) s s.heap) ∧ XEc s) ∧ meth.sig.returnType = ret ∧ meth.locks = false ∧ c.exceptionTable.toList = tableOf hh ∧ 1 ≤ R.cells ∧ 6 ≤ R.slots
theorem xm_ofWH {l : Launch} {y : MethodName} {ws ws' : List Cond} {rm : Room} {Pc : Array Value → State → Prop} {Qc : Array Value → State → Outcome → State → Prop} {mc ms : Nat} {free : Addr → Prop} {cc : ByteArray} {maxL : Nat} {ret : Option FieldType} {hh : List (Nat × Nat × Nat × Nat)}
    (hy : plainName y.cls = true) (hw : ws = Cond.codeWith y cc maxL ret hh :: ws')
    (body : ∀ p e s m args below meth c s₁, BodyLoose p l y (headSpec ws rm) cc maxL ret e s m args below meth c s₁ → c.maxLocals = maxL → Pc args s →
      W p l e (headSpec ws rm).room s m args below meth c s.heap [] 0 0 (MQ below Qc args s mc ms free) (entryFrame m args maxL)) : Met l y ws rm Pc Qc mc ms free := by
  refine MetFree.of_bodyS (code := cc) (maxLocals := maxL) (ret := ret) hy ?_ ?_
  · intro args s m h hn
    obtain ⟨m9, meth, c, hn9, h1, h2, h3, h4, -, h5, h6, -⟩ := Cond.codeWith_spec (atoms_spec (ws := ws) h _ (by rw [hw]; exact List.mem_cons_self))
    cases hn.symm.trans hn9
    exact ⟨meth, c, h1, h2, h3, h4, h5, h6⟩
  · intro p e s m args below meth c s₁ B hml hP _
    have hh0 : s₁.heap = s.heap := by rw [B.state]; rfl
    obtain ⟨t, a1, o, b1, b2, b3⟩ := body p e s m args below meth c s₁ B hml hP s₁ hh0 (Stand.of_body B)
    exact ⟨t, o, a1, b1, b2, b3⟩
section
variable {R : Room} {cc : ByteArray} {nL : Nat} {own : String} {q0 : Cond} {ret : Option FieldType} {hh : List (Nat × Nat × Nat × Nat)}
variable {p : Program} {l : Launch} {e : Env} {s : State} {m : MethodId} {args : Array Value} {below : List Frame} {meth : Method} {c : Code} {D : va_G} {G : Nat → ClassId} {ρ : XOb → Nat}
theorem xbeginW {Ts : List Cond} (hC : XCX p R s m args c 0 0 D G ρ cc nL own Ts) (hZ : XCZ l R s meth c ρ ret hh) {H : Heap} {locs : List Loc} {M : XM} (hP : va_P D vwCl (xworld G ρ M) H) (hS : va_S (XA ρ s.heap.size) s.heap H locs) : ∀ U : State, U.heap = H → s.WarmedH U.vm → XBE D G ρ H.size M U := by
  intro U hU hW
  obtain ⟨-, ⟨⟨hw, hs, hz⟩, -⟩, -⟩ := hZ
  refine ⟨xbegin hC hP hS U hU hW, hw.warm hW, hs.warm hW, ?_⟩
  rw [hU]
  exact (XEz.moved hW.alike (hz.kept (fun a h1 h2 => hS.2.1 a h1 h2))).narrow (fun q h => XA_le hS.1 q h)
/-- what a call of a method that may throw needs -/
def XcU (R : Room) (own : String) (index n : Nat) (y : MethodName) (cb : ByteArray) (mL : Nat) (rt : Option FieldType) (rm : Room) : Prop :=
  (rm.cells = 1 ∧ rm.slots = 6 ∧ rm.frames + 1 ≤ R.frames ∧ 8 + (mL + 11) + rm.locals ≤ R.locals) ∧
  (y.cls ≠ "java/lang/invoke/MethodHandle" ∧ y.cls ≠ "java/lang/invoke/VarHandle" ∧ (parseMethodDescriptor y.desc).map (fun d => d.parameters.length) = some n) ∧
  (Cond.methodLink own index y ∈ xT ∧ Cond.instanceMethod y ∈ xT ∧ Cond.selects y.cls y y ∈ xT ∧ Cond.initialized y.cls ∈ xT ∧ Cond.code y cb mL rt ∈ xT) ∧
  ∃ (T : u_T) (N : Nat), vwCl[7]? = some (y.cls, T, N)
/-- the handler of an exception -/
def XHd (own : String) (pc : Nat) (hh : List (Nat × Nat × Nat × Nat)) (k : Int) (hp : Nat) : Prop :=
  k ∈ [(1 : Int), 2, 3] ∧ ∃ (pre : List ExceptionTableEntry) (x : ExceptionTableEntry) (suf : List ExceptionTableEntry), tableOf hh = pre ++ x :: suf ∧ (∀ z ∈ pre, z.catchType ≠ 0 ∧ ∃ b ∈ [(1 : Int), 2, 3], ¬ k = b ∧ Cond.classLink own z.catchType (xE b) ∈ xT) ∧ covers x pc = true ∧ x.catchType ≠ 0 ∧ Cond.classLink own x.catchType (xE k) ∈ xT ∧ x.handlerPc = hp
theorem xw_try {index n pc : Nat} {y : MethodName} {cb : ByteArray} {mL : Nat} {rt : Option FieldType} {rm : Room} {sp : XSp} {Post : XPo} {cd : List Int} {hp : Int → Nat} {Q : State → Prop} (hM : XCe y (Cond.code y cb mL rt :: xT) rm sp) (hV : XcU R own index n y cb mL rt rm) (d : decode cc pc = .ok (.invokevirtual index, 3))
    (hC : XCX p R s m args c 0 0 D G ρ cc nL own (q0 :: xT)) (hZ : XCZ l R s meth c ρ ret hh) (hH : ∀ k ∈ cd, XHd own pc hh k (hp k))
    {L : XLs} {M : XM} {As st : List XV} (hn : As.length = n) (hcat : xcat st ≤ 8) (h : sp (xR 0 0 0 :: As) M (LQ cd Post))
    (hret : ∀ (v : Int) (M' : XM), Post [xI 0] (xup M' 26 0 0 0 (w32 v)) → XWW p l e R s m args below meth c 1 6 Q D G ρ nL (pc + 3) L (xI v :: st) M')
    (hthr : ∀ (k : Int) (M' : XM), k ∈ cd → Post [xI (cdL cd k)] M' → ∀ (H : Heap) (locs : List Loc) (ls : Array Slot) (q : Nat), va_P D vwCl (xworld G ρ M') H → va_S (XA ρ s.heap.size) s.heap H locs → lv_has ls nL (xlv ρ 0 L) → W p l e R s m args below meth c H locs 1 6 Q (F0 m (hp k) ls [.ref q])) :
    XWW p l e R s m args below meth c 0 0 Q D G ρ nL pc L (As.reverse ++ xR 0 0 0 :: st) M := by
  intro H locs ls hP hS hl
  obtain ⟨⟨hrc, hrs, hr1, hr2⟩, hd, ⟨m1, m2, m3, m4, m5⟩, T0, N0, hci⟩ := hV
  obtain ⟨w0, hw0⟩ := xw_at xvz_0
  have hMet := hM l hZ.1 D G ρ H.size (xR 0 0 0 :: As) M _ h
  have hcw : CallW R s args own y.cls index y cb mL rt (Cond.code y cb mL rt :: xT) rm 1 6 n := cwV n hC.1.2.2.2.2 (by
    refine goodIn_app (xgood ?_) (xgood ?_)
    · intro w hw
      simp only [List.mem_cons, List.not_mem_nil, or_false] at hw
      rcases hw with rfl | rfl | rfl | rfl <;> assumption
    · intro w hw
      rcases List.mem_cons.mp hw with rfl | hw
      · exact m5
      · exact hw) rfl hrc hrs ⟨rfl, hd⟩ ⟨hr1, hr2⟩
  have hrun := vx_runV (e := e) (locs := locs) (meth := meth) (below := below) (b := ρ (0, 0, 0)) (As := As.map (xcv ρ)) (rest := st.map (xcv ρ)) (g := F0 m pc ls ((As.reverse ++ xR 0 0 0 :: st).map (xcv ρ))) hC.1 hMet hcw ⟨xblindE (xR 0 0 0 :: As) D G ρ H.size M, va_recv hC.2.1 hP hci (by rw [xw_get hw0]; rfl), fun U hU hW => ⟨rfl, xbeginW hC hZ hP hS U hU hW⟩⟩ rfl (by simpa using hn) hl.1
    (by simp [xcv]) (lv_room (by rw [xcat_eq]; exact hcat)) d ⟨by simpa using hZ.2.2.2.2.2.1, by simpa using hZ.2.2.2.2.2.2⟩
  intro T hT X
  rcases hrun T hT X with ⟨v, st₀, t, T', L2, h0, X', hL, e1, e2, ⟨⟨rv, M', hv, hp', hP'⟩, hF⟩, stp⟩ | ⟨q, st₀, t, T', L2, E, ce, h0, X', hL, e1, e2, ⟨⟨k', M'⟩, -, ⟨hE, hp', hP'⟩, hF⟩, hce, hcv, hcl, stp⟩
  · obtain ⟨k1, k2, k3⟩ := vx_keep (A1 := XA ρ H.size) h0 e1 hS (fun q _ z => XA_le hS.1 q z) (fun q z => XA_le hS.1 q z) hL hF
    rcases rv with _ | (x | o)
    · exact hp'.elim
    · cases hv
      have h9 := hret x M' hp' T'.heap (locs ++ L2) ls (by rw [e1]; exact hP') k3 hl
      obtain ⟨t2, a1, b1⟩ := h9 T' rfl X'
      exact ⟨t2, stp t2 a1, b1⟩
    · exact hp'.elim
  · dsimp only at hE hp' hP'
    obtain ⟨k1, k2, k3⟩ := vx_keep (A1 := XA ρ H.size) h0 e1 hS (fun q _ z => XA_le hS.1 q z) (fun q z => XA_le hS.1 q z) hL hF
    obtain ⟨hm, hp'⟩ := (hp' : k' ∈ cd ∧ Post [xI (cdL cd k')] M')
    obtain ⟨h123, pre, x, suf, hsp, hpre, hcov, hx0, hlk, hhp⟩ := hH k' hm
    have ht : ∀ w ∈ xT, w.before args s = true := fun w hw => hC.1.2.2.2.2 w (xgood1 hw)
    have hcast : (Cond.castable E (xE k')).before args s = true := by
      rw [hE]
      have hEw := hZ.2.1.1.1
      simp only [List.mem_cons, List.not_mem_nil, or_false] at h123
      rcases h123 with rfl | rfl | rfl
      · exact va_Nw.use rfl hEw.1
      · exact va_Nw.use rfl hEw.2.1
      · exact va_Nw.use rfl hEw.2.2.1
    have hk := hthr k' M' hm hp' T'.heap (locs ++ L2) ls q (by rw [e1]; exact hP') k3 hl
    have hout := vx_catch (p := p) (l := l) (e := e) (R := R) (s := s) (m := m) (args := args) (below := below) (meth := meth) (c := c) (H := T'.heap) (locs := locs ++ L2) (cells := 0 + 1) (slots := 0 + 6) (Q := Q) (ls := ls) (rest := st.map (xcv ρ)) (pc := pc) (own := own) (name := xE k') (E := E) (ce := ce) (q := q)
      hC.1.2.2.2.1 pre x suf (by rw [hZ.2.2.2.2.1]; exact hsp) (fun z hz => by
        obtain ⟨z0, b, hb, hne, hzl⟩ := hpre z hz
        exact Or.inr ⟨z0, xE b, ht _ hzl, by rw [hE]; exact hZ.2.1.2 k' h123 b hb hne⟩) hcov hx0 (ht _ hlk) hcast (by rw [e1]; exact hce) hcv hcl (by rw [hhp]; exact hk)
    obtain ⟨t2, a1, b1⟩ := hout T' rfl X'
    exact ⟨t2, stp.trans a1, b1⟩
/-- the caught thing goes into a local that nobody knows -/
theorem xlv_skip {L : XLs} {ls : Array Slot} {i : Nat} {v : Value} (h : lv_has ls nL ((i, v) :: (xlv ρ 0 L).filter (fun q => !(q.1 == i) && !(q.1 + 1 == i && q.2.category == 2)))) (hi : xget L i = none) (hj : ∀ (j : Nat) (w : XV), j + 1 = i → xget L j = some w → xc1 w = 1) : lv_has ls nL (xlv ρ 0 L) := by
  refine lv_less h fun q hq => ?_
  obtain ⟨j, w, rfl, h2⟩ := (xlv_mem _ 0 q).mp hq
  refine List.mem_cons_of_mem _ (List.mem_filter.mpr ⟨hq, ?_⟩)
  simp only [Nat.zero_add, xc1_eq]
  by_cases h3 : j = i
  · subst h3
    rw [hi] at h2
    exact absurd h2 (by simp)
  · by_cases h4 : j + 1 = i
    · simp [h3, hj j w h4 h2]
    · simp [h3, h4]
theorem xw_ast {pc i : Nat} {L : XLs} {M : XM} {Q : State → Prop} {Ts : List Cond} (hC : XCX p R s m args c 0 0 D G ρ cc nL own Ts) (d : decode cc pc = .ok (.astore i, 2)) (hn : i < nL) (hi : xget L i = none) (hj : ∀ (j : Nat) (w : XV), j + 1 = i → xget L j = some w → xc1 w = 1) (hk : XWW p l e R s m args below meth c 1 6 Q D G ρ nL (pc + 2) L [] M) :
    ∀ (H : Heap) (locs : List Loc) (ls : Array Slot) (q : Nat), va_P D vwCl (xworld G ρ M) H → va_S (XA ρ s.heap.size) s.heap H locs → lv_has ls nL (xlv ρ 0 L) → W p l e R s m args below meth c H locs 1 6 Q (F0 m pc ls [.ref q]) :=
  fun H locs ls q hP hS hl => lv_astore hC.1.1 hC.1.2.1 d hl hn rfl (fun ls' hl' => hk H locs ls' hP hS (xlv_skip hl' hi hj))
theorem xw_astn {pc i : Nat} {k : Fin 4} {L : XLs} {M : XM} {Q : State → Prop} {Ts : List Cond} (hC : XCX p R s m args c 0 0 D G ρ cc nL own Ts) (d : decode cc pc = .ok (.astore_n k, 1)) (hki : (k : Nat) = i) (hn : i < nL) (hi : xget L i = none) (hj : ∀ (j : Nat) (w : XV), j + 1 = i → xget L j = some w → xc1 w = 1) (hk : XWW p l e R s m args below meth c 1 6 Q D G ρ nL (pc + 1) L [] M) :
    ∀ (H : Heap) (locs : List Loc) (ls : Array Slot) (q : Nat), va_P D vwCl (xworld G ρ M) H → va_S (XA ρ s.heap.size) s.heap H locs → lv_has ls nL (xlv ρ 0 L) → W p l e R s m args below meth c H locs 1 6 Q (F0 m pc ls [.ref q]) :=
  fun H locs ls q hP hS hl => lv_astore_n hC.1.1 hC.1.2.1 d hki hl hn rfl (fun ls' hl' => hk H locs ls' hP hS (xlv_skip hl' hi hj))
/-- the end of such a method -/
def XWq (below : List Frame) (args : Array Value) (s : State) (D : va_G) (G : Nat → ClassId) (ρ : XOb → Nat) (Post : XPo) : State → Prop := MQ below (XQ D G ρ (XA ρ s.heap.size) Post) args s 1 6 (XA ρ s.heap.size)
theorem xw_iret {pc : Nat} {L : XLs} {M : XM} {x : Int} {Post : XPo} {Ts : List Cond} (hC : XCX p R s m args c 0 0 D G ρ cc nL own Ts) (hZ : XCZ l R s meth c ρ (some .int) hh) (d : decode cc pc = .ok (.ireturn, 1)) (h : Post [xI x] M) : XWW p l e R s m args below meth c 1 6 (XWq below args s D G ρ Post) D G ρ nL pc L [xI x] M := by
  intro H locs ls hP hS hl
  exact W.iret (v := Int32.ofInt x) hC.1.1 hC.1.2.1 hZ.2.2.1 (fun t ht hW => ⟨⟨some (xI x), M, rfl, h, by rw [ht]; exact hP⟩, hS.F ht⟩) hS.2.2 d hZ.2.2.2.1
/-- a step of the first part, of the second part -/
theorem xw_st0 {pc : Nat} {σ : XStp} {L : XLs} {st : List XV} {M : XM} {Q : State → Prop} {Ts : List Cond} (hC : XCX p R s m args c 0 0 D G ρ cc nL own Ts) (hσ : XSnd R cc nL own Ts none (fun _ _ => False) pc σ) (h : σ pc L st M (XWW p l e R s m args below meth c 0 0 Q D G ρ nL)) : XWW p l e R s m args below meth c 0 0 Q D G ρ nL pc L st M :=
  hσ p l e s m args below meth c 0 0 Q D G ρ hC (Or.inl fun _ _ f => f) L st M _ h (fun _ _ _ _ k => k)
theorem xw_st1 {pc : Nat} {σ : XStp} {L : XLs} {st : List XV} {M : XM} {Q : State → Prop} {Ts : List Cond} (hC : XCX p R s m args c 0 0 D G ρ cc nL own Ts) (h1 : 1 ≤ R.cells) (h6 : 6 ≤ R.slots) (hσ : XSnd R cc nL own Ts none (fun _ _ => False) pc σ) (h : σ pc L st M (XWW p l e R s m args below meth c 1 6 Q D G ρ nL)) : XWW p l e R s m args below meth c 1 6 Q D G ρ nL pc L st M :=
  hσ p l e s m args below meth c 1 6 Q D G ρ ⟨hC.1, hC.2.1, hC.2.2.1, hC.2.2.2.1, hC.2.2.2.2.1, h1, h6⟩ (Or.inl fun _ _ f => f) L st M _ h (fun _ _ _ _ k => k)
end
theorem XCw.of {y : MethodName} {ws' : List Cond} {ws : List Cond} {rm : Room} {sp : XSp} {cc : ByteArray} {nL : Nat} {ret : Option FieldType} {hh : List (Nat × Nat × Nat × Nat)} (hrm : rm.cells = 1 ∧ rm.slots = 6) (hy : plainName y.cls = true) (hw : ws = Cond.codeWith y cc nL ret hh :: ws')
    (hlen : ∀ av M Post, sp av M Post → (xen av).length ≤ nL)
    (body : ∀ av M Post, sp av M Post → ∀ (p : Program) (l : Launch) (e : Env) (s : State) (m : MethodId) (args : Array Value) (below : List Frame) (meth : Method) (c : Code) (D : va_G) (G : Nat → ClassId) (ρ : XOb → Nat), XCX p rm s m args c 0 0 D G ρ cc nL y.cls ws → XCZ l rm s meth c ρ ret hh → XWW p l e rm s m args below meth c 0 0 (XWq below args s D G ρ Post) D G ρ nL 0 (xent nL av) [] M) : XCw y ws rm sp := by
  intro l hfl D G ρ sz av M Post hsp
  refine xm_ofWH (cc := cc) (maxL := nL) (ret := ret) hy hw ?_
  intro p e s m args below meth c s₁ B hml hv
  obtain ⟨rfl, ⟨⟨hsz, hP, hK, hρ, hF, hN⟩, hEw, hEs, hEz⟩, hEc⟩ := hv
  subst hsz
  have hts := atoms_spec (ws := ws) B.pre
  have hC : XCX p rm s m ((av.map (xcv ρ)).toArray) c 0 0 D G ρ cc nL y.cls ws :=
    ⟨⟨B.exec, B.bytes, hml, findClass_of_methodNamed B.named, hts⟩, hK, hρ, hF, hN, Nat.zero_le _, Nat.zero_le _⟩
  have hZ : XCZ l rm s meth c ρ ret hh := ⟨hfl, ⟨⟨hEw, hEs, hEz⟩, hEc⟩, B.returns, B.notSynchronized, vx_table (x := y) B (hts _ (by rw [hw]; exact List.mem_cons_self)), by rw [hrm.1]; exact Nat.le_refl _, by rw [hrm.2]; exact Nat.le_refl _⟩
  have hl := lv_entry (av.map (xcv ρ)) (n := nL) (by
    have h1 := hlen av M Post hsp
    have h2 : ∀ a : List XV, (lg_sl (a.map (xcv ρ))).length = (xen a).length := by
      intro a
      induction a with
      | nil => rfl
      | cons v t ih =>
        simp only [List.map_cons, lg_sl, List.flatMap_cons, List.length_append, xen, xc1_eq] at ih ⊢
        split <;> simp [ih] <;> omega
    rw [h2]
    exact h1)
  rw [lg_entry_eq]
  exact body av M Post hsp p l e s m _ below meth c D G ρ hC hZ s.heap [] _ hP va_S.rf (xent_has hl)
end XLw

