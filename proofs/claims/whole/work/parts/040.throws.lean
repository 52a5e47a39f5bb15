section XTh
/-! methods that return or throw: a throw of the class n is the two values n, 0 -/
def xE (n : Int) : String := if n = 1 then "java/lang/IllegalArgumentException" else if n = 2 then "java/lang/IllegalStateException" else "java/lang/IndexOutOfBoundsException"
def xiS (c : String) : MethodName := ⟨c, "<init>", "(Ljava/lang/String;)V"⟩
def XEw (U : State) : Prop := va_Nw (.castable (xE 1) (xE 1)) U ∧ va_Nw (.castable (xE 2) (xE 2)) U ∧ va_Nw (.castable (xE 3) (xE 3)) U ∧ va_Nw (.declares (xiS "java/lang/RuntimeException")) U ∧ va_Nw (.declares (xiS "java/lang/Exception")) U ∧ va_Nw (.declares (xiS "java/lang/Throwable")) U
theorem XEw.warm {s U : State} (hW : s.WarmedH U.vm) (h : XEw s) : XEw U := ⟨va_Nw.warmC hW h.1, va_Nw.warmC hW h.2.1, va_Nw.warmC hW h.2.2.1, va_Nw.warmD hW h.2.2.2.1, va_Nw.warmD hW h.2.2.2.2.1, va_Nw.warmD hW h.2.2.2.2.2⟩
theorem XEw.same {u U : State} (hv : u.vm = U.vm) (h : XEw u) : XEw U := ⟨va_Nw.same rfl hv h.1, va_Nw.same rfl hv h.2.1, va_Nw.same rfl hv h.2.2.1, va_Nw.same rfl hv h.2.2.2.1, va_Nw.same rfl hv h.2.2.2.2.1, va_Nw.same rfl hv h.2.2.2.2.2⟩
/-- the messages -/
def XEs (U : State) : Prop := ∀ q ∈ [(334, "an argument is out of range"), (331, "there is no such number"), (338, "the film does not allow it now"), (179, "a unit cannot join itself"), (218, "the buffer is not a complete call sheet")], ∃ a : Nat, vk_R "UnitKitchens" q.1 q.2 a U
theorem XEs.warm {s U : State} (hW : s.WarmedH U.vm) (h : XEs s) : XEs U := fun q hq => (h q hq).elim fun a ha => ⟨a, vk_R.warm hW ha⟩
theorem XEs.same {u U : State} (hv : U.vm = u.vm) (h : XEs u) : XEs U := fun q hq => (h q hq).elim fun a ha => ⟨a, vk_R.same hv ha⟩
def XEz (A : Nat → Prop) (U : State) (H : Heap) : Prop := vx_Zq Bundle.tN "UNASSIGNED_STACK" Bundle.steD A U H ∧ vx_Zq Bundle.tN "SUPPRESSED_SENTINEL" Bundle.listD A U H
theorem XEz.moved {A : Nat → Prop} {u U : State} {H : Heap} (hvm : u.vm.Alike U.vm) (h : XEz A u H) : XEz A U H := ⟨vx_Zq.moved hvm h.1, vx_Zq.moved hvm h.2⟩
theorem XEz.kept {A : Nat → Prop} {U : State} {H H1 : Heap} (h : XEz A U H) (hq : ∀ a : Nat, a < H.size → ¬ A a → H1[a]? = H[a]?) : XEz A U H1 := ⟨vx_Zq.kept h.1 hq, vx_Zq.kept h.2 hq⟩
theorem XEz.narrow {A B : Nat → Prop} {U : State} {H : Heap} (h : XEz A U H) (hAB : ∀ q, B q → A q) : XEz B U H := ⟨vx_Zq.narrow h.1 hAB, vx_Zq.narrow h.2 hAB⟩
def XBE (D : va_G) (G : Nat → ClassId) (ρ : XOb → Nat) (sz : Nat) (M : XM) : State → Prop := fun U => XB D G ρ sz M U ∧ XEw U ∧ XEs U ∧ XEz (XA ρ sz) U U.heap
def XXC (D : va_G) (G : Nat → ClassId) (ρ : XOb → Nat) (A : Nat → Prop) (Post : XPo) : String → State → State → Prop := vx_X (fun _ : Int × XM => True) (fun E q t => E = xE q.1 ∧ Post [xI q.1, xI 0] q.2 ∧ va_P D vwCl (xworld G ρ q.2) t.heap) A
def XCe (y : MethodName) (ws : List Cond) (rm : Room) (sp : XSp) : Prop :=
  ∀ (l : Launch), l.stackTraces = false → ∀ (D : va_G) (G : Nat → ClassId) (ρ : XOb → Nat) (sz : Nat) (av : List XV) (M : XM) (Post : XPo), sp av M Post →
    vx_Met l y ws rm (va_Pc (av.map (xcv ρ)) (XBE D G ρ sz M)) (XQ D G ρ (XA ρ sz) Post) (XXC D G ρ (XA ρ sz) Post) 1 6 (XA ρ sz)
theorem xblindE (av : List XV) (D : va_G) (G : Nat → ClassId) (ρ : XOb → Nat) (sz : Nat) (M : XM) : FrameBlind (va_Pc (av.map (xcv ρ)) (XBE D G ρ sz M)) := by
  intro a U g mk q
  obtain ⟨q0, ⟨q1, qP, qK, qD, qF, qN⟩, qw, qs, qz⟩ := q
  exact ⟨q0, ⟨q1, qP, va_K.moved (u := U) (U := U.calling g mk a) (Vm.Alike.refl U.vm) qK, qD, XSF.moved (u := U) (U := U.calling g mk a) (Vm.Alike.refl U.vm) qF, XNw.same (u := U) (U := U.calling g mk a) rfl qN⟩, XEw.same (u := U) (U := U.calling g mk a) rfl qw, XEs.same (u := U) (U := U.calling g mk a) rfl qs, XEz.moved (u := U) (U := U.calling g mk a) (Vm.Alike.refl U.vm) qz⟩
section
variable {R : Room} {cc : ByteArray} {nL : Nat} {own : String} {Ts : List Cond} {pc : Nat}
variable {p : Program} {l : Launch} {e : Env} {s : State} {m : MethodId} {args : Array Value} {below : List Frame} {meth : Method} {c : Code} {cells slots : Nat} {Q : State → Prop} {D : va_G} {G : Nat → ClassId} {ρ : XOb → Nat}
/-- what more holds all along a method that may throw -/
def XCY (l : Launch) (R : Room) (s : State) (meth : Method) (c : Code) (ρ : XOb → Nat) (ret : Option FieldType) : Prop :=
  l.stackTraces = false ∧ (XEw s ∧ XEs s ∧ XEz (XA ρ s.heap.size) s s.heap) ∧ meth.sig.returnType = ret ∧ meth.locks = false ∧ (∀ x ∈ c.exceptionTable.toList, False) ∧ 1 ≤ R.cells ∧ 6 ≤ R.slots
theorem xbeginE {ret : Option FieldType} (hC : XCX p R s m args c cells slots D G ρ cc nL own Ts) (hY : XCY l R s meth c ρ ret) {H : Heap} {locs : List Loc} {M : XM} (hP : va_P D vwCl (xworld G ρ M) H) (hS : va_S (XA ρ s.heap.size) s.heap H locs) : ∀ U : State, U.heap = H → s.WarmedH U.vm → XBE D G ρ H.size M U := by
  intro U hU hW
  obtain ⟨-, ⟨hw, hs, hz⟩, -⟩ := hY
  refine ⟨xbegin hC hP hS U hU hW, hw.warm hW, hs.warm hW, ?_⟩
  rw [hU]
  exact (XEz.moved hW.alike (hz.kept (fun a h1 h2 => hS.2.1 a h1 h2))).narrow (fun q h => XA_le hS.1 q h)
end
def XMX (below : List Frame) (args : Array Value) (s : State) (D : va_G) (G : Nat → ClassId) (ρ : XOb → Nat) (Post : XPo) : State → Prop :=
  vx_MQ below (XQ D G ρ (XA ρ s.heap.size) Post) (XXC D G ρ (XA ρ s.heap.size) Post) args s 1 6 (XA ρ s.heap.size)
/-- a step is sound at a place of a method that may throw -/
def XSx (R : Room) (cc : ByteArray) (nL : Nat) (own : String) (Ts : List Cond) (ret : Option FieldType) (Post : XPo) (pc : Nat) (σ : XStp) : Prop :=
  ∀ (p : Program) (l : Launch) (e : Env) (s : State) (m : MethodId) (args : Array Value) (below : List Frame) (meth : Method) (c : Code) (D : va_G) (G : Nat → ClassId) (ρ : XOb → Nat),
    XCX p R s m args c 0 0 D G ρ cc nL own Ts → XCY l R s meth c ρ ret →
    ∀ (L : XLs) (st : List XV) (M : XM) (K : XK), σ pc L st M K → (∀ pc' L' st' M', K pc' L' st' M' → XWW p l e R s m args below meth c 0 0 (XMX below args s D G ρ Post) D G ρ nL pc' L' st' M') →
      XWW p l e R s m args below meth c 0 0 (XMX below args s D G ρ Post) D G ρ nL pc L st M
def XAx (R : Room) (cc : ByteArray) (nL : Nat) (own : String) (Ts : List Cond) (ret : Option FieldType) (Post : XPo) (P : List (Nat × XStp)) : Prop := ∀ q ∈ P, XSx R cc nL own Ts ret Post q.1 q.2
theorem XAx.nil {R : Room} {cc : ByteArray} {nL : Nat} {own : String} {Ts : List Cond} {ret : Option FieldType} {Post : XPo} : XAx R cc nL own Ts ret Post [] := fun _ h => absurd h List.not_mem_nil
theorem XAx.cons {R : Room} {cc : ByteArray} {nL : Nat} {own : String} {Ts : List Cond} {ret : Option FieldType} {Post : XPo} {q : Nat × XStp} {P : List (Nat × XStp)} (h : XSx R cc nL own Ts ret Post q.1 q.2) (t : XAx R cc nL own Ts ret Post P) : XAx R cc nL own Ts ret Post (q :: P) :=
  fun r hr => (List.mem_cons.mp hr).elim (fun e => e ▸ h) (t r)
theorem XAx.at {R : Room} {cc : ByteArray} {nL : Nat} {own : String} {Ts : List Cond} {ret : Option FieldType} {Post : XPo} : ∀ {P : List (Nat × XStp)}, XAx R cc nL own Ts ret Post P → ∀ pc, XSx R cc nL own Ts ret Post pc (xlk P pc)
  | [], _, _ => fun _ _ _ _ _ _ _ _ _ _ _ _ _ _ _ _ _ _ h => absurd h (by simp [xlk, xno])
  | q :: t, h, pc => by
    simp only [xlk]
    split
    next e => rw [e]; exact h q List.mem_cons_self
    next => exact XAx.at (P := t) (fun q hq => h q (List.mem_cons_of_mem _ hq)) pc
section
variable {R : Room} {cc : ByteArray} {nL : Nat} {own : String} {Ts : List Cond} {ret : Option FieldType} {Post : XPo} {pc : Nat}
theorem XSx.of {σ : XStp} (h : XSnd R cc nL own Ts ret (fun _ _ => False) pc σ) : XSx R cc nL own Ts ret Post pc σ :=
  fun p l e s m args below meth c D G ρ hC _ L st M K hσ hk => h p l e s m args below meth c 0 0 _ D G ρ hC (Or.inl fun _ _ f => f) L st M K hσ hk
theorem xe_iret (hret : ret = some .int) (d : decode cc pc = .ok (.ireturn, 1)) : XSx R cc nL own Ts ret Post pc (j_iret Post) := by
  intro p l e s m args below meth c D G ρ hC hY L st M K h hk H locs ls hP hS hl
  obtain ⟨-, -, hrt, hlocks, -⟩ := hY
  simp only [j_iret] at h
  split at h
  next x =>
    intro T hT X
    exact vx_ret (W.iret (cells := 1) (slots := 6) (v := Int32.ofInt x) hC.1.1 hC.1.2.1 (by rw [hrt, hret]) (fun t ht hW => ⟨⟨some (xI x), M, rfl, h, by rw [ht]; exact hP⟩, hS.F ht⟩) hS.2.2 d hlocks) T hT (stand_widen X (Nat.zero_le 1) (Nat.zero_le 6))
  next => exact h.elim
theorem xe_vret (hret : ret = none) (d : decode cc pc = .ok (.return_, 1)) : XSx R cc nL own Ts ret Post pc (j_ret0 Post) := by
  intro p l e s m args below meth c D G ρ hC hY L st M K h hk H locs ls hP hS hl
  obtain ⟨-, -, hrt, hlocks, -⟩ := hY
  simp only [j_ret0] at h
  split at h
  next =>
    intro T hT X
    exact vx_ret (W.vret (cells := 1) (slots := 6) hC.1.1 hC.1.2.1 (by rw [hrt, hret]) (fun t ht hW => ⟨⟨none, M, rfl, h, by rw [ht]; exact hP⟩, hS.F ht⟩) hS.2.2 d hlocks) T hT (stand_widen X (Nat.zero_le 1) (Nat.zero_le 6))
  next => exact h.elim
end
theorem XWX_cl {R : Room} {cc : ByteArray} {nL : Nat} {own : String} {Ts : List Cond} {ret : Option FieldType} {Post : XPo} {P : List (Nat × XStp)} (hP : XAx R cc nL own Ts ret Post P)
    {p : Program} {l : Launch} {e : Env} {s : State} {m : MethodId} {args : Array Value} {below : List Frame} {meth : Method} {c : Code} {D : va_G} {G : Nat → ClassId} {ρ : XOb → Nat}
    (hC : XCX p R s m args c 0 0 D G ρ cc nL own Ts) (hY : XCY l R s meth c ρ ret) : XCl (xlk P) (XWW p l e R s m args below meth c 0 0 (XMX below args s D G ρ Post) D G ρ nL) :=
  ⟨fun pc L st M K h hk => hP.at pc p l e s m args below meth c D G ρ hC hY L st M K h hk,
    fun pc L L' st M hle h H locs ls hP hS hl => h H locs ls hP hS (xlv_weak hle hl)⟩
theorem XCe.of {y : MethodName} {ws ws' : List Cond} {rm : Room} {sp : XSp} {cc : ByteArray} {nL : Nat} {ret : Option FieldType} (P : XPo → List (Nat × XStp)) (hrm : rm.cells = 1 ∧ rm.slots = 6) (hy : plainName y.cls = true) (hw : ws = Cond.code y cc nL ret :: ws')
    (hall : ∀ Post, XAx rm cc nL y.cls ws ret Post (P Post)) (hlen : ∀ av M Post, sp av M Post → (xen av).length ≤ nL)
    (body : ∀ av M Post, sp av M Post → ∀ WW : XK, XCl (xlk (P Post)) WW → WW 0 (xent nL av) [] M) : XCe y ws rm sp := by
  intro l hfl D G ρ sz av M Post hsp
  refine vx_ofW (cc := cc) (maxL := nL) (ret := ret) hy hw ?_
  intro p e s m args below meth c s₁ B hml htab hv
  obtain ⟨rfl, ⟨hsz, hP, hK, hρ, hF, hN⟩, hEw, hEs, hEz⟩ := hv
  subst hsz
  have hC : XCX p (headSpec ws rm).room s m ((av.map (xcv ρ)).toArray) c 0 0 D G ρ cc nL y.cls ws :=
    ⟨⟨B.exec, B.bytes, hml, findClass_of_methodNamed B.named, atoms_spec (ws := ws) B.pre⟩, hK, hρ, hF, hN, Nat.zero_le _, Nat.zero_le _⟩
  have hY : XCY l (headSpec ws rm).room s meth c ρ ret := ⟨hfl, ⟨hEw, hEs, hEz⟩, B.returns, B.notSynchronized, htab, by rw [show (headSpec ws rm).room.cells = rm.cells from rfl, hrm.1]; exact Nat.le_refl _, by rw [show (headSpec ws rm).room.slots = rm.slots from rfl, hrm.2]; exact Nat.le_refl _⟩
  have hl := lv_entry (av.map (xcv ρ)) (n := nL) (by
    have h1 := hlen av M Post hsp
    have h2 : ∀ a : List XV, (lg_sl (a.map (xcv ρ))).length = (xen a).length := by
      intro a
      induction a with
      | nil => rfl
      | cons v t ih =>
        simp only [List.map_cons, lg_sl, List.flatMap_cons, List.length_append, xen, xc1_eq] at ih ⊢
        split <;> simp [ih] <;> omega
    rw [h2]
    exact h1)
  rw [lg_entry_eq]
  exact body av M Post hsp _ (XWX_cl (hall Post) hC hY) s.heap [] _ hP va_S.rf (xent_has hl)
/-! calls of what throws -/
def j_T2 (n : Int) (C : Int → Int → Prop) (Post : XPo) : XStp := fun pc L st M K => match st with
  | .inl b :: .inl a :: st => (XInR a ∧ XInR b ∧ xcat st ≤ 8) ∧ (C a b → K (pc + 3) L st M) ∧ (¬ C a b → Post [xI n, xI 0] M)
  | _ => False
def j_T3 (n : Int) (C : Int → Int → Int → Prop) (Post : XPo) : XStp := fun pc L st M K => match st with
  | .inl d :: .inl b :: .inl a :: st => (XInR a ∧ XInR b ∧ XInR d ∧ xcat st ≤ 8) ∧ (C a b d → K (pc + 3) L st M) ∧ (¬ C a b d → Post [xI n, xI 0] M)
  | _ => False
def j_T1 (n : Int) (C : Int → Prop) (Post : XPo) : XStp := fun pc L st M K => match st with
  | .inl a :: st => (XInR a ∧ xcat st ≤ 8) ∧ (C a → K (pc + 3) L st M) ∧ (¬ C a → Post [xI n, xI 0] M)
  | _ => False
/-- the throw itself -/
def j_thr (n : Int) (Post : XPo) : XStp := fun _ _ st M _ => st = [] ∧ Post [xI n, xI 0] M
section
variable {R : Room} {cc : ByteArray} {nL : Nat} {own : String} {q0 : Cond} {ret : Option FieldType} {Post : XPo} {pc : Nat}
def XcT (R : Room) (own : String) (index n : Nat) (y : MethodName) (cb : ByteArray) (mL : Nat) (rt : Option FieldType) (rm : Room) : Prop :=
  (rm.cells = 1 ∧ rm.slots = 6 ∧ rm.frames + 1 ≤ R.frames ∧ 8 + (mL + 11) + rm.locals ≤ R.locals) ∧
  (y.cls ≠ "java/lang/invoke/MethodHandle" ∧ y.cls ≠ "java/lang/invoke/VarHandle" ∧ (parseMethodDescriptor y.desc).map (fun d => d.parameters.length) = some n) ∧
  (Cond.methodLink own index y ∈ xT ∧ Cond.static y ∈ xT ∧ Cond.initialized y.cls ∈ xT ∧ Cond.code y cb mL rt ∈ xT)
theorem xe_callT {index n : Nat} {y : MethodName} {cb : ByteArray} {mL : Nat} {rt : Option FieldType} {rm : Room} {sp : XSp} (hM : XCe y (Cond.code y cb mL rt :: xT) rm sp) (hV : XcT R own index n y cb mL rt rm) (d : decode cc pc = .ok (.invokestatic index, 3))
    (p : Program) (l : Launch) (e : Env) (s : State) (m : MethodId) (args : Array Value) (below : List Frame) (meth : Method) (c : Code) (D : va_G) (G : Nat → ClassId) (ρ : XOb → Nat) (hC : XCX p R s m args c 0 0 D G ρ cc nL own (q0 :: xT)) (hY : XCY l R s meth c ρ ret)
    (L : XLs) (M : XM) (As st : List XV) (k : Int) (hn : As.length = n) (hcat : xcat st ≤ 8) (h : sp As M (fun rv M' => rv = [xI k, xI 0] ∧ M' = M)) (hp : Post [xI k, xI 0] M) :
    XWW p l e R s m args below meth c 0 0 (XMX below args s D G ρ Post) D G ρ nL pc L (As.reverse ++ st) M := by
  intro H locs ls hP hS hl
  obtain ⟨⟨hrc, hrs, hr1, hr2⟩, hd, m1, m2, m4, m5⟩ := hV
  have hMet := hM l hY.1 D G ρ H.size As M _ h
  have ht : ∀ w ∈ xT, w.before args s = true := fun w hw => hC.1.2.2.2.2 w (xgood1 hw)
  have hcw : CallB R s args own index y cb mL rt (Cond.code y cb mL rt :: xT) rm 1 6 n ∧ (Cond.static y).before args s = true := ⟨callB_of n hC.1.2.2.2.2 (by
    refine xgood ?_
    intro w hw
    rcases List.mem_cons.mp hw with rfl | hw
    · exact m5
    · exact hw) rfl hrc hrs (ht _ m4) (ht _ m1) hd ⟨hr1, hr2⟩, ht _ m2⟩
  have hrun := vx_runS (e := e) (locs := locs) (meth := meth) (below := below) (As := As.map (xcv ρ)) (rest := st.map (xcv ρ)) (g := F0 m pc ls ((As.reverse ++ st).map (xcv ρ))) hC.1 hMet hcw ⟨xblindE As D G ρ H.size M, fun U hU hW => ⟨rfl, xbeginE hC hY hP hS U hU hW⟩⟩ rfl (by simpa using hn) hl.1
    (by simp) (lv_room (by rw [xcat_eq]; exact hcat)) d ⟨by simpa using hY.2.2.2.2.2.1, by simpa using hY.2.2.2.2.2.2⟩
  intro T hT X
  rcases hrun T hT X with ⟨v, st₀, t, T', L2, h0, X', hL, e1, e2, ⟨⟨rv, M', hv, ⟨hp', -⟩, hP'⟩, hF⟩, stp⟩ | ⟨q, st₀, t, T', L2, E, ce, h0, X', hL, e1, e2, ⟨⟨k', M'⟩, -, ⟨hE, ⟨hk', hM'⟩, hP'⟩, hF⟩, hce, hcv, hcl, stp⟩
  · exfalso
    cases rv with
    | none => simp at hp'
    | some w => simp at hp'
  · dsimp only at hE hk' hM' hP'
    obtain ⟨k1, k2, k3⟩ := vx_keep (A1 := XA ρ H.size) h0 e1 hS (fun q _ z => XA_le hS.1 q z) (fun q z => XA_le hS.1 q z) hL hF
    have hkk : k' = k := by simpa using hk'
    subst hkk
    subst hM'
    have hout := vx_out (p := p) (l := l) (e := e) (R := R) (s := s) (m := m) (args := args) (below := below) (meth := meth) (c := c) (H := T'.heap) (locs := locs ++ L2) (cells := 0 + 1) (slots := 0 + 6) (Qc := XQ D G ρ (XA ρ s.heap.size) Post) (XC := XXC D G ρ (XA ρ s.heap.size) Post) (free := XA ρ s.heap.size) (mc := 1) (ms := 6) (ls := ls) (rest := st.map (xcv ρ)) (pc := pc) (E := E) (ce := ce) (q := q)
      (fun x hx => (hY.2.2.2.2.1 x hx).elim) hY.2.2.2.1 (by rw [e1]; exact hce) hcv hcl (fun t2 ht2 hal => ⟨(k', M'), trivial, ⟨hE, hp, by rw [ht2, e1]; exact hP'⟩, k3.F ht2⟩) k3.2.2 (by decide) (by decide)
    obtain ⟨t2, a1, b1⟩ := hout T' rfl X'
    exact ⟨t2, stp.trans a1, b1⟩
theorem xe_T3 {index : Nat} {y : MethodName} {cb : ByteArray} {mL : Nat} {rm rm' : Room} {n : Int} {C : Int → Int → Int → Prop} {sp sp' : XSp} (hM : XCn y (Cond.code y cb mL none :: xT) rm sp) (hM' : XCe y (Cond.code y cb mL none :: xT) rm' sp')
    (hsp : ∀ (a b d : Int) (M : XM) (Q : XPo), XInR a → XInR b → XInR d → C a b d → Q [] M → sp [xI a, xI b, xI d] M Q) (hsp' : ∀ (a b d : Int) (M : XM) (Q : XPo), XInR a → XInR b → XInR d → ¬ C a b d → Q [xI n, xI 0] M → sp' [xI a, xI b, xI d] M Q)
    (hV : XcS R own index 3 y cb mL none rm) (hV' : XcT R own index 3 y cb mL none rm') (d : decode cc pc = .ok (.invokestatic index, 3)) : XSx R cc nL own (q0 :: xT) ret Post pc (j_T3 n C Post) := by
  intro p l e s m args below meth c D G ρ hC hY L st M K h hk
  simp only [j_T3] at h
  split at h
  next d' b a st' =>
    obtain ⟨⟨ha, hb, hd, hcat⟩, h1, h0⟩ := h
    by_cases hc : C a b d'
    · exact xs_callS hM hV d p l e s m args below meth c 0 0 _ D G ρ hC L M [xI a, xI b, xI d'] st' K rfl hcat (hsp a b d' M _ ha hb hd hc (h1 hc)) hk
    · exact xe_callT hM' hV' d p l e s m args below meth c D G ρ hC hY L M [xI a, xI b, xI d'] st' n rfl hcat (hsp' a b d' M _ ha hb hd hc ⟨rfl, rfl⟩) (h0 hc)
  next => exact h.elim
theorem xe_T2 {index : Nat} {y : MethodName} {cb : ByteArray} {mL : Nat} {rm rm' : Room} {n : Int} {C : Int → Int → Prop} {sp sp' : XSp} (hM : XCn y (Cond.code y cb mL none :: xT) rm sp) (hM' : XCe y (Cond.code y cb mL none :: xT) rm' sp')
    (hsp : ∀ (a b : Int) (M : XM) (Q : XPo), XInR a → XInR b → C a b → Q [] M → sp [xI a, xI b] M Q) (hsp' : ∀ (a b : Int) (M : XM) (Q : XPo), XInR a → XInR b → ¬ C a b → Q [xI n, xI 0] M → sp' [xI a, xI b] M Q)
    (hV : XcS R own index 2 y cb mL none rm) (hV' : XcT R own index 2 y cb mL none rm') (d : decode cc pc = .ok (.invokestatic index, 3)) : XSx R cc nL own (q0 :: xT) ret Post pc (j_T2 n C Post) := by
  intro p l e s m args below meth c D G ρ hC hY L st M K h hk
  simp only [j_T2] at h
  split at h
  next b a st' =>
    obtain ⟨⟨ha, hb, hcat⟩, h1, h0⟩ := h
    by_cases hc : C a b
    · exact xs_callS hM hV d p l e s m args below meth c 0 0 _ D G ρ hC L M [xI a, xI b] st' K rfl hcat (hsp a b M _ ha hb hc (h1 hc)) hk
    · exact xe_callT hM' hV' d p l e s m args below meth c D G ρ hC hY L M [xI a, xI b] st' n rfl hcat (hsp' a b M _ ha hb hc ⟨rfl, rfl⟩) (h0 hc)
  next => exact h.elim
theorem xe_T1 {index : Nat} {y : MethodName} {cb : ByteArray} {mL : Nat} {rm rm' : Room} {n : Int} {C : Int → Prop} {sp sp' : XSp} (hM : XCn y (Cond.code y cb mL none :: xT) rm sp) (hM' : XCe y (Cond.code y cb mL none :: xT) rm' sp')
    (hsp : ∀ (a : Int) (M : XM) (Q : XPo), XInR a → C a → Q [] M → sp [xI a] M Q) (hsp' : ∀ (a : Int) (M : XM) (Q : XPo), XInR a → ¬ C a → Q [xI n, xI 0] M → sp' [xI a] M Q)
    (hV : XcS R own index 1 y cb mL none rm) (hV' : XcT R own index 1 y cb mL none rm') (d : decode cc pc = .ok (.invokestatic index, 3)) : XSx R cc nL own (q0 :: xT) ret Post pc (j_T1 n C Post) := by
  intro p l e s m args below meth c D G ρ hC hY L st M K h hk
  simp only [j_T1] at h
  split at h
  next a st' =>
    obtain ⟨⟨ha, hcat⟩, h1, h0⟩ := h
    by_cases hc : C a
    · exact xs_callS hM hV d p l e s m args below meth c 0 0 _ D G ρ hC L M [xI a] st' K rfl hcat (hsp a M _ ha hc (h1 hc)) hk
    · exact xe_callT hM' hV' d p l e s m args below meth c D G ρ hC hY L M [xI a] st' n rfl hcat (hsp' a M _ ha hc ⟨rfl, rfl⟩) (h0 hc)
  next => exact h.elim
end
end XTh

