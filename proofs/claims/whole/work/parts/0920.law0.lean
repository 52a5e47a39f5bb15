section XLy
/-! the law's own frame -/
def SLx (xs : Nat → Int32) (j : Int) : Int := (xs j.toNat).toInt
theorem SL_in (xs : Nat → Int32) (j : Int) : XInR (SLx xs j) := by
  have h1 := Int32.le_toInt (xs j.toNat)
  have h2 := Int32.toInt_lt (xs j.toNat)
  unfold SLx
  exact ⟨by omega, by omega⟩
section
variable {R : Room} {cc : ByteArray} {nL : Nat} {own : String} {q0 : Cond} {Ts : List Cond}
variable {p : Program} {l : Launch} {e : Env} {s : State} {m : MethodId} {args : Array Value} {below : List Frame} {meth : Method} {c : Code} {cells slots : Nat} {Q : State → Prop} {D : va_G} {G : Nat → ClassId} {ρ : XOb → Nat}
theorem xl_st {pc : Nat} {σ : XStp} {L : XLs} {st : List XV} {M : XM} (hC : XCX p R s m args c 0 0 D G ρ cc nL own Ts) (hc : cells ≤ R.cells) (hs : slots ≤ R.slots) (hσ : XSnd R cc nL own Ts none (fun _ _ => False) pc σ) (h : σ pc L st M (XWW p l e R s m args below meth c cells slots Q D G ρ nL)) : XWW p l e R s m args below meth c cells slots Q D G ρ nL pc L st M :=
  hσ p l e s m args below meth c cells slots Q D G ρ ⟨hC.1, hC.2.1, hC.2.2.1, hC.2.2.2.1, hC.2.2.2.2.1, hc, hs⟩ (Or.inl fun _ _ f => f) L st M _ h (fun _ _ _ _ k => k)
/-- what a call of the law's own methods needs -/
def XcL (R : Room) (own : String) (index n : Nat) (y : MethodName) (cb : ByteArray) (mL : Nat) (hh : List (Nat × Nat × Nat × Nat)) (rm : Room) : Prop :=
  (rm.cells = 1 ∧ rm.slots = 6 ∧ rm.frames + 1 ≤ R.frames ∧ 8 + (mL + 11) + rm.locals ≤ R.locals) ∧
  (y.cls ≠ "java/lang/invoke/MethodHandle" ∧ y.cls ≠ "java/lang/invoke/VarHandle" ∧ (parseMethodDescriptor y.desc).map (fun d => d.parameters.length) = some n) ∧
  (Cond.methodLink own index y ∈ xT ∧ Cond.static y ∈ xT ∧ Cond.initialized y.cls ∈ xT ∧ Cond.codeWith y cb mL (some .int) hh ∈ xT)
theorem xl_begin (hC : XCX p R s m args c 0 0 D G ρ cc nL own Ts) (hE : (XEw s ∧ XEs s ∧ XEz (XA ρ s.heap.size) s s.heap) ∧ XEc s) {H : Heap} {locs : List Loc} {M : XM} (hP : va_P D vwCl (xworld G ρ M) H) (hS : va_S (XA ρ s.heap.size) s.heap H locs) : ∀ U : State, U.heap = H → s.WarmedH U.vm → XBW D G ρ H.size M U := by
  intro U hU hW
  obtain ⟨⟨hw, hs, hz⟩, hc⟩ := hE
  refine ⟨⟨xbegin hC hP hS U hU hW, hw.warm hW, hs.warm hW, ?_⟩, XEc.moved hW.alike hc⟩
  rw [hU]
  exact (XEz.moved hW.alike (hz.kept (fun a h1 h2 => hS.2.1 a h1 h2))).narrow (fun q h => XA_le hS.1 q h)
theorem xl_call {index n pc : Nat} {y : MethodName} {cb : ByteArray} {mL : Nat} {hh : List (Nat × Nat × Nat × Nat)} {rm : Room} {sp : XSp} {Post : XPo} (hM : XCw y (Cond.codeWith y cb mL (some .int) hh :: xT) rm sp) (hV : XcL R own index n y cb mL hh rm) (d : decode cc pc = .ok (.invokestatic index, 3))
    (hC : XCX p R s m args c 0 0 D G ρ cc nL own (q0 :: xT)) (hl : l.stackTraces = false) (hE : (XEw s ∧ XEs s ∧ XEz (XA ρ s.heap.size) s s.heap) ∧ XEc s) (hc : cells + 1 ≤ R.cells) (hs : slots + 6 ≤ R.slots)
    {L : XLs} {M : XM} {As st : List XV} (hn : As.length = n) (hcat : xcat st ≤ 8) (h : sp As M Post) (hk : ∀ (rv : List XV) (M' : XM), Post rv M' → XWW p l e R s m args below meth c (cells + 1) (slots + 6) Q D G ρ nL (pc + 3) L (rv ++ st) M') :
    XWW p l e R s m args below meth c cells slots Q D G ρ nL pc L (As.reverse ++ st) M := by
  intro H locs ls hP hS hl'
  obtain ⟨⟨hrc, hrs, hr1, hr2⟩, hd, m1, m2, m4, m5⟩ := hV
  have hMet := hM l hl D G ρ H.size As M Post h
  have hcw := vx_cwSW (R := R) (s := s) (args := args) (own := own) (index := index) (Ts := q0 :: xT) (ws := Cond.codeWith y cb mL (some .int) hh :: xT) (ws' := xT) (rm := rm) (mc := 1) (ms := 6) n hC.1.2.2.2.2 (xgood (by
    intro w hw
    unfold va_wsS at hw
    simp only [List.cons_append, List.nil_append, List.mem_cons] at hw
    rcases hw with rfl | rfl | rfl | rfl | hw
    · exact m1
    · exact m2
    · exact m4
    · exact m5
    · exact hw)) rfl hrc hrs hd ⟨hr1, hr2⟩
  have hr := vx_runSW (e := e) (locs := locs) (meth := meth) (below := below) (As := As.map (xcv ρ)) (rest := st.map (xcv ρ)) (g := F0 m pc ls ((As.reverse ++ st).map (xcv ρ))) hC.1 hMet hcw ⟨xblindW As D G ρ H.size M, fun U hU hW => ⟨rfl, xl_begin hC hE hP hS U hU hW⟩⟩ rfl (by simpa using hn) hl'.1
    (by simp) (lv_room (by rw [xcat_eq]; exact hcat)) d ⟨hc, hs⟩
  intro T hT X
  obtain ⟨v, st₀, t, T', L2, h0, X', hL, e1, e2, ⟨⟨rv, M', hv, hp, hP'⟩, hz, hq⟩, stp⟩ := hr T hT X
  cases hv
  rw [h0] at hz hq
  have hS' : va_S (XA ρ s.heap.size) s.heap T'.heap (locs ++ L2) := ⟨Nat.le_trans hS.1 (by rw [e1]; exact hz), fun q h1 h2 => by
      rw [e1, hq q (Nat.lt_of_lt_of_le h1 hS.1) (fun z => h2 (XA_le hS.1 q z))]
      exact hS.2.1 q h1 h2, fun q hq => by
      rcases List.mem_append.mp hq with h | h
      · exact hS.2.2 q h
      · exact XA_le hS.1 _ (hL q h)⟩
  have h9 := hk _ _ hp T'.heap (locs ++ L2) ls (by rw [e1]; exact hP') hS' hl'
  obtain ⟨t2, a1, b1⟩ := h9 T' rfl X'
  refine ⟨t2, stp t2 ?_, b1⟩
  have : (rv.toList ++ st).map (xcv ρ) = (rv.map (xcv ρ)).toList ++ st.map (xcv ρ) := by cases rv <;> rfl
  rw [this] at a1
  exact a1
/-- the script -/
def XSc (s : State) (ρ : XOb → Nat) (b Ln : Nat) (xs : Nat → Int32) : Prop := va_X b Ln xs s s.heap ∧ b < s.heap.size ∧ ¬ XA ρ s.heap.size b ∧ ρ (40, 0, 0) = b ∧ Ln ≤ 3072
theorem xl_len {pc b Ln : Nat} {xs : Nat → Int32} {L : XLs} {st : List XV} {M : XM} (hC : XCX p R s m args c 0 0 D G ρ cc nL own Ts) (hX : XSc s ρ b Ln xs) (d : decode cc pc = .ok (.arraylength, 1)) (h : XWW p l e R s m args below meth c cells slots Q D G ρ nL (pc + 1) L (xI (Ln : Int) :: st) M) : XWW p l e R s m args below meth c cells slots Q D G ρ nL pc L (xR 40 0 0 :: st) M := by
  intro H locs ls hP hS hl
  obtain ⟨h1, h2, h3, h4, h5⟩ := hX
  have k := h H locs ls hP hS hl
  have e : ((xR 40 0 0 :: st).map (xcv ρ)) = .ref b :: st.map (xcv ρ) := by rw [← h4]; rfl
  have e2 : ((xI (Ln : Int) :: st).map (xcv ρ)) = .int (Int32.ofNat Ln) :: st.map (xcv ρ) := by
    show (Value.int (Int32.ofInt (Ln : Int))) :: _ = _
    rw [Int32.ofInt_eq_ofNat]
  rw [e2] at k
  rw [e]
  exact va_slen hC.1.1 hC.1.2.1 h1 h2 h3 hS d k
theorem xl_sld {pc b Ln : Nat} {xs : Nat → Int32} {L : XLs} {st : List XV} {M : XM} {j : Int} (hC : XCX p R s m args c 0 0 D G ρ cc nL own Ts) (hX : XSc s ρ b Ln xs) (h0 : 0 ≤ j) (h1 : j < Ln) (d : decode cc pc = .ok (.iaload, 1)) (h : XWW p l e R s m args below meth c cells slots Q D G ρ nL (pc + 1) L (xI (SLx xs j) :: st) M) : XWW p l e R s m args below meth c cells slots Q D G ρ nL pc L (xI j :: xR 40 0 0 :: st) M := by
  intro H locs ls hP hS hl
  obtain ⟨g1, g2, g3, g4, g5⟩ := hX
  have k := h H locs ls hP hS hl
  have hn := x_nat h0 (show j < 2147483648 by omega)
  have e : ((xI j :: xR 40 0 0 :: st).map (xcv ρ)) = .int (Int32.ofInt j) :: .ref b :: st.map (xcv ρ) := by rw [← g4]; rfl
  have e2 : ((xI (SLx xs j) :: st).map (xcv ρ)) = .int (xs (Int32.ofInt j).toNatClampNeg) :: st.map (xcv ρ) := by
    show (Value.int (Int32.ofInt (SLx xs j))) :: _ = _
    rw [hn]
    unfold SLx
    rw [Int32.ofInt_toInt]
  rw [e2] at k
  rw [e]
  exact va_sld hC.1.1 hC.1.2.1 g1 g2 g3 hS (x_in h0 h1 (by omega)) d k
end
/-- the end of the law -/
theorem xl_end {p : Program} {l : Launch} {e : Env} {s : State} {m : MethodId} {below : List Frame} {meth : Method} {c : Code} {D : va_G} {G : Nat → ClassId} {ρ : XOb → Nat} {b cells slots pc : Nat} {L : XLs} {M : XM} {Ts : List Cond} (hC : XCX p room_1 s m #[Value.ref b] c 0 0 D G ρ cL_law 9 RL Ts) (hr : meth.sig.returnType = ret) (hlocks : meth.locks = false) (hA : ∀ o ∈ xobs, s.heap.size ≤ ρ o) (hc : cells ≤ 601024) (hs : slots ≤ 7293034) (d : decode cL_law pc = .ok (.ireturn, 1)) :
    XWW p l e room_1 s m #[Value.ref b] below meth c cells slots (lw_Z below #[Value.ref b] s) D G ρ 9 pc L [xI 1] M := by
  intro H locs ls hP hS hl
  refine va_forget (fun q hq => ?_) ?_
  · rcases hS.2.2 q hq with ⟨o, ho, h1⟩ | h1
    · rw [h1]
      exact hA o ho
    · exact h1
  · refine W.widen (k := 601024) (n := 7293034) hc hs ?_
    refine W.base ?_
    exact lw_ret (Drawn.sameBut.refl s.drawn lw_cs) hC.1.1 hC.1.2.1 hr hlocks d
end XLy

