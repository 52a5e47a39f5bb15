section XLy
/-! the law's own frame -/
def SLx (xs : Nat → Int32) (j : Int) : Int := (xs j.toNat).toInt
theorem SL_in (xs : Nat → Int32) (j : Int) : XInR (SLx xs j) := by
  have h1 := Int32.le_toInt (xs j.toNat)
  have h2 := Int32.toInt_lt (xs j.toNat)
  unfold SLx
  exact ⟨by omega, by omega⟩
section
variable {R : Room} {cc : ByteArray} {nL : Nat} {own : String} {q0 : Cond} {Ts : List Cond}
variable {p : Program} {l : Launch} {e : Env} {s : State} {m : MethodId} {args : Array Value} {below : List Frame} {meth : Method} {c : Code} {cells slots : Nat} {Q : State → Prop} {D : va_G} {G : Nat → ClassId} {ρ : XOb → Nat}
/-- the script -/
def XSc (s : State) (ρ : XOb → Nat) (b Ln : Nat) (xs : Nat → Int32) : Prop := va_X b Ln xs s s.heap ∧ b < s.heap.size ∧ ¬ XA ρ s.heap.size b ∧ ρ (40, 0, 0) = b ∧ Ln ≤ 260
theorem xl_len {pc b Ln : Nat} {xs : Nat → Int32} {L : XLs} {st : List XV} {M : XM} (hC : XCX p R s m args c cells slots D G ρ cc nL own Ts) (hX : XSc s ρ b Ln xs) (d : decode cc pc = .ok (.arraylength, 1)) (h : XWW p l e R s m args below meth c cells slots Q D G ρ nL (pc + 1) L (xI (Ln : Int) :: st) M) : XWW p l e R s m args below meth c cells slots Q D G ρ nL pc L (xR 40 0 0 :: st) M := by
  intro H locs ls hP hS hl
  obtain ⟨h1, h2, h3, h4, h5⟩ := hX
  have k := h H locs ls hP hS hl
  have e : ((xR 40 0 0 :: st).map (xcv ρ)) = .ref b :: st.map (xcv ρ) := by rw [← h4]; rfl
  have e2 : ((xI (Ln : Int) :: st).map (xcv ρ)) = .int (Int32.ofNat Ln) :: st.map (xcv ρ) := by
    show (Value.int (Int32.ofInt (Ln : Int))) :: _ = _
    rw [Int32.ofInt_eq_ofNat]
  rw [e2] at k
  rw [e]
  exact va_slen hC.1.1 hC.1.2.1 h1 h2 h3 hS d k
theorem xl_sld {pc b Ln : Nat} {xs : Nat → Int32} {L : XLs} {st : List XV} {M : XM} {j : Int} (hC : XCX p R s m args c cells slots D G ρ cc nL own Ts) (hX : XSc s ρ b Ln xs) (h0 : 0 ≤ j) (h1 : j < Ln) (d : decode cc pc = .ok (.iaload, 1)) (h : XWW p l e R s m args below meth c cells slots Q D G ρ nL (pc + 1) L (xI (SLx xs j) :: st) M) : XWW p l e R s m args below meth c cells slots Q D G ρ nL pc L (xI j :: xR 40 0 0 :: st) M := by
  intro H locs ls hP hS hl
  obtain ⟨g1, g2, g3, g4, g5⟩ := hX
  have k := h H locs ls hP hS hl
  have hn := x_nat h0 (show j < 2147483648 by omega)
  have e : ((xI j :: xR 40 0 0 :: st).map (xcv ρ)) = .int (Int32.ofInt j) :: .ref b :: st.map (xcv ρ) := by rw [← g4]; rfl
  have e2 : ((xI (SLx xs j) :: st).map (xcv ρ)) = .int (xs (Int32.ofInt j).toNatClampNeg) :: st.map (xcv ρ) := by
    show (Value.int (Int32.ofInt (SLx xs j))) :: _ = _
    rw [hn]
    unfold SLx
    rw [Int32.ofInt_toInt]
  rw [e2] at k
  rw [e]
  exact va_sld hC.1.1 hC.1.2.1 g1 g2 g3 hS (x_in h0 h1 (by omega)) d k
end
/-- the end of the law -/
theorem xl_end {p : Program} {l : Launch} {e : Env} {s : State} {m : MethodId} {below : List Frame} {meth : Method} {c : Code} {D : va_G} {G : Nat → ClassId} {ρ : XOb → Nat} {b cells slots pc : Nat} {L : XLs} {M : XM} {Ts : List Cond} (hC : XCX p room_1 s m #[Value.ref b] c cells slots D G ρ cL_law 20 RL Ts) (hr : meth.sig.returnType = ret) (hlocks : meth.locks = false) (hA : ∀ o ∈ xobs, s.heap.size ≤ ρ o) (d : decode cL_law pc = .ok (.ireturn, 1)) :
    XWW p l e room_1 s m #[Value.ref b] below meth c cells slots (lw_Z below #[Value.ref b] s) D G ρ 20 pc L [xI 1] M := by
  intro H locs ls hP hS hl
  refine va_forget (fun q hq => ?_) ?_
  · rcases hS.2.2 q hq with ⟨o, ho, h1⟩ | h1
    · rw [h1]
      exact hA o ho
    · exact h1
  · refine W.widen (k := 600086) (n := 7301442) hC.2.2.2.2.2.1 hC.2.2.2.2.2.2 ?_
    exact lw_ret hC.1.1 hC.1.2.1 hr hlocks d
end XLy
