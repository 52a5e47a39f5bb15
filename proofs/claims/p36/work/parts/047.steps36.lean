section XM7
/-! more steps: >>> 1, dup_x2, static calls of any number of arguments -/
def j_ush : XStp := fun pc L st M K => match st with
  | .inl b :: .inl a :: st => b = 1 ∧ K (pc + 1) L (xI (a % 4294967296 / 2) :: st) M
  | _ => False
def j_dupx2 : XStp := fun pc L st M K => match st with
  | v :: w :: x :: st => (xc1 v = 1 ∧ xc1 w = 1 ∧ xc1 x = 1) ∧ K (pc + 1) L (v :: w :: x :: v :: st) M
  | _ => False
def j_Sn (n : Nat) (sp : XSp) : XStp := fun pc L st M K => (n ≤ st.length ∧ xcat (st.drop n) ≤ 8) ∧ sp (st.take n).reverse M (fun rv M' => K (pc + 3) L (rv ++ st.drop n) M')
theorem x_u32 (a : Int) : (Int32.ofInt a).toUInt32.toNat = (a % 4294967296).toNat := by
  show (Int32.ofInt a).toBitVec.toNat = _
  rw [Int32.toBitVec_ofInt, BitVec.toNat_ofInt]
  rfl
theorem x_ush (a : Int) : ((Int32.ofInt a).toUInt32 >>> ((Int32.ofInt 1).toUInt32 &&& Int32.toUInt32 31)).toInt32 = Int32.ofInt (a % 4294967296 / 2) := by
  have hc : ((Int32.ofInt 1).toUInt32 &&& Int32.toUInt32 31) = 1 := by decide
  rw [hc]
  have h3 : ((Int32.ofInt a).toUInt32 >>> 1) = (Int32.ofInt (a % 4294967296 / 2)).toUInt32 := by
    apply UInt32.toNat_inj.mp
    rw [UInt32.toNat_shiftRight, x_u32, x_u32]
    have e : (1 : UInt32).toNat % 32 = 1 := by decide
    rw [e, Nat.shiftRight_eq_div_pow, Nat.pow_one]
    omega
  rw [h3]
  rfl
theorem x_and17 (a : Int) : Int32.ofInt a &&& Int32.ofInt 131071 = Int32.ofInt (a % 131072) := by
  have hm : (Int32.ofInt 131071).toBitVec.toNat = 2 ^ 17 - 1 := by decide
  rw [pk_and _ 17 hm]
  have h1 : (Int32.ofInt a).toBitVec.toNat = (a % 4294967296).toNat := by
    rw [Int32.toBitVec_ofInt, BitVec.toNat_ofInt]
    rfl
  have h2 : ((a % 4294967296).toNat % 2 ^ 17 : Nat) = (a % 131072).toNat := by omega
  rw [h1, h2]
  show Int32.ofNat _ = _
  rw [← Int32.ofInt_eq_ofNat, Int.toNat_of_nonneg (Int.emod_nonneg a (by omega))]
/-- a number as an int has it -/
def wr (x : Int) : Int := (x + 2147483648) % 4294967296 - 2147483648
theorem wr_in (x : Int) : XInR (wr x) := by
  unfold wr
  exact ⟨by omega, by omega⟩
theorem wr_eq (x : Int) : Int32.ofInt (wr x) = Int32.ofInt x := by
  have h : (Int32.ofInt (wr x)).toUInt32 = (Int32.ofInt x).toUInt32 := by
    apply UInt32.toNat_inj.mp
    rw [x_u32, x_u32]
    unfold wr
    omega
  exact congrArg UInt32.toInt32 h
section
variable {R : Room} {cc : ByteArray} {nL : Nat} {own : String} {Ts : List Cond} {ret : Option FieldType} {Post : XPo} {pc : Nat}
theorem xs_iushr (d : decode cc pc = .ok (.iushr, 1)) : XSnd R cc nL own Ts ret Post pc j_ush := by
  intro p l e s m args below meth c cells slots Q D G ρ hC hR L st M K h hk H locs ls hP hS hl
  simp only [j_ush] at h
  split at h
  next b a st' =>
    obtain ⟨rfl, h⟩ := h
    refine lv_iushr (x := Int32.ofInt a) (y := Int32.ofInt 1) (v := Int32.ofInt (a % 4294967296 / 2)) (rest := st'.map (xcv ρ)) hC.1.1 hC.1.2.1 d (x_ush a) ?_
    exact hk _ _ _ _ h H locs ls hP hS hl
  next => exact h.elim
theorem xs_iandb {w : Int} (k : Nat) (hw : w = 2 ^ k) (hk17 : k = 17) (d : decode cc pc = .ok (.iand, 1)) : XSnd R cc nL own Ts ret Post pc (j_and w) := by
  intro p l e s m args below meth c cells slots Q D G ρ hC hR L st M K h hk H locs ls hP hS hl
  simp only [j_and] at h
  split at h
  next b a st' =>
    subst hk17
    have hw2 : w = 131072 := by rw [hw]; rfl
    subst hw2
    refine lv_iand (x := Int32.ofInt a) (y := Int32.ofInt b) (rest := st'.map (xcv ρ)) hC.1.1 hC.1.2.1 d ?_
    rw [show b = 131071 from by have := h.1; omega, x_and17]
    exact hk _ _ _ _ h.2 H locs ls hP hS hl
  next => exact h.elim
theorem xs_dupx2 (d : decode cc pc = .ok (.dup_x2, 1)) : XSnd R cc nL own Ts ret Post pc j_dupx2 := by
  intro p l e s m args below meth c cells slots Q D G ρ hC hR L st M K h hk H locs ls hP hS hl
  simp only [j_dupx2] at h
  split at h
  next v w x st' => exact lv_dup_x2 (va := xcv ρ v) (vb := xcv ρ w) (vd := xcv ρ x) (rest := st'.map (xcv ρ)) hC.1.1 hC.1.2.1 d (by rw [xc1_eq]; exact h.1.1) (by rw [xc1_eq]; exact h.1.2.1) (by rw [xc1_eq]; exact h.1.2.2) (hk _ _ _ _ h.2 H locs ls hP hS hl)
  next => exact h.elim
end
variable {R : Room} {cc : ByteArray} {nL : Nat} {own : String} {q0 : Cond} {ret : Option FieldType} {Post : XPo} {pc : Nat}
theorem xs_Sn {index n : Nat} {y : MethodName} {cb : ByteArray} {mL : Nat} {rt : Option FieldType} {rm : Room} {sp : XSp} (hM : XCn y (Cond.code y cb mL rt :: xT) rm sp) (hV : XcS R own index n y cb mL rt rm) (d : decode cc pc = .ok (.invokestatic index, 3)) : XSnd R cc nL own (q0 :: xT) ret Post pc (j_Sn n sp) := by
  intro p l e s m args below meth c cells slots Q D G ρ hC hR L st M K h hk
  simp only [j_Sn] at h
  have hst : ((st.take n).reverse).reverse ++ st.drop n = st := by rw [List.reverse_reverse]; exact List.take_append_drop n st
  have := xs_callS hM hV d p l e s m args below meth c cells slots Q D G ρ hC L M (st.take n).reverse (st.drop n) K (by rw [List.length_reverse, List.length_take]; omega) h.1.2 h.2 hk
  rw [hst] at this
  exact this
end XM7

