section XSt3
/-! more steps: doubles, longs -/
/-- what is left of a number in 32 bits -/
def w32 (a : Int) : Int := (Int32.ofInt a).toInt
def j_i2lw : XStp := fun pc L st M K => match st with
  | .inl a :: st => K (pc + 1) L (xJ (w32 a) :: st) M
  | _ => False
def j_i2d : XStp := fun pc L st M K => match st with
  | .inl a :: st => K (pc + 1) L (xF (FP.i2d (Int32.ofInt a)) :: st) M
  | _ => False
def j_cF (v : UInt64) (len : Nat) : XStp := fun pc L st M K => K (pc + len) L (xF v :: st) M
def j_ddiv : XStp := fun pc L st M K => match st with
  | .inr (.inr (.inr y)) :: .inr (.inr (.inr x)) :: st => vf_n64 (FP.ddiv x y) ∧ K (pc + 1) L (xF (FP.ddiv x y) :: st) M
  | _ => False
def j_dmul : XStp := fun pc L st M K => match st with
  | .inr (.inr (.inr y)) :: .inr (.inr (.inr x)) :: st => vf_n64 (FP.dmul x y) ∧ K (pc + 1) L (xF (FP.dmul x y) :: st) M
  | _ => False
def j_dsub : XStp := fun pc L st M K => match st with
  | .inr (.inr (.inr y)) :: .inr (.inr (.inr x)) :: st => vf_n64 (FP.dsub x y) ∧ K (pc + 1) L (xF (FP.dsub x y) :: st) M
  | _ => False
/-- what a comparison of doubles pushes -/
def dcV (op : CmpOp) (x y : UInt64) : Int := (Op.cmpValue (FP.dcmp x y) op).toInt
def j_dcp (op : CmpOp) : XStp := fun pc L st M K => match st with
  | .inr (.inr (.inr y)) :: .inr (.inr (.inr x)) :: st => K (pc + 1) L (xI (dcV op x y) :: st) M
  | _ => False
def j_d2l : XStp := fun pc L st M K => match st with
  | .inr (.inr (.inr x)) :: st => K (pc + 1) L (xJ (FP.d2l x).toInt :: st) M
  | _ => False
def j_dld (i len : Nat) : XStp := fun pc L st M K => match xget L i with
  | some (.inr (.inr (.inr x))) => K (pc + len) L (xF x :: st) M
  | _ => False
def j_dst (i len : Nat) : XStp := fun pc L st M K => match st with
  | .inr (.inr (.inr x)) :: st => K (pc + len) (xset2 L i (xF x)) st M
  | _ => False
def j_lshl : XStp := fun pc L st M K => match st with
  | .inl b :: .inr (.inr (.inl a)) :: st => b = 52 ∧ K (pc + 1) L (xJ (a * 4503599627370496) :: st) M
  | _ => False
def j_lor : XStp := fun pc L st M K => match st with
  | .inr (.inr (.inl v)) :: .inr (.inr (.inl a)) :: st => (∃ u w : Nat, u < 2048 ∧ w < 4503599627370496 ∧ a = (u : Int) * 4503599627370496 ∧ v = (w : Int)) ∧ K (pc + 1) L (xJ (a + v) :: st) M
  | _ => False
def j_raw : XStp := fun pc L st M K => match st with
  | .inr (.inr (.inr x)) :: st => xcat st ≤ 4 ∧ K (pc + 3) L (xJ (x.toNat : Int) :: st) M
  | _ => False
theorem x64_nat {x : Int} (g0 : 0 ≤ x) (g1 : x < 18446744073709551616) : (Int64.ofInt x).toBitVec.toNat = x.toNat := by
  rw [Int64.toBitVec_ofInt, BitVec.toNat_ofInt]
  show (x % 18446744073709551616).toNat = _
  rw [Int.emod_eq_of_lt g0 g1]
theorem x_lsh (x : Int64) : x <<< ((Int32.ofInt 52).toInt64 &&& 63) = x * Int64.ofInt 4503599627370496 := by
  rw [show (Int32.ofInt 52).toInt64 &&& 63 = (52 : Int64) from by decide +kernel]
  apply Int64.toBitVec_inj.mp
  rw [Int64.toBitVec_shiftLeft, Int64.toBitVec_mul, show (Int64.ofInt 4503599627370496).toBitVec = BitVec.twoPow 64 52 from by decide +kernel, BitVec.mul_twoPow_eq_shiftLeft, BitVec.shiftLeft_eq', show ((52 : Int64).toBitVec.smod 64).toNat = 52 from by decide +kernel]
theorem x_lor {u w : Nat} (hu : u < 2048) (hw : w < 4503599627370496) : Int64.ofInt ((u : Int) * 4503599627370496) ||| Int64.ofInt (w : Int) = Int64.ofInt ((u : Int) * 4503599627370496 + (w : Int)) := by
  apply Int64.toBitVec_inj.mp
  apply BitVec.eq_of_toNat_eq
  rw [Int64.toBitVec_or, BitVec.toNat_or, x64_nat (by omega) (by omega), x64_nat (by omega) (by omega), x64_nat (by omega) (by omega)]
  have h4 := Nat.two_pow_add_eq_or_of_lt (i := 52) (b := w) (Nat.lt_of_lt_of_le hw (by decide)) u
  rw [show ((u : Int) * 4503599627370496).toNat = 2 ^ 52 * u from by omega, show ((w : Int)).toNat = w from by omega, show ((u : Int) * 4503599627370496 + (w : Int)).toNat = 2 ^ 52 * u + w from by omega]
  exact h4.symm
theorem x_raw (x : UInt64) : Int64.ofInt (x.toNat : Int) = x.toInt64 := by
  have hx := x.toNat_lt
  apply Int64.toBitVec_inj.mp
  apply BitVec.eq_of_toNat_eq
  rw [x64_nat (by omega) (by omega)]
  show ((x.toNat : Int)).toNat = x.toNat
  omega
section
variable {R : Room} {cc : ByteArray} {nL : Nat} {own : String} {Ts : List Cond} {ret : Option FieldType} {Post : XPo} {pc : Nat}
theorem xs_i2lw (d : decode cc pc = .ok (.i2l, 1)) : XSnd R cc nL own Ts ret Post pc j_i2lw := by
  intro p l e s m args below meth c cells slots Q D G ρ hC hR L st M K h hk H locs ls hP hS hl
  simp only [j_i2lw] at h
  split at h
  next a st' =>
    refine lv_i2l (x := Int32.ofInt a) (v := Int64.ofInt (w32 a)) (rest := st'.map (xcv ρ)) hC.1.1 hC.1.2.1 d ?_ (hk _ _ _ _ h H locs ls hP hS hl)
    rw [← Int64.ofInt_int32ToInt]
    rfl
  next => exact h.elim
theorem xs_i2d (d : decode cc pc = .ok (.i2d, 1)) : XSnd R cc nL own Ts ret Post pc j_i2d := by
  intro p l e s m args below meth c cells slots Q D G ρ hC hR L st M K h hk H locs ls hP hS hl
  simp only [j_i2d] at h
  split at h
  next a st' => exact lv_i2d (x := Int32.ofInt a) (rest := st'.map (xcv ρ)) hC.1.1 hC.1.2.1 d (hk _ _ _ _ h H locs ls hP hS hl)
  next => exact h.elim
theorem xs_dconst0 (d : decode cc pc = .ok (.dconst 0, 1)) : XSnd R cc nL own Ts ret Post pc (j_cF FP.dconst0 1) := by
  intro p l e s m args below meth c cells slots Q D G ρ hC hR L st M K h hk H locs ls hP hS hl
  exact lv_dconst0 hC.1.1 hC.1.2.1 d (hk _ _ _ _ h H locs ls hP hS hl)
theorem xs_dconst1 (d : decode cc pc = .ok (.dconst 1, 1)) : XSnd R cc nL own Ts ret Post pc (j_cF FP.dconst1 1) := by
  intro p l e s m args below meth c cells slots Q D G ρ hC hR L st M K h hk H locs ls hP hS hl
  exact lv_dconst1 hC.1.1 hC.1.2.1 d (hk _ _ _ _ h H locs ls hP hS hl)
theorem xs_ldc2d {v : UInt64} {index : Nat} (d : decode cc pc = .ok (.ldc2_w index, 3)) (hw : Cond.constantDouble own index v ∈ Ts) : XSnd R cc nL own Ts ret Post pc (j_cF v 3) := by
  intro p l e s m args below meth c cells slots Q D G ρ hC hR L st M K h hk H locs ls hP hS hl
  exact lv_ldc2d hC.1.1 hC.1.2.1 hC.1.2.2.2.1 (hC.1.2.2.2.2 _ hw) d (hk _ _ _ _ h H locs ls hP hS hl)
theorem xs_lconst {n : Fin 2} {k : Int} (d : decode cc pc = .ok (.lconst n, 1)) (hv : Int64.ofNat (n : Nat) = Int64.ofInt k) : XSnd R cc nL own Ts ret Post pc (j_cJ k 1) := by
  intro p l e s m args below meth c cells slots Q D G ρ hC hR L st M K h hk H locs ls hP hS hl
  exact lv_lconst hC.1.1 hC.1.2.1 d hv (hk _ _ _ _ h H locs ls hP hS hl)
theorem xs_ddiv (d : decode cc pc = .ok (.ddiv, 1)) : XSnd R cc nL own Ts ret Post pc j_ddiv := by
  intro p l e s m args below meth c cells slots Q D G ρ hC hR L st M K h hk H locs ls hP hS hl
  simp only [j_ddiv] at h
  split at h
  next y x st' => exact lv_ddiv (x := x) (y := y) (rest := st'.map (xcv ρ)) hC.1.1 hC.1.2.1 d h.1 (hk _ _ _ _ h.2 H locs ls hP hS hl)
  next => exact h.elim
theorem xs_dmul (d : decode cc pc = .ok (.dmul, 1)) : XSnd R cc nL own Ts ret Post pc j_dmul := by
  intro p l e s m args below meth c cells slots Q D G ρ hC hR L st M K h hk H locs ls hP hS hl
  simp only [j_dmul] at h
  split at h
  next y x st' => exact lv_dmul (x := x) (y := y) (rest := st'.map (xcv ρ)) hC.1.1 hC.1.2.1 d h.1 (hk _ _ _ _ h.2 H locs ls hP hS hl)
  next => exact h.elim
theorem xs_dsub (d : decode cc pc = .ok (.dsub, 1)) : XSnd R cc nL own Ts ret Post pc j_dsub := by
  intro p l e s m args below meth c cells slots Q D G ρ hC hR L st M K h hk H locs ls hP hS hl
  simp only [j_dsub] at h
  split at h
  next y x st' => exact lv_dsub (x := x) (y := y) (rest := st'.map (xcv ρ)) hC.1.1 hC.1.2.1 d h.1 (hk _ _ _ _ h.2 H locs ls hP hS hl)
  next => exact h.elim
theorem xs_dcp {op : CmpOp} (d : decode cc pc = .ok (.dcmp op, 1)) : XSnd R cc nL own Ts ret Post pc (j_dcp op) := by
  intro p l e s m args below meth c cells slots Q D G ρ hC hR L st M K h hk H locs ls hP hS hl
  simp only [j_dcp] at h
  split at h
  next y x st' =>
    have q := hk _ _ _ _ h H locs ls hP hS hl
    simp only [List.map_cons, xcv, dcV, Int32.ofInt_toInt] at q
    exact lv_dcmp (x := x) (y := y) (rest := st'.map (xcv ρ)) hC.1.1 hC.1.2.1 d q
  next => exact h.elim
theorem xs_d2l (d : decode cc pc = .ok (.d2l, 1)) : XSnd R cc nL own Ts ret Post pc j_d2l := by
  intro p l e s m args below meth c cells slots Q D G ρ hC hR L st M K h hk H locs ls hP hS hl
  simp only [j_d2l] at h
  split at h
  next x st' =>
    have q := hk _ _ _ _ h H locs ls hP hS hl
    simp only [List.map_cons, xcv, Int64.ofInt_toInt] at q
    exact lv_d2l (x := x) (rest := st'.map (xcv ρ)) hC.1.1 hC.1.2.1 d q
  next => exact h.elim
theorem xs_dload_n {k : Fin 4} {i : Nat} (d : decode cc pc = .ok (.dload_n k, 1)) (hi : (k : Nat) = i) : XSnd R cc nL own Ts ret Post pc (j_dld i 1) := by
  intro p l e s m args below meth c cells slots Q D G ρ hC hR L st M K h hk H locs ls hP hS hl
  simp only [j_dld] at h
  split at h
  next x hx => exact lv_dload_n hC.1.1 hC.1.2.1 d hi (xlv_at hl hx) (hk _ _ _ _ h H locs ls hP hS hl)
  next => exact h.elim
theorem xs_dload {i : Nat} (d : decode cc pc = .ok (.dload i, 2)) : XSnd R cc nL own Ts ret Post pc (j_dld i 2) := by
  intro p l e s m args below meth c cells slots Q D G ρ hC hR L st M K h hk H locs ls hP hS hl
  simp only [j_dld] at h
  split at h
  next x hx => exact lv_dload hC.1.1 hC.1.2.1 d (xlv_at hl hx) (hk _ _ _ _ h H locs ls hP hS hl)
  next => exact h.elim
theorem xs_dstore_n {k : Fin 4} {i : Nat} (d : decode cc pc = .ok (.dstore_n k, 1)) (hi : (k : Nat) = i) (hn : i + 1 < nL) : XSnd R cc nL own Ts ret Post pc (j_dst i 1) := by
  intro p l e s m args below meth c cells slots Q D G ρ hC hR L st M K h hk H locs ls hP hS hl
  simp only [j_dst] at h
  split at h
  next x st' => exact lv_dstore_n hC.1.1 hC.1.2.1 d hi hl hn rfl (fun ls' hl' => hk _ _ _ _ h H locs ls' hP hS (xlv_set2 (v := xF x) hl'))
  next => exact h.elim
theorem xs_dstore {i : Nat} (d : decode cc pc = .ok (.dstore i, 2)) (hn : i + 1 < nL) : XSnd R cc nL own Ts ret Post pc (j_dst i 2) := by
  intro p l e s m args below meth c cells slots Q D G ρ hC hR L st M K h hk H locs ls hP hS hl
  simp only [j_dst] at h
  split at h
  next x st' => exact lv_dstore hC.1.1 hC.1.2.1 d hl hn rfl (fun ls' hl' => hk _ _ _ _ h H locs ls' hP hS (xlv_set2 (v := xF x) hl'))
  next => exact h.elim
theorem xs_lshl (d : decode cc pc = .ok (.lshl, 1)) : XSnd R cc nL own Ts ret Post pc j_lshl := by
  intro p l e s m args below meth c cells slots Q D G ρ hC hR L st M K h hk H locs ls hP hS hl
  simp only [j_lshl] at h
  split at h
  next b a st' =>
    obtain ⟨rfl, h⟩ := h
    refine lv_lshl (x := Int64.ofInt a) (y := Int32.ofInt 52) (v := Int64.ofInt (a * 4503599627370496)) (rest := st'.map (xcv ρ)) hC.1.1 hC.1.2.1 d ?_ (hk _ _ _ _ h H locs ls hP hS hl)
    rw [x_lsh, Int64.ofInt_mul]
  next => exact h.elim
theorem xs_lor (d : decode cc pc = .ok (.lor, 1)) : XSnd R cc nL own Ts ret Post pc j_lor := by
  intro p l e s m args below meth c cells slots Q D G ρ hC hR L st M K h hk H locs ls hP hS hl
  simp only [j_lor] at h
  split at h
  next v a st' =>
    obtain ⟨⟨u, w, hu, hw, rfl, rfl⟩, h⟩ := h
    refine lv_lor (x := Int64.ofInt ((u : Int) * 4503599627370496)) (y := Int64.ofInt (w : Int)) (rest := st'.map (xcv ρ)) hC.1.1 hC.1.2.1 d ?_
    rw [x_lor hu hw]
    exact hk _ _ _ _ h H locs ls hP hS hl
  next => exact h.elim
theorem xs_raw {index : Nat} (hR1 : 1 ≤ R.frames) (hR2 : 21 ≤ R.locals) (h1 : Cond.methodLink own index ⟨"java/lang/Double", "doubleToRawLongBits", "(D)J"⟩ ∈ Ts) (h2 : Cond.native ⟨"java/lang/Double", "doubleToRawLongBits", "(D)J"⟩ ∈ Ts) (h3 : Cond.static ⟨"java/lang/Double", "doubleToRawLongBits", "(D)J"⟩ ∈ Ts) (h4 : Cond.initialized "java/lang/Double" ∈ Ts) (d : decode cc pc = .ok (.invokestatic index, 3)) : XSnd R cc nL own Ts ret Post pc j_raw := by
  intro p l e s m args below meth c cells slots Q D G ρ hC hR L st M K h hk H locs ls hP hS hl
  simp only [j_raw] at h
  split at h
  next x st' =>
    have q := hk _ _ _ _ h.2 H locs ls hP hS hl
    simp only [List.map_cons, xcv, x_raw] at q
    exact vn_d2l (b := x) (rest := st'.map (xcv ρ)) hC.1.1 hC.1.2.1 (hC.1.2.2.1.trans hl.1.symm) hC.1.2.2.2.1 (hC.1.2.2.2.2 _ h1) (hC.1.2.2.2.2 _ h2) (hC.1.2.2.2.2 _ h3) (hC.1.2.2.2.2 _ h4) hR1 (by rw [xcat_eq]; have := h.1; omega) d q
  next => exact h.elim
end
/-! shapes with longs and doubles -/
def xtF (P : UInt64 → XM → XPo → Prop) : XSp := fun av M Q => match av with
  | [.inr (.inr (.inr x))] => P x M Q
  | _ => False
def xqJ (t : Nat) (P : Int → Int → Int → XM → XPo → Prop) : XSp := fun av M Q => match av with
  | [.inr (.inl (some (t', i, k))), .inr (.inr (.inl a))] => (t' = t ∧ xval t i k) ∧ P i k a M Q
  | _ => False
section
theorem XTF {y : MethodName} {ws ws' : List Cond} {rm : Room} {cc : ByteArray} {nL : Nat} {ret : Option FieldType} (P : XPo → List (Nat × XStp)) (hy : plainName y.cls = true) (hw : ws = Cond.code y cc nL ret :: ws') (hall : ∀ Post, XAll rm cc nL y.cls ws ret Post (P Post)) {S : UInt64 → XM → XPo → Prop} (hn : 2 ≤ nL) (body : ∀ (x : UInt64) (M : XM) (Post : XPo), S x M Post → ∀ WW : XK, XCl (xlk (P Post)) WW → WW 0 (xent nL [xF x]) [] M) : XCn y ws rm (xtF S) := by
  refine XCn.of P hy hw hall ?_ ?_
  · intro av M Post h
    simp only [xtF] at h
    split at h
    · exact hn
    · exact h.elim
  · intro av M Post h WW hC
    simp only [xtF] at h
    split at h
    next x => exact body x M Post h WW hC
    next => exact h.elim
theorem XCJ {y : MethodName} {ws ws' : List Cond} {rm : Room} {cc : ByteArray} {nL : Nat} {ret : Option FieldType} (P : XPo → List (Nat × XStp)) (hy : plainName y.cls = true) (hw : ws = Cond.code y cc nL ret :: ws') (hall : ∀ Post, XAll rm cc nL y.cls ws ret Post (P Post)) {t : Nat} {S : Int → Int → Int → XM → XPo → Prop} (hn : 3 ≤ nL) (body : ∀ (i k a : Int) (M : XM) (Post : XPo), xval t i k → S i k a M Post → ∀ WW : XK, XCl (xlk (P Post)) WW → WW 0 (xent nL [xR t i k, xJ a]) [] M) : XCn y ws rm (xqJ t S) := by
  refine XCn.of P hy hw hall ?_ ?_
  · intro av M Post h
    simp only [xqJ] at h
    split at h
    · exact hn
    · exact h.elim
  · intro av M Post h WW hC
    simp only [xqJ] at h
    split at h
    next t' i k a =>
      obtain ⟨⟨rfl, hv⟩, h⟩ := h
      exact body i k a M Post hv h WW hC
    next => exact h.elim
end
end XSt3

