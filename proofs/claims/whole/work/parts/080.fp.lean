section XFp
/-! doubles: the share of two whole numbers, its bits -/
theorem fp_tails : FP.Core.b64.tails = 4503599627370496 := by decide
theorem fp_qmin : FP.Core.b64.qmin = -1074 := by decide
theorem fp_qmax : FP.Core.b64.qmax = 971 := by decide
theorem fp_p : FP.Core.b64.p = 53 := rfl
theorem fp_pow : 2 ^ FP.Core.b64.p = 9007199254740992 := by decide
theorem fp_fits {c : Nat} {q : Int} (h0 : 4503599627370496 ≤ c) (h1 : c < 9007199254740992) (h2 : -1074 ≤ q) (h3 : q ≤ 971) : FP.Core.fits FP.Core.b64 (.fin false c q) := by
  show c < 2 ^ FP.Core.b64.p ∧ FP.Core.b64.qmin ≤ q ∧ q ≤ FP.Core.b64.qmax ∧ (q = FP.Core.b64.qmin ∨ FP.Core.b64.tails ≤ c)
  rw [fp_pow, fp_qmin, fp_qmax, fp_tails]
  exact ⟨h1, h2, h3, Or.inr h0⟩
/-- a whole number below 2^53, times a power of two -/
theorem fp_norm (d : Nat) (e : Int) (h0 : 0 < d) (h1 : d < 9007199254740992) (he : -900 ≤ e ∧ e ≤ 900) : FP.Core.roundRatio FP.Core.b64 false d 1 e = .fin false (d * 2 ^ (52 - d.log2)) (e - ((52 - d.log2 : Nat) : Int)) := by
  have a1 : 2 ^ d.log2 ≤ d := Nat.log2_self_le (by omega)
  have a2 : d < 2 ^ (d.log2 + 1) := Nat.lt_log2_self
  have hl : d.log2 ≤ 52 := by
    have : d.log2 < 53 := (Nat.log2_lt (by omega)).mpr (Nat.lt_of_lt_of_le h1 (by decide))
    omega
  generalize d.log2 = g at a1 a2 hl ⊢
  obtain ⟨k, hk⟩ : ∃ k, k = 52 - g := ⟨_, rfl⟩
  rw [← hk]
  have p1 : 2 ^ g * 2 ^ k = 4503599627370496 := (Nat.pow_add 2 g k).symm.trans (by rw [show g + k = 52 from by omega])
  have p2 : 2 ^ (g + 1) * 2 ^ k = 9007199254740992 := (Nat.pow_add 2 (g + 1) k).symm.trans (by rw [show g + 1 + k = 53 from by omega])
  have k0 := Nat.two_pow_pos k
  refine FP.Core.roundRatio_exact FP.Core.good_b64 (by decide) (fp_fits ?_ ?_ (by omega) (by omega)) ?_
  · rw [← p1]
    exact Nat.mul_le_mul_right _ a1
  · rw [← p2]
    exact Nat.mul_lt_mul_of_pos_right a2 k0
  · rw [show (e - (e - (k : Int))).toNat = k from by omega, show (e - (k : Int) - e).toNat = 0 from by omega, Nat.pow_zero, Nat.mul_one, Nat.mul_one]
theorem fp_i2d {n : Nat} (h0 : 0 < n) (h1 : n < 2147483648) : FP.Core.val64 (FP.Core.i2d (Int32.ofInt (n : Int))) = .fin false (n * 2 ^ (52 - n.log2)) (0 - ((52 - n.log2 : Nat) : Int)) := by
  have e : (Int32.ofInt (n : Int)).toInt = n := xtI ⟨by omega, by omega⟩
  rw [FP.Core.val64_i2d, e]
  show FP.Core.roundRatio FP.Core.b64 (decide ((n : Int) < 0)) (n : Int).natAbs 1 0 = _
  rw [show decide ((n : Int) < 0) = false from decide_eq_false (by omega), show (n : Int).natAbs = n from by omega]
  exact fp_norm n 0 h0 (by omega) (by omega)
theorem fp_quot {a b : Nat} (ha : 0 < a) (ha1 : a < 2147483648) (hb : 0 < b) (hb1 : b < 2147483648) : FP.Core.val64 (FP.Core.ddiv (FP.Core.i2d (Int32.ofInt (a : Int))) (FP.Core.i2d (Int32.ofInt (b : Int)))) = FP.Core.roundRatio FP.Core.b64 false a b 0 := by
  rw [FP.Core.val64_ddiv, fp_i2d ha ha1, fp_i2d hb hb1]
  generalize 52 - a.log2 = x
  generalize 52 - b.log2 = y
  have hy := Nat.two_pow_pos y
  have hby : 0 < b * 2 ^ y := Nat.mul_pos hb hy
  show (if b * 2 ^ y = 0 then (if a * 2 ^ x = 0 then FP.Core.Datum.nan else .inf (false != false)) else FP.Core.roundRatio FP.Core.b64 (false != false) (a * 2 ^ x) (b * 2 ^ y) (0 - (x : Int) - (0 - (y : Int)))) = _
  rw [if_neg (by omega), show (false != false) = false from rfl]
  refine FP.Core.roundRatio_congr hby hb ?_
  have h : x + (0 - (x : Int) - (0 - (y : Int)) - 0).toNat = y + (0 - (0 - (x : Int) - (0 - (y : Int)))).toNat := by omega
  generalize (0 - (x : Int) - (0 - (y : Int)) - 0).toNat = u at h ⊢
  generalize (0 - (0 - (x : Int) - (0 - (y : Int)))).toNat = v at h ⊢
  calc a * 2 ^ x * b * 2 ^ u = a * b * 2 ^ (x + u) := by rw [Nat.pow_add]; ac_rfl
    _ = a * b * 2 ^ (y + v) := by rw [h]
    _ = a * (b * 2 ^ y) * 2 ^ v := by rw [Nat.pow_add]; ac_rfl
/-- a share above 0 and not above 1 -/
theorem fp_rr {a b : Nat} (ha : 0 < a) (hab : a ≤ b) (hb1 : b < 2147483648) : ∃ E t : Nat, FP.Core.roundRatio FP.Core.b64 false a b 0 = .fin false (4503599627370496 + t) ((E : Int) - 1075) ∧ t < 4503599627370496 ∧ 992 ≤ E ∧ E ≤ 1023 := by
  have hb : 0 < b := by omega
  obtain ⟨l1, l2⟩ := FP.Core.leading_spec ha hb
  have u1 : FP.Core.Below a b 1 := by
    show a * 2 ^ 0 < b * 2 ^ 1
    omega
  have u2 : ¬ FP.Core.Below a b (-31) := by
    show ¬ (a * 2 ^ 31 < b * 2 ^ 0)
    omega
  have g1 := FP.Core.lt_of_below l1 u1
  have g2 := FP.Core.lt_of_below u2 l2
  obtain ⟨q0, hq0⟩ : ∃ q0, q0 = FP.Core.quantum FP.Core.b64 a b 0 := ⟨_, rfl⟩
  have q : q0 = FP.Core.leading a b - 52 := by
    rw [hq0]
    unfold FP.Core.quantum
    rw [fp_qmin, fp_p]
    omega
  obtain ⟨M, hM⟩ : ∃ M, M = FP.Core.nearest (FP.Core.unitsNum a 0 q0) (FP.Core.unitsDen b 0 q0) := ⟨_, rfl⟩
  have key : FP.Core.roundRatio FP.Core.b64 false a b 0 = FP.Core.settle FP.Core.b64 false M q0 := by
    unfold FP.Core.roundRatio FP.Core.roundAt
    rw [if_neg (by omega), ← hq0, ← hM]
  have hf := FP.Core.roundRatio_fits FP.Core.good_b64 false a hb 0
  have hle := FP.Core.nearest_units_le (f := FP.Core.b64) ha hb 0
  rw [← hq0, ← hM, fp_pow] at hle
  by_cases h : M < 9007199254740992
  · have k2 : FP.Core.settle FP.Core.b64 false M q0 = .fin false M q0 := by
      unfold FP.Core.settle FP.Core.bound
      rw [fp_pow, fp_qmax, if_pos h, if_pos (by omega)]
    rw [key, k2] at hf
    have hf2 : M < 2 ^ FP.Core.b64.p ∧ FP.Core.b64.qmin ≤ q0 ∧ q0 ≤ FP.Core.b64.qmax ∧ (q0 = FP.Core.b64.qmin ∨ FP.Core.b64.tails ≤ M) := hf
    have f4 := hf2.2.2.2
    rw [fp_qmin, fp_tails] at f4
    refine ⟨(q0 + 1075).toNat, M - 4503599627370496, ?_, by omega, by omega, by omega⟩
    rw [key, k2, show 4503599627370496 + (M - 4503599627370496) = M from by omega, show (((q0 + 1075).toNat : Nat) : Int) - 1075 = q0 from by omega]
  · have k2 : FP.Core.settle FP.Core.b64 false M q0 = .fin false 4503599627370496 (q0 + 1) := by
      unfold FP.Core.settle FP.Core.bound
      rw [fp_pow, fp_qmax, fp_tails, if_neg h, if_pos (by omega)]
    have q3 : FP.Core.leading a b < 0 := by
      by_cases z : FP.Core.leading a b < 0
      · exact z
      · exfalso
        have z0 : FP.Core.leading a b = 0 := by omega
        rw [z0] at l1
        have l3 : ¬ (a * 2 ^ 0 < b * 2 ^ 0) := l1
        have e : a = b := by omega
        have q1 : q0 = -52 := by omega
        have n1 : FP.Core.unitsNum b 0 (-52) = 4503599627370496 * b := Nat.mul_comm b 4503599627370496
        have n2 : FP.Core.unitsDen b 0 (-52) = b := Nat.mul_one b
        rw [q1, e, n1, n2, FP.Core.nearest_exact _ hb] at hM
        omega
    refine ⟨(q0 + 1076).toNat, 0, ?_, by decide, by omega, by omega⟩
    rw [key, k2, show (((q0 + 1076).toNat : Nat) : Int) - 1075 = q0 + 1 from by omega]
/-- a positive number with the fields E and t -/
def DN (E t : Nat) (x : UInt64) : Prop := FP.Core.val64 x = .fin false (4503599627370496 + t) ((E : Int) - 1075) ∧ t < 4503599627370496 ∧ 1 ≤ E ∧ E ≤ 2000
theorem DN_nan {E t : Nat} {x : UInt64} (h : DN E t x) : FP.Core.val64 x ≠ .nan := by
  rw [h.1]
  exact fun e => FP.Core.Datum.noConfusion e
theorem DN_fin {E t : Nat} {x : UInt64} (h : DN E t x) : FP.Core.DFin x := ⟨_, _, _, h.1⟩
theorem DN_nat {E t : Nat} {x : UInt64} (h : DN E t x) : x.toNat = E * 4503599627370496 + t := by
  have e := FP.Core.toNat_of64 (FP.Core.val64_fits x)
  rw [FP.Core.of64_val64 (DN_nan h), h.1] at e
  obtain ⟨-, h2, h3, h4⟩ := h
  rw [e]
  show (if 4503599627370496 + t < FP.Core.b64.tails then FP.Core.assemble FP.Core.b64 false 0 (4503599627370496 + t) else FP.Core.assemble FP.Core.b64 false (((E : Int) - 1075 - FP.Core.b64.qmin).toNat + 1) (4503599627370496 + t - FP.Core.b64.tails)) = _
  rw [fp_tails, fp_qmin, if_neg (by omega)]
  show (0 * FP.Core.b64.exps + (((E : Int) - 1075 - -1074).toNat + 1)) * FP.Core.b64.tails + (4503599627370496 + t - 4503599627370496) = _
  rw [fp_tails, Nat.zero_mul, Nat.zero_add]
  omega
theorem fp_n64 {x : UInt64} (h : FP.Core.DFin x) : vf_n64 x := by
  have h1 := (FP.Core.fin_bits x).mp h
  unfold vf_n64
  rw [UInt64.le_iff_toNat_le, FP.Core.mask_toNat]
  exact Nat.le_of_lt h1
theorem fp_not {x : UInt64} (h : FP.Core.dIsNaN x = false) : vf_n64 x := by
  have h1 := (FP.Core.notNaN_iff x).mp h
  have h2 := (FP.Core.ne_nan x).mp h1
  unfold vf_n64
  rw [UInt64.le_iff_toNat_le, FP.Core.mask_toNat]
  exact h2
/-- the quotient of two whole numbers, the divisor not 0 -/
theorem fp_div_ok (a : Int) {b : Int} (hb : XInR b) (h0 : ¬ b = 0) : vf_n64 (FP.ddiv (FP.i2d (Int32.ofInt a)) (FP.i2d (Int32.ofInt b))) := by
  have hn : Int32.ofInt b ≠ 0 := fun e => h0 ((x_eq hb x_r0).mp (e.trans (by decide)))
  refine fp_not (FP.Core.ddiv_out (FP.Core.DFin.notNaN (FP.Core.i2d_fin _)) (FP.Core.i2d_fin _) (fun z => ?_))
  exact FP.Core.i2d_ne_zero hn ((FP.Core.zero_bits2 _).mp z)
/-- how many of the meals that came to be owed were served -/
def shV (a b : Int) : UInt64 := if b = 0 then FP.dconst0 else FP.ddiv (FP.i2d (Int32.ofInt a)) (FP.i2d (Int32.ofInt b))
theorem shV_DN {a b : Int} (ha : 0 < a) (hab : a ≤ b) (hb : b < 2147483648) : ∃ E t : Nat, DN E t (shV a b) ∧ 992 ≤ E ∧ E ≤ 1023 := by
  obtain ⟨E, t, h1, h2, h3, h4⟩ := fp_rr (a := a.toNat) (b := b.toNat) (by omega) (by omega) (by omega)
  refine ⟨E, t, ⟨?_, h2, by omega, by omega⟩, h3, h4⟩
  have q := fp_quot (a := a.toNat) (b := b.toNat) (by omega) (by omega) (by omega) (by omega)
  rw [show ((a.toNat : Nat) : Int) = a from by omega, show ((b.toNat : Nat) : Int) = b from by omega] at q
  unfold shV
  rw [if_neg (by omega)]
  exact q.trans h1
theorem fp_zero {x : UInt64} (h : FP.Core.val64 x = .fin false 0 (-1074)) : x = 0 := by
  have z : FP.Core.val64 (0 : UInt64) = .fin false 0 (-1074) := by
    rw [FP.Core.val64_zero, fp_qmin]
  exact FP.Core.val64_inj (by rw [h]; exact fun e => FP.Core.Datum.noConfusion e) (h.trans z.symm)
theorem shV_0 {b : Int} (hb0 : 0 ≤ b) (hb : b < 2147483648) : shV 0 b = 0 := by
  unfold shV
  split
  next h => rfl
  next h =>
    refine fp_zero ?_
    have hi := fp_i2d (n := b.toNat) (by omega) (by omega)
    rw [show ((b.toNat : Nat) : Int) = b from by omega] at hi
    have h0 : FP.Core.val64 (FP.Core.i2d (Int32.ofInt 0)) = .fin false 0 (-1074) := by decide +kernel
    show FP.Core.val64 (FP.Core.ddiv (FP.Core.i2d (Int32.ofInt 0)) (FP.Core.i2d (Int32.ofInt b))) = _
    rw [FP.Core.val64_ddiv, hi, h0]
    generalize 52 - b.toNat.log2 = y
    have hy := Nat.mul_pos (show 0 < b.toNat by omega) (Nat.two_pow_pos y)
    show (if b.toNat * 2 ^ y = 0 then (if 0 = 0 then FP.Core.Datum.nan else .inf (false != false)) else FP.Core.roundRatio FP.Core.b64 (false != false) 0 (b.toNat * 2 ^ y) (-1074 - (0 - (y : Int)))) = _
    rw [if_neg (by omega), show (false != false) = false from rfl]
    unfold FP.Core.roundRatio
    rw [if_pos rfl, fp_qmin]
/-! the class's way to the bits -/
theorem dcmp_k {x y : UInt64} (hx : FP.Core.val64 x ≠ .nan) (hy : FP.Core.val64 y ≠ .nan) (h1 : x.toNat < 9223372036854775808) (h2 : y.toNat < 9223372036854775808) : FP.dcmp x y = some (compare (x.toNat : Int) (y.toNat : Int)) := by
  have e := FP.Core.dcmp_key hx hy
  unfold FP.Core.dkey at e
  rw [if_neg (by omega), if_neg (by omega)] at e
  exact e
theorem val_1 : FP.Core.val64 FP.dconst1 = .fin false 4503599627370496 (-52) := by decide +kernel
theorem val_0 : FP.Core.val64 FP.dconst0 = .fin false 0 (-1074) := by decide +kernel
theorem val_2 : FP.Core.val64 4611686018427387904 = .fin false 4503599627370496 (-51) := by decide +kernel
theorem val_52 : FP.Core.val64 4841369599423283200 = .fin false 4503599627370496 0 := by decide +kernel
theorem nan_1 : FP.Core.val64 FP.dconst1 ≠ .nan := by
  rw [val_1]
  exact fun e => FP.Core.Datum.noConfusion e
theorem nan_0 : FP.Core.val64 FP.dconst0 ≠ .nan := by
  rw [val_0]
  exact fun e => FP.Core.Datum.noConfusion e
theorem nat_1 : FP.dconst1.toNat = 4607182418800017408 := by decide
theorem nat_0 : FP.dconst0.toNat = 0 := by decide
theorem DN_small {E t : Nat} {x : UInt64} (h : DN E t x) : x.toNat < 9223372036854775808 := by
  rw [DN_nat h]
  have h2 := h.2.1
  have h4 := h.2.2.2
  omega
theorem DN_lt1 {E t : Nat} {x : UInt64} (h : DN E t x) (hE : E < 1023) : FP.dcmp x FP.dconst1 = some .lt := by
  rw [dcmp_k (DN_nan h) nan_1 (DN_small h) (by rw [nat_1]; decide)]
  refine congrArg some ((FP.Core.compare_lt_iff _ _).mpr ?_)
  rw [DN_nat h, nat_1]
  have h2 := h.2.1
  omega
theorem DN_ge1 {E t : Nat} {x : UInt64} (h : DN E t x) (hE : 1023 ≤ E) : ¬ FP.dcmp x FP.dconst1 = some .lt := by
  rw [dcmp_k (DN_nan h) nan_1 (DN_small h) (by rw [nat_1]; decide)]
  intro e
  have q := (FP.Core.compare_lt_iff _ _).mp (Option.some.inj e)
  rw [DN_nat h, nat_1] at q
  omega
theorem DN_nn1 {E t : Nat} {x : UInt64} (h : DN E t x) : ¬ FP.dcmp x FP.dconst1 = none := by
  rw [dcmp_k (DN_nan h) nan_1 (DN_small h) (by rw [nat_1]; decide)]
  exact Option.some_ne_none _
theorem DN_cmp0 {E t : Nat} {x : UInt64} (h : DN E t x) : FP.dcmp x FP.dconst0 = some .gt := by
  rw [dcmp_k (DN_nan h) nan_0 (DN_small h) (by rw [nat_0]; decide)]
  refine congrArg some ((FP.Core.compare_gt_iff _ _).mpr ?_)
  rw [DN_nat h, nat_0]
  have h3 := h.2.2.1
  omega
theorem DN_mul2 {E t : Nat} {x : UInt64} (h : DN E t x) (hE : E ≤ 1999) : DN (E + 1) t (FP.dmul x 4611686018427387904) := by
  obtain ⟨h1, h2, h3, h4⟩ := h
  refine ⟨?_, h2, by omega, by omega⟩
  show FP.Core.val64 (FP.Core.dmul x 4611686018427387904) = _
  rw [FP.Core.val64_dmul, h1, val_2]
  show FP.Core.roundRatio FP.Core.b64 (false != false) ((4503599627370496 + t) * 4503599627370496) 1 ((E : Int) - 1075 + -51) = _
  rw [show (false != false) = false from rfl]
  refine FP.Core.roundRatio_exact FP.Core.good_b64 (by decide) (fp_fits (by omega) (by omega) (by omega) (by omega)) ?_
  rw [show ((E : Int) - 1075 + -51 - (((E + 1 : Nat) : Int) - 1075)).toNat = 0 from by omega, show (((E + 1 : Nat) : Int) - 1075 - ((E : Int) - 1075 + -51)).toNat = 52 from by omega]
  omega
/-- what is left above 1, times 2^52 -/
theorem DN_digits {t : Nat} {x : UInt64} (h : DN 1023 t x) : vf_n64 (FP.dsub x FP.dconst1) ∧ vf_n64 (FP.dmul (FP.dsub x FP.dconst1) 4841369599423283200) ∧ (FP.d2l (FP.dmul (FP.dsub x FP.dconst1) 4841369599423283200)).toInt = (t : Int) := by
  obtain ⟨h1, h2, h3, h4⟩ := h
  have hsub : FP.Core.val64 (FP.dsub x FP.dconst1) = FP.Core.roundRatio FP.Core.b64 false t 1 (-52) := by
    show FP.Core.val64 (FP.Core.dsub x FP.dconst1) = _
    rw [FP.Core.val64_dsub, h1, val_1]
    have e : FP.Core.sumUnits false (4503599627370496 + t) (((1023 : Nat) : Int) - 1075) true 4503599627370496 (-52) (-52) = (t : Int) := by
      show ((((4503599627370496 + t) * 2 ^ 0 : Nat) : Int) + -((4503599627370496 * 2 ^ 0 : Nat) : Int)) = (t : Int)
      omega
    show FP.Core.roundRatio FP.Core.b64 (FP.Core.sumSign false true (FP.Core.sumUnits false (4503599627370496 + t) (((1023 : Nat) : Int) - 1075) true 4503599627370496 (-52) (-52))) (FP.Core.sumUnits false (4503599627370496 + t) (((1023 : Nat) : Int) - 1075) true 4503599627370496 (-52) (-52)).natAbs 1 (-52) = _
    rw [e, show (t : Int).natAbs = t from by omega]
    have s : FP.Core.sumSign false true (t : Int) = false := by
      unfold FP.Core.sumSign
      split
      · rfl
      · exact decide_eq_false (by omega)
    rw [s]
  have hmul : ∀ y : UInt64, FP.Core.val64 y = FP.Core.roundRatio FP.Core.b64 false t 1 (-52) → ∃ (c : Nat) (k : Nat), FP.Core.val64 (FP.Core.dmul y 4841369599423283200) = .fin false c (-(k : Int)) ∧ c = t * 2 ^ k := by
    intro y hy
    by_cases t0 : t = 0
    · refine ⟨0, 1074, ?_, by rw [t0, Nat.zero_mul]⟩
      have e0 : FP.Core.val64 y = .fin false 0 (-1074) := by
        rw [hy, t0]
        unfold FP.Core.roundRatio
        rw [if_pos rfl, fp_qmin]
      rw [FP.Core.val64_dmul, e0, val_52]
      show FP.Core.roundRatio FP.Core.b64 (false != false) (0 * 4503599627370496) 1 (-1074 + 0) = _
      unfold FP.Core.roundRatio
      rw [if_pos (Nat.zero_mul _), fp_qmin]
      try rfl
    · rw [fp_norm t (-52) (by omega) (by omega) (by omega)] at hy
      refine ⟨_, 52 - t.log2, ?_, rfl⟩
      rw [FP.Core.val64_dmul, hy, val_52]
      have n0 := fp_norm t 0 (by omega) (by omega) (by omega)
      generalize 52 - t.log2 = k at n0 ⊢
      show FP.Core.roundRatio FP.Core.b64 (false != false) (t * 2 ^ k * 4503599627370496) 1 (-52 - (k : Int) + 0) = _
      rw [show -(k : Int) = 0 - (k : Int) from by omega, ← n0, show (false != false) = false from rfl]
      refine FP.Core.roundRatio_congr (by decide) (by decide) ?_
      rw [show (-52 - (k : Int) + 0 - 0).toNat = 0 from by omega, show (0 - (-52 - (k : Int) + 0)).toNat = k + 52 from by omega, Nat.pow_add]
      calc t * 2 ^ k * 4503599627370496 * 1 * 2 ^ 0 = t * 2 ^ k * 4503599627370496 := by rw [Nat.pow_zero, Nat.mul_one, Nat.mul_one]
        _ = t * 1 * (2 ^ k * 2 ^ 52) := by rw [Nat.mul_one, Nat.mul_assoc]
  obtain ⟨c, k, e1, e2⟩ := hmul _ hsub
  refine ⟨fp_n64 ?_, fp_n64 ⟨_, _, _, e1⟩, ?_⟩
  · by_cases t0 : t = 0
    · refine ⟨false, 0, -1074, ?_⟩
      rw [hsub, t0]
      unfold FP.Core.roundRatio
      rw [if_pos rfl, fp_qmin]
    · exact ⟨_, _, _, hsub.trans (fp_norm t (-52) (by omega) (by omega) (by omega))⟩
  · show (Int64.ofInt (FP.Core.toInt (-2 ^ 63) (2 ^ 63 - 1) (FP.Core.val64 (FP.Core.dmul (FP.dsub x FP.dconst1) 4841369599423283200)))).toInt = _
    rw [e1]
    have tr : FP.Core.truncate false c (-(k : Int)) = (t : Int) := by
      unfold FP.Core.truncate FP.Core.signed
      rw [show (-(k : Int)).toNat = 0 from by omega, show (- -(k : Int)).toNat = k from by omega, e2, Nat.pow_zero, Nat.mul_one, Nat.mul_div_cancel _ (Nat.two_pow_pos k)]
      try rfl
    show (Int64.ofInt (max (-2 ^ 63) (min (2 ^ 63 - 1) (FP.Core.truncate false c (-(k : Int)))))).toInt = _
    rw [tr, Int64.toInt_ofInt_of_le (by omega) (by omega)]
    omega
end XFp

