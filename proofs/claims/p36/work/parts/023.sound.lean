section XL3
theorem xtI {a : Int} (h : XInR a) : (Int32.ofInt a).toInt = a := Int32.toInt_ofInt_of_le (by have := h.1; omega) (by have := h.2; omega)
theorem x_lt {a b : Int} (ha : XInR a) (hb : XInR b) : Int32.ofInt a < Int32.ofInt b ↔ a < b := by rw [Int32.lt_iff_toInt_lt, xtI ha, xtI hb]
theorem x_le {a b : Int} (ha : XInR a) (hb : XInR b) : Int32.ofInt a ≤ Int32.ofInt b ↔ a ≤ b := by rw [Int32.le_iff_toInt_le, xtI ha, xtI hb]
theorem x_eq {a b : Int} (ha : XInR a) (hb : XInR b) : Int32.ofInt a = Int32.ofInt b ↔ a = b := by rw [← Int32.toInt_inj, xtI ha, xtI hb]
theorem x_r0 : XInR 0 := ⟨by decide, by decide⟩
theorem x_nat {j : Int} (h0 : 0 ≤ j) (h1 : j < 2147483648) : (Int32.ofInt j).toNatClampNeg = j.toNat := Int32.toNatClampNeg_ofInt_of_le (by omega) (by omega)
theorem x_in {j : Int} {n : Nat} (h0 : 0 ≤ j) (h1 : j < n) (hn : n < 2147483648) : vp_in (Int32.ofInt j) n := by
  rw [vp_in_iff, xtI ⟨by omega, by omega⟩]
  exact ⟨h0, h1⟩
theorem xlen_le (t : Nat) : xlen t ≤ 9366 := by unfold xlen; split <;> decide
theorem xrow_cell {G : Nat → ClassId} {ρ : XOb → Nat} {f : Int → Int} {t : Nat} {i k : Int} (h : t < 30) (h0 : 0 < xlen t) : xcf G ρ f t i k = xca (G 0) (xlen t).toNat f := by
  unfold xlen at h0
  split at h0 <;> first | rfl | omega
theorem x_upd (f : Int → Int) {j : Int} (h0 : 0 ≤ j) (h1 : j < 2147483648) (v : Int) : upd (fun q : Nat => Int32.ofInt (f (q : Int))) (Int32.ofInt j).toNatClampNeg (Int32.ofInt v) = fun q : Nat => Int32.ofInt ((fun s => if s = j then v else f s) (q : Int)) := by
  funext q
  rw [x_nat h0 h1]
  simp only [upd]
  by_cases hq : q = j.toNat
  · rw [if_pos hq, if_pos (by omega)]
  · rw [if_neg hq, if_neg (by omega)]
theorem xup_at (M : XM) (t : Nat) (i k s v : Int) : (xup M t i k s v) t i k = fun s' => if s' = s then v else M t i k s' := by
  funext s'
  simp [xup]
theorem xup_off {M : XM} {t : Nat} {i k s v : Int} (t' : Nat) (i' k' : Int) (h : ¬ (t' = t ∧ i' = i ∧ k' = k)) : (xup M t i k s v) t' i' k' = M t' i' k' := by
  funext s'
  simp only [xup]
  rw [if_neg]
  rintro ⟨a, b, c, -⟩
  exact h ⟨a, b, c⟩
section
variable {R : Room} {cc : ByteArray} {nL : Nat} {own : String} {Ts : List Cond} {ret : Option FieldType} {Post : XPo} {pc : Nat}
theorem xs_iconst {n : Int} (d : decode cc pc = .ok (.iconst n, 1)) : XSnd R cc nL own Ts ret Post pc (j_c n 1) := by
  intro p l e s m args below meth c cells slots Q D G ρ hC hR L st M K h hk H locs ls hP hS hl
  exact lv_iconst hC.1.1 hC.1.2.1 d rfl (hk _ _ _ _ h H locs ls hP hS hl)
theorem xs_bipush {n : Int} (d : decode cc pc = .ok (.bipush n, 2)) (hn : (Int8.ofInt n).toInt32 = Int32.ofInt n) : XSnd R cc nL own Ts ret Post pc (j_c n 2) := by
  intro p l e s m args below meth c cells slots Q D G ρ hC hR L st M K h hk H locs ls hP hS hl
  exact lv_bipush hC.1.1 hC.1.2.1 d hn (hk _ _ _ _ h H locs ls hP hS hl)
theorem xs_sipush {n : Int} (d : decode cc pc = .ok (.sipush n, 3)) (hn : (Int16.ofInt n).toInt32 = Int32.ofInt n) : XSnd R cc nL own Ts ret Post pc (j_c n 3) := by
  intro p l e s m args below meth c cells slots Q D G ρ hC hR L st M K h hk H locs ls hP hS hl
  exact lv_sipush hC.1.1 hC.1.2.1 d hn (hk _ _ _ _ h H locs ls hP hS hl)
theorem xs_ldc {n : Int} {v : Int32} {index : Nat} (d : decode cc pc = .ok (.ldc index, 2)) (hw : Cond.constant own index v ∈ Ts) (hv : Int32.ofInt n = v) : XSnd R cc nL own Ts ret Post pc (j_c n 2) := by
  intro p l e s m args below meth c cells slots Q D G ρ hC hR L st M K h hk H locs ls hP hS hl
  subst hv
  exact lv_ldc hC.1.1 hC.1.2.1 hC.1.2.2.2.1 (hC.1.2.2.2.2 _ hw) d (hk _ _ _ _ h H locs ls hP hS hl)
theorem xs_ldcw {n : Int} {v : Int32} {index : Nat} (d : decode cc pc = .ok (.ldc_w index, 3)) (hw : Cond.constant own index v ∈ Ts) (hv : Int32.ofInt n = v) : XSnd R cc nL own Ts ret Post pc (j_c n 3) := by
  intro p l e s m args below meth c cells slots Q D G ρ hC hR L st M K h hk H locs ls hP hS hl
  subst hv
  exact lv_ldcw hC.1.1 hC.1.2.1 hC.1.2.2.2.1 (hC.1.2.2.2.2 _ hw) d (hk _ _ _ _ h H locs ls hP hS hl)
theorem xs_ldc2 {n : Int} {v : Int64} {index : Nat} (d : decode cc pc = .ok (.ldc2_w index, 3)) (hw : Cond.constantLong own index v ∈ Ts) (hv : Int64.ofInt n = v) : XSnd R cc nL own Ts ret Post pc (j_cJ n 3) := by
  intro p l e s m args below meth c cells slots Q D G ρ hC hR L st M K h hk H locs ls hP hS hl
  subst hv
  exact lv_ldc2 hC.1.1 hC.1.2.1 hC.1.2.2.2.1 (hC.1.2.2.2.2 _ hw) d (hk _ _ _ _ h H locs ls hP hS hl)
theorem xs_iload_n {k : Fin 4} {i : Nat} (d : decode cc pc = .ok (.iload_n k, 1)) (hi : (k : Nat) = i) : XSnd R cc nL own Ts ret Post pc (j_ild i 1) := by
  intro p l e s m args below meth c cells slots Q D G ρ hC hR L st M K h hk H locs ls hP hS hl
  simp only [j_ild] at h
  split at h
  next x hx => exact lv_iload_n hC.1.1 hC.1.2.1 d hi (xlv_at hl hx) (hk _ _ _ _ h H locs ls hP hS hl)
  next => exact h.elim
theorem xs_iload {i : Nat} (d : decode cc pc = .ok (.iload i, 2)) : XSnd R cc nL own Ts ret Post pc (j_ild i 2) := by
  intro p l e s m args below meth c cells slots Q D G ρ hC hR L st M K h hk H locs ls hP hS hl
  simp only [j_ild] at h
  split at h
  next x hx => exact lv_iload hC.1.1 hC.1.2.1 d (xlv_at hl hx) (hk _ _ _ _ h H locs ls hP hS hl)
  next => exact h.elim
theorem xs_aload_n {k : Fin 4} {i : Nat} (d : decode cc pc = .ok (.aload_n k, 1)) (hi : (k : Nat) = i) : XSnd R cc nL own Ts ret Post pc (j_ald i 1) := by
  intro p l e s m args below meth c cells slots Q D G ρ hC hR L st M K h hk H locs ls hP hS hl
  simp only [j_ald] at h
  split at h
  next o hx => exact lv_aload_n hC.1.1 hC.1.2.1 d hi (xlv_at hl hx) (hk _ _ _ _ h H locs ls hP hS hl)
  next => exact h.elim
theorem xs_aload {i : Nat} (d : decode cc pc = .ok (.aload i, 2)) : XSnd R cc nL own Ts ret Post pc (j_ald i 2) := by
  intro p l e s m args below meth c cells slots Q D G ρ hC hR L st M K h hk H locs ls hP hS hl
  simp only [j_ald] at h
  split at h
  next o hx => exact lv_aload hC.1.1 hC.1.2.1 d (xlv_at hl hx) (hk _ _ _ _ h H locs ls hP hS hl)
  next => exact h.elim
theorem xs_lload_n {k : Fin 4} {i : Nat} (d : decode cc pc = .ok (.lload_n k, 1)) (hi : (k : Nat) = i) : XSnd R cc nL own Ts ret Post pc (j_lld i 1) := by
  intro p l e s m args below meth c cells slots Q D G ρ hC hR L st M K h hk H locs ls hP hS hl
  simp only [j_lld] at h
  split at h
  next x hx => exact lv_lload_n hC.1.1 hC.1.2.1 d hi (xlv_at hl hx) (hk _ _ _ _ h H locs ls hP hS hl)
  next => exact h.elim
theorem xs_lload {i : Nat} (d : decode cc pc = .ok (.lload i, 2)) : XSnd R cc nL own Ts ret Post pc (j_lld i 2) := by
  intro p l e s m args below meth c cells slots Q D G ρ hC hR L st M K h hk H locs ls hP hS hl
  simp only [j_lld] at h
  split at h
  next x hx => exact lv_lload hC.1.1 hC.1.2.1 d (xlv_at hl hx) (hk _ _ _ _ h H locs ls hP hS hl)
  next => exact h.elim
theorem xs_istore_n {k : Fin 4} {i : Nat} (d : decode cc pc = .ok (.istore_n k, 1)) (hi : (k : Nat) = i) (hn : i < nL) : XSnd R cc nL own Ts ret Post pc (j_ist i 1) := by
  intro p l e s m args below meth c cells slots Q D G ρ hC hR L st M K h hk H locs ls hP hS hl
  simp only [j_ist] at h
  split at h
  next x st' => exact lv_istore_n hC.1.1 hC.1.2.1 d hi hl hn rfl (fun ls' hl' => hk _ _ _ _ h H locs ls' hP hS (xlv_set (v := xI x) hl'))
  next => exact h.elim
theorem xs_istore {i : Nat} (d : decode cc pc = .ok (.istore i, 2)) (hn : i < nL) : XSnd R cc nL own Ts ret Post pc (j_ist i 2) := by
  intro p l e s m args below meth c cells slots Q D G ρ hC hR L st M K h hk H locs ls hP hS hl
  simp only [j_ist] at h
  split at h
  next x st' => exact lv_istore hC.1.1 hC.1.2.1 d hl hn rfl (fun ls' hl' => hk _ _ _ _ h H locs ls' hP hS (xlv_set (v := xI x) hl'))
  next => exact h.elim
theorem xs_astore_n {k : Fin 4} {i : Nat} (d : decode cc pc = .ok (.astore_n k, 1)) (hi : (k : Nat) = i) (hn : i < nL) : XSnd R cc nL own Ts ret Post pc (j_ast i 1) := by
  intro p l e s m args below meth c cells slots Q D G ρ hC hR L st M K h hk H locs ls hP hS hl
  simp only [j_ast] at h
  split at h
  next o st' => exact lv_astore_n hC.1.1 hC.1.2.1 d hi hl hn rfl (fun ls' hl' => hk _ _ _ _ h H locs ls' hP hS (xlv_set (v := Sum.inr (Sum.inl (some o))) hl'))
  next => exact h.elim
theorem xs_astore {i : Nat} (d : decode cc pc = .ok (.astore i, 2)) (hn : i < nL) : XSnd R cc nL own Ts ret Post pc (j_ast i 2) := by
  intro p l e s m args below meth c cells slots Q D G ρ hC hR L st M K h hk H locs ls hP hS hl
  simp only [j_ast] at h
  split at h
  next o st' => exact lv_astore hC.1.1 hC.1.2.1 d hl hn rfl (fun ls' hl' => hk _ _ _ _ h H locs ls' hP hS (xlv_set (v := Sum.inr (Sum.inl (some o))) hl'))
  next => exact h.elim
theorem xs_lstore_n {k : Fin 4} {i : Nat} (d : decode cc pc = .ok (.lstore_n k, 1)) (hi : (k : Nat) = i) (hn : i + 1 < nL) : XSnd R cc nL own Ts ret Post pc (j_lst i 1) := by
  intro p l e s m args below meth c cells slots Q D G ρ hC hR L st M K h hk H locs ls hP hS hl
  simp only [j_lst] at h
  split at h
  next x st' => exact lv_lstore_n hC.1.1 hC.1.2.1 d hi hl hn rfl (fun ls' hl' => hk _ _ _ _ h H locs ls' hP hS (xlv_set2 (v := xJ x) hl'))
  next => exact h.elim
theorem xs_lstore {i : Nat} (d : decode cc pc = .ok (.lstore i, 2)) (hn : i + 1 < nL) : XSnd R cc nL own Ts ret Post pc (j_lst i 2) := by
  intro p l e s m args below meth c cells slots Q D G ρ hC hR L st M K h hk H locs ls hP hS hl
  simp only [j_lst] at h
  split at h
  next x st' => exact lv_lstore hC.1.1 hC.1.2.1 d hl hn rfl (fun ls' hl' => hk _ _ _ _ h H locs ls' hP hS (xlv_set2 (v := xJ x) hl'))
  next => exact h.elim
theorem xlv_idx {ρ : XOb → Nat} {L : XLs} {i : Nat} {v : XV} (h : xget L i = some v) : ∃ k : Nat, (xlv ρ 0 L)[k]? = some (i, xcv ρ v) :=
  List.getElem?_of_mem ((xlv_mem L 0 _).mpr ⟨i, v, by simp, h⟩)
theorem xs_iinc {i : Nat} {n : Int} (d : decode cc pc = .ok (.iinc i n, 3)) (hn : i < nL) : XSnd R cc nL own Ts ret Post pc (j_inc i n) := by
  intro p l e s m args below meth c cells slots Q D G ρ hC hR L st M K h hk H locs ls hP hS hl
  simp only [j_inc] at h
  split at h
  next x hx =>
    obtain ⟨q, hq⟩ := xlv_idx (ρ := ρ) hx
    exact lv_iinc (v := Int32.ofInt (x + n)) hC.1.1 hC.1.2.1 d hl hq (by rw [Int32.ofInt_add]) hn rfl (fun ls' hl' => hk _ _ _ _ h H locs ls' hP hS (xlv_set (v := xI (x + n)) hl'))
  next => exact h.elim
theorem xs_iadd (d : decode cc pc = .ok (.iadd, 1)) : XSnd R cc nL own Ts ret Post pc j_add := by
  intro p l e s m args below meth c cells slots Q D G ρ hC hR L st M K h hk H locs ls hP hS hl
  simp only [j_add] at h
  split at h
  next b a st' =>
    refine lv_iadd (x := Int32.ofInt a) (y := Int32.ofInt b) (rest := st'.map (xcv ρ)) hC.1.1 hC.1.2.1 d ?_
    rw [← Int32.ofInt_add]
    exact hk _ _ _ _ h H locs ls hP hS hl
  next => exact h.elim
theorem xs_isub (d : decode cc pc = .ok (.isub, 1)) : XSnd R cc nL own Ts ret Post pc j_sub := by
  intro p l e s m args below meth c cells slots Q D G ρ hC hR L st M K h hk H locs ls hP hS hl
  simp only [j_sub] at h
  split at h
  next b a st' =>
    refine lv_isub (x := Int32.ofInt a) (y := Int32.ofInt b) (rest := st'.map (xcv ρ)) hC.1.1 hC.1.2.1 d ?_
    rw [← Int32.ofInt_sub]
    exact hk _ _ _ _ h H locs ls hP hS hl
  next => exact h.elim
theorem xs_imul (d : decode cc pc = .ok (.imul, 1)) : XSnd R cc nL own Ts ret Post pc j_mul := by
  intro p l e s m args below meth c cells slots Q D G ρ hC hR L st M K h hk H locs ls hP hS hl
  simp only [j_mul] at h
  split at h
  next b a st' =>
    refine lv_imul (x := Int32.ofInt a) (y := Int32.ofInt b) (rest := st'.map (xcv ρ)) hC.1.1 hC.1.2.1 d ?_
    rw [← Int32.ofInt_mul]
    exact hk _ _ _ _ h H locs ls hP hS hl
  next => exact h.elim
theorem xs_ineg (d : decode cc pc = .ok (.ineg, 1)) : XSnd R cc nL own Ts ret Post pc j_neg := by
  intro p l e s m args below meth c cells slots Q D G ρ hC hR L st M K h hk H locs ls hP hS hl
  simp only [j_neg] at h
  split at h
  next a st' =>
    refine lv_ineg (x := Int32.ofInt a) (rest := st'.map (xcv ρ)) hC.1.1 hC.1.2.1 d ?_
    rw [← Int32.ofInt_neg]
    exact hk _ _ _ _ h H locs ls hP hS hl
  next => exact h.elim
theorem x_div {a b : Int} (h : 0 ≤ a ∧ a ≤ 2147483647 ∧ 0 < b ∧ b ≤ 2147483647) : Int32.ofInt a / Int32.ofInt b = Int32.ofInt (a / b) := by
  obtain ⟨h1, h2, h3, h4⟩ := h
  have e1 : Int32.ofInt a = nI a.toNat := by rw [show a = (a.toNat : Int) from (Int.toNat_of_nonneg h1).symm, Int32.ofInt_eq_ofNat]; rfl
  have e2 : Int32.ofInt b = nI b.toNat := by rw [show b = (b.toNat : Int) from (Int.toNat_of_nonneg (by omega)).symm, Int32.ofInt_eq_ofNat]; rfl
  rw [e1, e2, pk_div (by omega) (by omega) (by omega)]
  have e3 : a / b = ((a.toNat / b.toNat : Nat) : Int) := by
    rw [Int.natCast_ediv, Int.toNat_of_nonneg h1, Int.toNat_of_nonneg (by omega)]
  rw [e3, Int32.ofInt_eq_ofNat]
  rfl
theorem xs_idiv (d : decode cc pc = .ok (.idiv, 1)) : XSnd R cc nL own Ts ret Post pc j_div := by
  intro p l e s m args below meth c cells slots Q D G ρ hC hR L st M K h hk H locs ls hP hS hl
  simp only [j_div] at h
  split at h
  next b a st' =>
    have hne : ¬ Int32.ofInt b = 0 := by
      rw [show (0 : Int32) = Int32.ofInt 0 from rfl, x_eq ⟨by omega, by omega⟩ x_r0]
      omega
    refine lv_idiv (x := Int32.ofInt a) (y := Int32.ofInt b) (rest := st'.map (xcv ρ)) hC.1.1 hC.1.2.1 d hne ?_
    rw [x_div h.1]
    exact hk _ _ _ _ h.2 H locs ls hP hS hl
  next => exact h.elim
theorem xs_irem (d : decode cc pc = .ok (.irem, 1)) : XSnd R cc nL own Ts ret Post pc j_rem := by
  intro p l e s m args below meth c cells slots Q D G ρ hC hR L st M K h hk H locs ls hP hS hl
  simp only [j_rem] at h
  split at h
  next b a st' =>
    have hne : ¬ Int32.ofInt b = 0 := by
      rw [show (0 : Int32) = Int32.ofInt 0 from rfl, x_eq ⟨by omega, by omega⟩ x_r0]
      omega
    refine lv_irem (x := Int32.ofInt a) (y := Int32.ofInt b) (rest := st'.map (xcv ρ)) hC.1.1 hC.1.2.1 d hne ?_
    rw [x_div h.1, ← Int32.ofInt_mul, ← Int32.ofInt_sub, show a - a / b * b = a % b from by rw [Int.mul_comm, Int.emod_def]]
    exact hk _ _ _ _ h.2 H locs ls hP hS hl
  next => exact h.elim
theorem x_and (a : Int) (k : Nat) (hk : k ≤ 16) : Int32.ofInt a &&& Int32.ofInt (2 ^ k - 1) = Int32.ofInt (a % 2 ^ k) := by
  have hpos : (0 : Int) < 2 ^ k := Int.pow_pos (by omega)
  have hm : (Int32.ofInt (2 ^ k - 1)).toBitVec.toNat = 2 ^ k - 1 := by
    rcases (show k = 0 ∨ k = 1 ∨ k = 2 ∨ k = 3 ∨ k = 4 ∨ k = 5 ∨ k = 6 ∨ k = 7 ∨ k = 8 ∨ k = 9 ∨ k = 10 ∨ k = 11 ∨ k = 12 ∨ k = 13 ∨ k = 14 ∨ k = 15 ∨ k = 16 by omega) with rfl | rfl | rfl | rfl | rfl | rfl | rfl | rfl | rfl | rfl | rfl | rfl | rfl | rfl | rfl | rfl | rfl <;> decide
  rw [pk_and _ k hm]
  have h1 : (Int32.ofInt a).toBitVec.toNat = (a % 4294967296).toNat := by
    rw [Int32.toBitVec_ofInt, BitVec.toNat_ofInt]
    rfl
  have h2 : ((a % 4294967296).toNat % 2 ^ k : Nat) = (a % 2 ^ k).toNat := by
    have h3 : (((a % 4294967296).toNat % 2 ^ k : Nat) : Int) = a % 2 ^ k := by
      rw [Int.natCast_emod, Int.toNat_of_nonneg (by omega)]
      have h4 : ((2 ^ k : Nat) : Int) = 2 ^ k := by simp
      rw [h4]
      have h5 : (4294967296 : Int) = 2 ^ k * 2 ^ (32 - k) := by
        rw [← Int.pow_add, show k + (32 - k) = 32 from by omega]
        decide
      rw [h5]
      exact Int.emod_emod_of_dvd a ⟨2 ^ (32 - k), rfl⟩
    omega
  rw [h1, h2]
  show Int32.ofNat _ = _
  rw [← Int32.ofInt_eq_ofNat, Int.toNat_of_nonneg (Int.emod_nonneg a (by omega))]
theorem xs_iand {w : Int} (k : Nat) (hw : w = 2 ^ k) (hk16 : k ≤ 16) (d : decode cc pc = .ok (.iand, 1)) : XSnd R cc nL own Ts ret Post pc (j_and w) := by
  intro p l e s m args below meth c cells slots Q D G ρ hC hR L st M K h hk H locs ls hP hS hl
  simp only [j_and] at h
  split at h
  next b a st' =>
    refine lv_iand (x := Int32.ofInt a) (y := Int32.ofInt b) (rest := st'.map (xcv ρ)) hC.1.1 hC.1.2.1 d ?_
    rw [show b = 2 ^ k - 1 from by have := h.1; omega, x_and a k hk16, ← hw]
    exact hk _ _ _ _ h.2 H locs ls hP hS hl
  next => exact h.elim
theorem x_sh : ∀ n : Nat, n < 31 → ((nI n &&& 31).toBitVec.smod 32).toNat = n := by decide +kernel
theorem x_ofN {b : Int} (h : 0 ≤ b) : Int32.ofInt b = nI b.toNat := by
  rw [show b = (b.toNat : Int) from (Int.toNat_of_nonneg h).symm, Int32.ofInt_eq_ofNat]; rfl
theorem xs_ishr (d : decode cc pc = .ok (.ishr, 1)) : XSnd R cc nL own Ts ret Post pc j_shr := by
  intro p l e s m args below meth c cells slots Q D G ρ hC hR L st M K h hk H locs ls hP hS hl
  simp only [j_shr] at h
  split at h
  next b a st' =>
    obtain ⟨⟨h1, h2, h3⟩, h4⟩ := h
    refine lv_ishr (x := Int32.ofInt a) (y := Int32.ofInt b) (rest := st'.map (xcv ρ)) hC.1.1 hC.1.2.1 d ?_
    have e1 : Int32.ofInt a >>> (Int32.ofInt b &&& 31) = Int32.ofInt (a / 2 ^ b.toNat) := by
      apply Int32.toInt_inj.mp
      rw [x_ofN h2, pk_shr _ _ b.toNat (x_sh _ (by omega)), xtI h1, Int.shiftRight_eq_div_pow]
      have hp : (0 : Int) < 2 ^ b.toNat := Int.pow_pos (by omega)
      have hp1 : (1 : Int) ≤ 2 ^ b.toNat := hp
      have hb1 : XInR (a / 2 ^ b.toNat) := by
        obtain ⟨g1, g2⟩ := h1
        constructor
        · rcases Int.le_total 0 a with q | q
          · have := Int.ediv_nonneg q (Int.le_of_lt hp)
            omega
          · have : a ≤ a / 2 ^ b.toNat := by
              refine (Int.le_ediv_iff_mul_le hp).mpr ?_
              have := Int.mul_le_mul_of_nonpos_left q hp1
              simpa using this
            omega
        · rcases Int.le_total 0 a with q | q
          · have : a / 2 ^ b.toNat ≤ a := Int.ediv_le_self _ q
            omega
          · have : a / 2 ^ b.toNat ≤ 0 := by
              have := Int.ediv_le_ediv hp q
              simpa using this
            omega
      rw [xtI hb1]
      simp
    rw [e1]
    exact hk _ _ _ _ h4 H locs ls hP hS hl
  next => exact h.elim
theorem x_shl : ∀ n : Nat, n < 31 → (1 : Int32) <<< (nI n &&& 31) = Int32.ofInt (2 ^ n) := by decide +kernel
theorem xs_ishl (d : decode cc pc = .ok (.ishl, 1)) : XSnd R cc nL own Ts ret Post pc j_shl1 := by
  intro p l e s m args below meth c cells slots Q D G ρ hC hR L st M K h hk H locs ls hP hS hl
  simp only [j_shl1] at h
  split at h
  next b a st' =>
    obtain ⟨⟨rfl, h2, h3⟩, h4⟩ := h
    refine lv_ishl (x := Int32.ofInt 1) (y := Int32.ofInt b) (rest := st'.map (xcv ρ)) hC.1.1 hC.1.2.1 d ?_
    rw [x_ofN h2, show Int32.ofInt 1 = 1 from rfl, x_shl _ (by omega)]
    exact hk _ _ _ _ h4 H locs ls hP hS hl
  next => exact h.elim
theorem x_or {a : Int} {k : Nat} (hk : k < 31) (h0 : 0 ≤ a) (h1 : a < 2 ^ k) : Int32.ofInt a ||| Int32.ofInt (2 ^ k) = Int32.ofInt (a + 2 ^ k) := by
  have hk2 : ((2 : Int) ^ k).toNat = 2 ^ k := by
    have : ((2 ^ k : Nat) : Int) = 2 ^ k := by simp
    omega
  have hle : (2 : Nat) ^ k ≤ 2 ^ 30 := Nat.pow_le_pow_right (by omega) (by omega)
  have hpos : (0 : Int) < 2 ^ k := Int.pow_pos (by omega)
  have ha : a.toNat < 2 ^ k := by omega
  apply Int32.toBitVec_inj.mp
  apply BitVec.eq_of_toNat_eq
  rw [Int32.toBitVec_or, BitVec.toNat_or]
  have e : ∀ x : Int, 0 ≤ x → x < 4294967296 → (Int32.ofInt x).toBitVec.toNat = x.toNat := by
    intro x g0 g1
    rw [Int32.toBitVec_ofInt, BitVec.toNat_ofInt]
    show (x % 4294967296).toNat = _
    rw [Int.emod_eq_of_lt g0 g1]
  rw [e a h0 (by omega), e _ (by omega) (by omega), e _ (by omega) (by omega), hk2]
  have h3 : (a + 2 ^ k).toNat = 2 ^ k * 1 + a.toNat := by omega
  rw [h3, Nat.or_comm]
  have h4 := Nat.two_pow_add_eq_or_of_lt ha 1
  rw [h4]
  simp
theorem xs_ior (d : decode cc pc = .ok (.ior, 1)) : XSnd R cc nL own Ts ret Post pc j_or := by
  intro p l e s m args below meth c cells slots Q D G ρ hC hR L st M K h hk H locs ls hP hS hl
  simp only [j_or] at h
  split at h
  next b a st' =>
    obtain ⟨h1, h4⟩ := h
    refine lv_ior (x := Int32.ofInt a) (y := Int32.ofInt b) (rest := st'.map (xcv ρ)) hC.1.1 hC.1.2.1 d ?_
    have e1 : Int32.ofInt a ||| Int32.ofInt b = Int32.ofInt (a + b) := by
      rcases h1 with rfl | ⟨k, hk31, rfl, g0, g1⟩
      · rw [show Int32.ofInt 0 = 0 from rfl, Int.add_zero]
        exact Int32.or_zero
      · exact x_or hk31 g0 g1
    rw [e1]
    exact hk _ _ _ _ h4 H locs ls hP hS hl
  next => exact h.elim
theorem xs_ladd (d : decode cc pc = .ok (.ladd, 1)) : XSnd R cc nL own Ts ret Post pc j_ladd := by
  intro p l e s m args below meth c cells slots Q D G ρ hC hR L st M K h hk H locs ls hP hS hl
  simp only [j_ladd] at h
  split at h
  next b a st' =>
    refine lv_ladd (x := Int64.ofInt a) (y := Int64.ofInt b) (rest := st'.map (xcv ρ)) hC.1.1 hC.1.2.1 d ?_
    rw [← Int64.ofInt_add]
    exact hk _ _ _ _ h H locs ls hP hS hl
  next => exact h.elim
theorem xs_lsub (d : decode cc pc = .ok (.lsub, 1)) : XSnd R cc nL own Ts ret Post pc j_lsub := by
  intro p l e s m args below meth c cells slots Q D G ρ hC hR L st M K h hk H locs ls hP hS hl
  simp only [j_lsub] at h
  split at h
  next b a st' =>
    refine lv_lsub (x := Int64.ofInt a) (y := Int64.ofInt b) (rest := st'.map (xcv ρ)) hC.1.1 hC.1.2.1 d ?_
    rw [← Int64.ofInt_sub]
    exact hk _ _ _ _ h H locs ls hP hS hl
  next => exact h.elim
theorem xs_lmul (d : decode cc pc = .ok (.lmul, 1)) : XSnd R cc nL own Ts ret Post pc j_lmul := by
  intro p l e s m args below meth c cells slots Q D G ρ hC hR L st M K h hk H locs ls hP hS hl
  simp only [j_lmul] at h
  split at h
  next b a st' =>
    refine lv_lmul (x := Int64.ofInt a) (y := Int64.ofInt b) (rest := st'.map (xcv ρ)) hC.1.1 hC.1.2.1 d ?_
    rw [← Int64.ofInt_mul]
    exact hk _ _ _ _ h H locs ls hP hS hl
  next => exact h.elim
theorem xs_i2l (d : decode cc pc = .ok (.i2l, 1)) : XSnd R cc nL own Ts ret Post pc j_i2l := by
  intro p l e s m args below meth c cells slots Q D G ρ hC hR L st M K h hk H locs ls hP hS hl
  simp only [j_i2l] at h
  split at h
  next a st' =>
    refine lv_i2l (x := Int32.ofInt a) (v := Int64.ofInt a) (rest := st'.map (xcv ρ)) hC.1.1 hC.1.2.1 d ?_ (hk _ _ _ _ h.2 H locs ls hP hS hl)
    rw [← Int64.ofInt_int32ToInt, xtI h.1]
  next => exact h.elim
theorem xs_lcmp (d : decode cc pc = .ok (.lcmp, 1)) : XSnd R cc nL own Ts ret Post pc j_lcmp := by
  intro p l e s m args below meth c cells slots Q D G ρ hC hR L st M K h hk H locs ls hP hS hl
  simp only [j_lcmp] at h
  split at h
  next b a st' =>
    obtain ⟨rfl, h2⟩ := h
    refine W.lcmp (rest := st'.map (xcv ρ)) (x := Int64.ofInt a) (y := Int64.ofInt a) hC.1.1 hC.1.2.1 d ?_
    rw [show lg_cmp (Int64.ofInt a) (Int64.ofInt a) = Int32.ofInt 0 from by simp [lg_cmp]]
    exact hk _ _ _ _ h2 H locs ls hP hS hl
  next => exact h.elim
theorem xs_i2c (d : decode cc pc = .ok (.i2c, 1)) : XSnd R cc nL own Ts ret Post pc j_i2c := by
  intro p l e s m args below meth c cells slots Q D G ρ hC hR L st M K h hk H locs ls hP hS hl
  simp only [j_i2c] at h
  split at h
  next a st' =>
    refine lv_i2c (x := Int32.ofInt a) (v := Int32.ofInt a) (rest := st'.map (xcv ρ)) hC.1.1 hC.1.2.1 d ?_ (hk _ _ _ _ h.2 H locs ls hP hS hl)
    rw [x_ofN h.1.1, pk_char, pk_tn (by have := h.1.2; omega), Nat.mod_eq_of_lt (by have := h.1; omega)]
  next => exact h.elim
theorem xs_dup (d : decode cc pc = .ok (.dup, 1)) : XSnd R cc nL own Ts ret Post pc j_dup := by
  intro p l e s m args below meth c cells slots Q D G ρ hC hR L st M K h hk H locs ls hP hS hl
  simp only [j_dup] at h
  split at h
  next v st' => exact lv_dup (va := xcv ρ v) (rest := st'.map (xcv ρ)) hC.1.1 hC.1.2.1 d (by rw [xc1_eq]; exact h.1) (hk _ _ _ _ h.2 H locs ls hP hS hl)
  next => exact h.elim
theorem xs_dup2 (d : decode cc pc = .ok (.dup2, 1)) : XSnd R cc nL own Ts ret Post pc j_dup2 := by
  intro p l e s m args below meth c cells slots Q D G ρ hC hR L st M K h hk H locs ls hP hS hl
  simp only [j_dup2] at h
  split at h
  next v w st' => exact lv_dup2_11 (va := xcv ρ v) (vb := xcv ρ w) (rest := st'.map (xcv ρ)) hC.1.1 hC.1.2.1 d (by rw [xc1_eq]; exact h.1.1) (by rw [xc1_eq]; exact h.1.2) (hk _ _ _ _ h.2 H locs ls hP hS hl)
  next => exact h.elim
theorem xs_pop (d : decode cc pc = .ok (.pop, 1)) : XSnd R cc nL own Ts ret Post pc j_pop := by
  intro p l e s m args below meth c cells slots Q D G ρ hC hR L st M K h hk H locs ls hP hS hl
  simp only [j_pop] at h
  split at h
  next v st' => exact lv_pop (va := xcv ρ v) (rest := st'.map (xcv ρ)) hC.1.1 hC.1.2.1 d (by rw [xc1_eq]; exact h.1) (hk _ _ _ _ h.2 H locs ls hP hS hl)
  next => exact h.elim
theorem xs_goto {off : Int} {t : Nat} (d : decode cc pc = .ok (.goto off, 3)) (ht : (pc : Int) + off = (t : Int)) : XSnd R cc nL own Ts ret Post pc (j_goto t) := by
  intro p l e s m args below meth c cells slots Q D G ρ hC hR L st M K h hk H locs ls hP hS hl
  exact lv_goto hC.1.1 hC.1.2.1 d ht (hk _ _ _ _ h H locs ls hP hS hl)
end
end XL3
