section XCe
/-! the law's cell(..): the script's number, or one made out of its place -/
def j_mulw : XStp := fun pc L st M K => match st with
  | .inl b :: .inl a :: st => K (pc + 1) L (xI (wr (a * b)) :: st) M
  | _ => False
theorem xs_imulw {R : Room} {cc : ByteArray} {nL : Nat} {own : String} {Ts : List Cond} {ret : Option FieldType} {Post : XPo} {pc : Nat} (d : decode cc pc = .ok (.imul, 1)) : XSnd R cc nL own Ts ret Post pc j_mulw := by
  intro p l e s m args below meth c cells slots Q D G ρ hC hR L st M K h hk H locs ls hP hS hl
  simp only [j_mulw] at h
  split at h
  next b a st' =>
    refine lv_imul (x := Int32.ofInt a) (y := Int32.ofInt b) (rest := st'.map (xcv ρ)) hC.1.1 hC.1.2.1 d ?_
    rw [← Int32.ofInt_mul, ← wr_eq]
    exact hk _ _ _ _ h H locs ls hP hS hl
  next => exact h.elim
/-- UnitKitchensLaw.cell([II)I -/
abbrev wL_cell : List Cond := Cond.code yL_cell cL_cell 2 (some .int) :: xT
abbrev rL_cell : Room := { frames := 0, cells := 0, slots := 0, locals := 0 }
def pL_cell (Post : XPo) : List (Nat × XStp) := [(0, j_ild 1 1), (1, j_ald 0 1), (3, j_ige 12), (6, j_ald 0 1), (7, j_ild 1 1), (9, j_goto 19), (12, j_c 1540483477 2), (14, j_ild 1 1), (15, j_c 101 2), (17, j_add), (18, j_mulw), (19, j_iret Post)]
set_option maxRecDepth 100000 in
theorem aL_cell (Post : XPo) : XAll rL_cell cL_cell 2 RL wL_cell (some .int) Post (pL_cell Post) := XAll.cons (xs_iload_n dL_cell_0 rfl) (XAll.cons (xs_aload_n dL_cell_1 rfl) (XAll.cons (xs_icmp_ge dL_cell_3 (by decide)) (XAll.cons (xs_aload_n dL_cell_6 rfl) (XAll.cons (xs_iload_n dL_cell_7 rfl) (XAll.cons (xs_goto dL_cell_9 (by decide)) (XAll.cons (xs_ldc dL_cell_12 (xgood1 tw_566) rfl) (XAll.cons (xs_iload_n dL_cell_14 rfl) (XAll.cons (xs_bipush dL_cell_15 rfl) (XAll.cons (xs_iadd dL_cell_17) (XAll.cons (xs_imulw dL_cell_18) (XAll.cons (xs_iret rfl dL_cell_19) (XAll.nil))))))))))))
set_option maxRecDepth 100000 in
theorem fL_cell_0 (Post : XPo) (cut : List Nat) (WW : XK) (n : Nat) (L : XLs) (st : List XV) (M : XM) : yru (xlk (pL_cell Post)) cut WW (n + 1) 0 L st M = j_ild 1 1 0 L st M (ykk (xlk (pL_cell Post)) cut WW n) := yf rfl
set_option maxRecDepth 100000 in
theorem fL_cell_1 (Post : XPo) (cut : List Nat) (WW : XK) (n : Nat) (L : XLs) (st : List XV) (M : XM) : yru (xlk (pL_cell Post)) cut WW (n + 1) 1 L st M = j_ald 0 1 1 L st M (ykk (xlk (pL_cell Post)) cut WW n) := yf rfl
set_option maxRecDepth 100000 in
theorem fL_cell_3 (Post : XPo) (cut : List Nat) (WW : XK) (n : Nat) (L : XLs) (st : List XV) (M : XM) : yru (xlk (pL_cell Post)) cut WW (n + 1) 3 L st M = j_ige 12 3 L st M (ykk (xlk (pL_cell Post)) cut WW n) := yf rfl
set_option maxRecDepth 100000 in
theorem fL_cell_6 (Post : XPo) (cut : List Nat) (WW : XK) (n : Nat) (L : XLs) (st : List XV) (M : XM) : yru (xlk (pL_cell Post)) cut WW (n + 1) 6 L st M = j_ald 0 1 6 L st M (ykk (xlk (pL_cell Post)) cut WW n) := yf rfl
set_option maxRecDepth 100000 in
theorem fL_cell_7 (Post : XPo) (cut : List Nat) (WW : XK) (n : Nat) (L : XLs) (st : List XV) (M : XM) : yru (xlk (pL_cell Post)) cut WW (n + 1) 7 L st M = j_ild 1 1 7 L st M (ykk (xlk (pL_cell Post)) cut WW n) := yf rfl
set_option maxRecDepth 100000 in
theorem fL_cell_9 (Post : XPo) (cut : List Nat) (WW : XK) (n : Nat) (L : XLs) (st : List XV) (M : XM) : yru (xlk (pL_cell Post)) cut WW (n + 1) 9 L st M = j_goto 19 9 L st M (ykk (xlk (pL_cell Post)) cut WW n) := yf rfl
set_option maxRecDepth 100000 in
theorem fL_cell_12 (Post : XPo) (cut : List Nat) (WW : XK) (n : Nat) (L : XLs) (st : List XV) (M : XM) : yru (xlk (pL_cell Post)) cut WW (n + 1) 12 L st M = j_c 1540483477 2 12 L st M (ykk (xlk (pL_cell Post)) cut WW n) := yf rfl
set_option maxRecDepth 100000 in
theorem fL_cell_14 (Post : XPo) (cut : List Nat) (WW : XK) (n : Nat) (L : XLs) (st : List XV) (M : XM) : yru (xlk (pL_cell Post)) cut WW (n + 1) 14 L st M = j_ild 1 1 14 L st M (ykk (xlk (pL_cell Post)) cut WW n) := yf rfl
set_option maxRecDepth 100000 in
theorem fL_cell_15 (Post : XPo) (cut : List Nat) (WW : XK) (n : Nat) (L : XLs) (st : List XV) (M : XM) : yru (xlk (pL_cell Post)) cut WW (n + 1) 15 L st M = j_c 101 2 15 L st M (ykk (xlk (pL_cell Post)) cut WW n) := yf rfl
set_option maxRecDepth 100000 in
theorem fL_cell_17 (Post : XPo) (cut : List Nat) (WW : XK) (n : Nat) (L : XLs) (st : List XV) (M : XM) : yru (xlk (pL_cell Post)) cut WW (n + 1) 17 L st M = j_add 17 L st M (ykk (xlk (pL_cell Post)) cut WW n) := yf rfl
set_option maxRecDepth 100000 in
theorem fL_cell_18 (Post : XPo) (cut : List Nat) (WW : XK) (n : Nat) (L : XLs) (st : List XV) (M : XM) : yru (xlk (pL_cell Post)) cut WW (n + 1) 18 L st M = j_mulw 18 L st M (ykk (xlk (pL_cell Post)) cut WW n) := yf rfl
set_option maxRecDepth 100000 in
theorem fL_cell_19 (Post : XPo) (cut : List Nat) (WW : XK) (n : Nat) (L : XLs) (st : List XV) (M : XM) : yru (xlk (pL_cell Post)) cut WW (n + 1) 19 L st M = j_iret Post 19 L st M (ykk (xlk (pL_cell Post)) cut WW n) := yf rfl
def XSb (D : va_G) (G : Nat → ClassId) (ρ : XOb → Nat) (sz : Nat) (M : XM) (b Ln : Nat) (xs : Nat → Int32) : State → Prop := fun U => XB D G ρ sz M U ∧ va_X b Ln xs U U.heap ∧ (b < sz ∧ ¬ XA ρ sz b ∧ ρ (40, 0, 0) = b ∧ Ln ≤ 260)
theorem xblindS (av : List XV) (D : va_G) (G : Nat → ClassId) (ρ : XOb → Nat) (sz : Nat) (M : XM) (b Ln : Nat) (xs : Nat → Int32) : FrameBlind (va_Pc (av.map (xcv ρ)) (XSb D G ρ sz M b Ln xs)) := by
  intro a U g mk q
  obtain ⟨q0, qB, qX, qR⟩ := q
  exact ⟨q0, (xblind av D G ρ sz M a U g mk ⟨q0, qB⟩).2, va_X.moved (u := U) (U := U.calling g mk a) (Vm.Alike.refl U.vm) qX, qR⟩
set_option maxRecDepth 100000 in
theorem kL_cell_met (l : Launch) (D : va_G) (G : Nat → ClassId) (ρ : XOb → Nat) (sz : Nat) (b Ln : Nat) (xs : Nat → Int32) {k : Int} (hk : 0 ≤ k ∧ k ≤ 1000) (M : XM) (Post : XPo) (h : ∀ v : Int, XInR v → Post [xI v] M) : Met l yL_cell (Cond.code yL_cell cL_cell 2 (some .int) :: xT) rL_cell (va_Pc ([xR 40 0 0, xI k].map (xcv ρ)) (XSb D G ρ sz M b Ln xs)) (XQ D G ρ (XA ρ sz) Post) 0 0 (XA ρ sz) := by
  refine Met.ofW (cc := cL_cell) (maxL := 2) (ret := some .int) rfl rfl ?_
  intro p e s m args below meth c s₁ B hml hv
  obtain ⟨rfl, ⟨hsz, hP, hK, hρ, hF, hN⟩, hX, hb1, hb2, hb3, hb4⟩ := hv
  subst hsz
  have hC : XCX p rL_cell s m (([xR 40 0 0, xI k].map (xcv ρ)).toArray) c 0 0 D G ρ cL_cell 2 yL_cell.cls (Cond.code yL_cell cL_cell 2 (some .int) :: xT) :=
    ⟨⟨B.exec, B.bytes, hml, findClass_of_methodNamed B.named, atoms_spec (ws := Cond.code yL_cell cL_cell 2 (some .int) :: xT) B.pre⟩, hK, hρ, hF, hN, Nat.zero_le _, Nat.zero_le _⟩
  have hR : XRQ s (([xR 40 0 0, xI k].map (xcv ρ)).toArray) below meth 0 0 (MQ below (XQ D G ρ (XA ρ s.heap.size) Post) (([xR 40 0 0, xI k].map (xcv ρ)).toArray) s 0 0 (XA ρ s.heap.size)) D G ρ (some .int) Post :=
    Or.inr ⟨rfl, rfl, rfl, B.returns, B.notSynchronized⟩
  have hl := lv_entry ([xR 40 0 0, xI k].map (xcv ρ)) (n := 2) (Nat.le_refl 2)
  rw [lg_entry_eq]
  have hCl := XWW_cl (aL_cell Post) hC hR (l := l) (e := e)
  have hXS : XSc s ρ b Ln xs := ⟨hX, hb1, hb2, hb3, hb4⟩
  have rk : XInR k := ⟨by omega, by omega⟩
  have rL : XInR (Ln : Int) := ⟨by omega, by omega⟩
  have main : XWW p l e rL_cell s m (([xR 40 0 0, xI k].map (xcv ρ)).toArray) below meth c 0 0 (MQ below (XQ D G ρ (XA ρ s.heap.size) Post) (([xR 40 0 0, xI k].map (xcv ρ)).toArray) s 0 0 (XA ρ s.heap.size)) D G ρ 2 0 [some (xR 40 0 0), some (xI k)] [] M := by
    generalize hW : XWW p l e rL_cell s m (([xR 40 0 0, xI k].map (xcv ρ)).toArray) below meth c 0 0 (MQ below (XQ D G ρ (XA ρ s.heap.size) Post) (([xR 40 0 0, xI k].map (xcv ρ)).toArray) s 0 0 (XA ρ s.heap.size)) D G ρ 2 = WW at hCl ⊢
    have len : ∀ (L : XLs) (st : List XV), WW 3 L (xI (Ln : Int) :: st) M → WW 2 L (xR 40 0 0 :: st) M := fun L st z => by
      rw [← hW] at z ⊢
      exact xl_len hC hXS dL_cell_2 z
    have sld : ∀ (L : XLs) (st : List XV), 0 ≤ k → k < Ln → WW 9 L (xI (SLx xs k) :: st) M → WW 8 L (xI k :: xR 40 0 0 :: st) M := fun L st a c z => by
      rw [← hW] at z ⊢
      exact xl_sld hC hXS a c dL_cell_8 z
    refine yru_ok hCl [2] 4 _ _ _ _ ?_
    simp only [ykk_ap, Int.reduceEq, Int.reduceLT, Int.reduceLE, Int.reduceNeg, Int.reduceAdd, Int.reduceSub, Int.reduceMul, and_self, false_and, and_false, not_true_eq_false, not_false_eq_true, true_implies, false_implies, xq0, xq1, xq2, xq3, xq4, xq5, xqR, xq1R, xq3R, xt1, xt2, xt3, List.mem_cons, List.not_mem_nil, or_false, false_or, or_self, if_false, if_true, reduceIte, reduceCtorEq, xent, xen, List.length_cons, List.length_nil, List.replicate, j_c, j_cJ, j_ild, j_ald, j_lld, j_ist, j_ast, j_lst, j_inc, j_add, j_sub, j_mul, j_neg, j_div, j_rem, j_and, j_shr, j_shl1, j_or, j_ladd, j_lsub, j_lmul, j_i2l, j_lcmp, j_i2c, j_dup, j_dup2, j_pop, j_goto, j_ieq, j_ine, j_ilt, j_ige, j_igt, j_ile, j_eq, j_ne, j_lt, j_ge, j_gt, j_le, xsw, j_tsw, j_gI, j_gJ, j_gR, j_pI, j_pJ, j_gs, j_iald, j_iast, j_cald, j_cast, j_aald, j_cpy, j_min, j_max, j_abs, j_iret, j_zret, j_lret, j_dret, j_ret0, j_V0, j_V1, j_V2, j_V3, j_V4, j_V5, j_S1, j_S2, j_S3, xget, xset, xset2, xclr, xc1, xcat, Nat.reduceAdd, Nat.reduceEqDiff, Nat.reduceLT, Nat.reduceLeDiff, Nat.reduceMul, List.cons_append, List.nil_append, true_and, and_true, List.singleton_append, j_lsw2, j_Sn, j_ush, j_dupx2, List.take_succ_cons, List.take_zero, List.drop_succ_cons, List.drop_zero, List.reverse_cons, List.reverse_nil, Nat.le_refl, fL_cell_0, fL_cell_1, fL_cell_3, fL_cell_6, fL_cell_7, fL_cell_9, fL_cell_12, fL_cell_14, fL_cell_15, fL_cell_17, fL_cell_18, fL_cell_19]
    refine len _ _ ?_
    by_cases g : (Ln : Int) ≤ k
    · have h' := h _ (wr_in (1540483477 * (k + 101)))
      refine yru_ok hCl [] 9 _ _ _ _ ?_
      simp only [ykk_ap, Int.reduceEq, Int.reduceLT, Int.reduceLE, Int.reduceNeg, Int.reduceAdd, Int.reduceSub, Int.reduceMul, and_self, false_and, and_false, not_true_eq_false, not_false_eq_true, true_implies, false_implies, xq0, xq1, xq2, xq3, xq4, xq5, xqR, xq1R, xq3R, xt1, xt2, xt3, List.mem_cons, List.not_mem_nil, or_false, false_or, or_self, if_false, if_true, reduceIte, reduceCtorEq, xent, xen, List.length_cons, List.length_nil, List.replicate, j_c, j_cJ, j_ild, j_ald, j_lld, j_ist, j_ast, j_lst, j_inc, j_add, j_sub, j_mul, j_neg, j_div, j_rem, j_and, j_shr, j_shl1, j_or, j_ladd, j_lsub, j_lmul, j_i2l, j_lcmp, j_i2c, j_dup, j_dup2, j_pop, j_goto, j_ieq, j_ine, j_ilt, j_ige, j_igt, j_ile, j_eq, j_ne, j_lt, j_ge, j_gt, j_le, xsw, j_tsw, j_gI, j_gJ, j_gR, j_pI, j_pJ, j_gs, j_iald, j_iast, j_cald, j_cast, j_aald, j_cpy, j_min, j_max, j_abs, j_iret, j_zret, j_lret, j_dret, j_ret0, j_V0, j_V1, j_V2, j_V3, j_V4, j_V5, j_S1, j_S2, j_S3, xget, xset, xset2, xclr, xc1, xcat, Nat.reduceAdd, Nat.reduceEqDiff, Nat.reduceLT, Nat.reduceLeDiff, Nat.reduceMul, List.cons_append, List.nil_append, true_and, and_true, List.singleton_append, j_lsw2, j_Sn, j_ush, j_dupx2, List.take_succ_cons, List.take_zero, List.drop_succ_cons, List.drop_zero, List.reverse_cons, List.reverse_nil, Nat.le_refl, fL_cell_0, fL_cell_1, fL_cell_3, fL_cell_6, fL_cell_7, fL_cell_9, fL_cell_12, fL_cell_14, fL_cell_15, fL_cell_17, fL_cell_18, fL_cell_19, j_mulw, rk, rL, g]
      exact h'
    · have h' := h _ (SL_in xs k)
      refine yru_ok hCl [8] 4 _ _ _ _ ?_
      simp only [ykk_ap, Int.reduceEq, Int.reduceLT, Int.reduceLE, Int.reduceNeg, Int.reduceAdd, Int.reduceSub, Int.reduceMul, and_self, false_and, and_false, not_true_eq_false, not_false_eq_true, true_implies, false_implies, xq0, xq1, xq2, xq3, xq4, xq5, xqR, xq1R, xq3R, xt1, xt2, xt3, List.mem_cons, List.not_mem_nil, or_false, false_or, or_self, if_false, if_true, reduceIte, reduceCtorEq, xent, xen, List.length_cons, List.length_nil, List.replicate, j_c, j_cJ, j_ild, j_ald, j_lld, j_ist, j_ast, j_lst, j_inc, j_add, j_sub, j_mul, j_neg, j_div, j_rem, j_and, j_shr, j_shl1, j_or, j_ladd, j_lsub, j_lmul, j_i2l, j_lcmp, j_i2c, j_dup, j_dup2, j_pop, j_goto, j_ieq, j_ine, j_ilt, j_ige, j_igt, j_ile, j_eq, j_ne, j_lt, j_ge, j_gt, j_le, xsw, j_tsw, j_gI, j_gJ, j_gR, j_pI, j_pJ, j_gs, j_iald, j_iast, j_cald, j_cast, j_aald, j_cpy, j_min, j_max, j_abs, j_iret, j_zret, j_lret, j_dret, j_ret0, j_V0, j_V1, j_V2, j_V3, j_V4, j_V5, j_S1, j_S2, j_S3, xget, xset, xset2, xclr, xc1, xcat, Nat.reduceAdd, Nat.reduceEqDiff, Nat.reduceLT, Nat.reduceLeDiff, Nat.reduceMul, List.cons_append, List.nil_append, true_and, and_true, List.singleton_append, j_lsw2, j_Sn, j_ush, j_dupx2, List.take_succ_cons, List.take_zero, List.drop_succ_cons, List.drop_zero, List.reverse_cons, List.reverse_nil, Nat.le_refl, fL_cell_0, fL_cell_1, fL_cell_3, fL_cell_6, fL_cell_7, fL_cell_9, fL_cell_12, fL_cell_14, fL_cell_15, fL_cell_17, fL_cell_18, fL_cell_19, rk, rL, g]
      refine sld _ _ hk.1 (by omega) ?_
      refine yru_ok hCl [] 4 _ _ _ _ ?_
      simp only [ykk_ap, Int.reduceEq, Int.reduceLT, Int.reduceLE, Int.reduceNeg, Int.reduceAdd, Int.reduceSub, Int.reduceMul, and_self, false_and, and_false, not_true_eq_false, not_false_eq_true, true_implies, false_implies, xq0, xq1, xq2, xq3, xq4, xq5, xqR, xq1R, xq3R, xt1, xt2, xt3, List.mem_cons, List.not_mem_nil, or_false, false_or, or_self, if_false, if_true, reduceIte, reduceCtorEq, xent, xen, List.length_cons, List.length_nil, List.replicate, j_c, j_cJ, j_ild, j_ald, j_lld, j_ist, j_ast, j_lst, j_inc, j_add, j_sub, j_mul, j_neg, j_div, j_rem, j_and, j_shr, j_shl1, j_or, j_ladd, j_lsub, j_lmul, j_i2l, j_lcmp, j_i2c, j_dup, j_dup2, j_pop, j_goto, j_ieq, j_ine, j_ilt, j_ige, j_igt, j_ile, j_eq, j_ne, j_lt, j_ge, j_gt, j_le, xsw, j_tsw, j_gI, j_gJ, j_gR, j_pI, j_pJ, j_gs, j_iald, j_iast, j_cald, j_cast, j_aald, j_cpy, j_min, j_max, j_abs, j_iret, j_zret, j_lret, j_dret, j_ret0, j_V0, j_V1, j_V2, j_V3, j_V4, j_V5, j_S1, j_S2, j_S3, xget, xset, xset2, xclr, xc1, xcat, Nat.reduceAdd, Nat.reduceEqDiff, Nat.reduceLT, Nat.reduceLeDiff, Nat.reduceMul, List.cons_append, List.nil_append, true_and, and_true, List.singleton_append, j_lsw2, j_Sn, j_ush, j_dupx2, List.take_succ_cons, List.take_zero, List.drop_succ_cons, List.drop_zero, List.reverse_cons, List.reverse_nil, Nat.le_refl, fL_cell_0, fL_cell_1, fL_cell_3, fL_cell_6, fL_cell_7, fL_cell_9, fL_cell_12, fL_cell_14, fL_cell_15, fL_cell_17, fL_cell_18, fL_cell_19]
      exact h'
  exact main s.heap [] _ hP va_S.rf hl
theorem xl_cell {q0 : Cond} {index pc : Nat} {own : String} {cc : ByteArray} {nL : Nat} {R : Room} {p : Program} {l : Launch} {e : Env} {s : State} {m : MethodId} {args : Array Value} {below : List Frame} {meth : Method} {c : Code} {cells slots : Nat} {Q : State → Prop} {D : va_G} {G : Nat → ClassId} {ρ : XOb → Nat} {b Ln : Nat} {xs : Nat → Int32} (hC : XCX p R s m args c cells slots D G ρ cc nL own (q0 :: xT)) (hX : XSc s ρ b Ln xs) (hV : XcS R own index 2 yL_cell cL_cell 2 (some .int) rL_cell) (d : decode cc pc = .ok (.invokestatic index, 3)) {L : XLs} {M : XM} {st : List XV} {k : Int} (hk : 0 ≤ k ∧ k ≤ 1000) (hcat : xcat st ≤ 8) (h : ∀ v : Int, XInR v → XWW p l e R s m args below meth c cells slots Q D G ρ nL (pc + 3) L (xI v :: st) M) : XWW p l e R s m args below meth c cells slots Q D G ρ nL pc L (xI k :: xR 40 0 0 :: st) M := by
  intro H locs ls hP hS hl
  obtain ⟨⟨hrc, hrs, hr1, hr2⟩, hd, m1, m2, m4, m5⟩ := hV
  obtain ⟨x1, x2, x3, x4, x5⟩ := hX
  have hMet := kL_cell_met l D G ρ H.size b Ln xs hk M (fun rv M' => XWW p l e R s m args below meth c cells slots Q D G ρ nL (pc + 3) L (rv ++ st) M') h
  have ht : ∀ w ∈ xT, w.before args s = true := fun w hw => hC.1.2.2.2.2 w (xgood1 hw)
  have hcw : CallB R s args own index yL_cell cL_cell 2 (some .int) (Cond.code yL_cell cL_cell 2 (some .int) :: xT) rL_cell 0 0 2 ∧ (Cond.static yL_cell).before args s = true := ⟨callB_of 2 hC.1.2.2.2.2 (by
    refine xgood ?_
    intro w hw
    rcases List.mem_cons.mp hw with rfl | hw
    · exact m5
    · exact hw) rfl hrc hrs (ht _ m4) (ht _ m1) hd ⟨hr1, hr2⟩, ht _ m2⟩
  exact xgo (st := st) (K := fun pc' L' st' M' => XWW p l e R s m args below meth c cells slots Q D G ρ nL pc' L' st' M') (va_runS (As := [xR 40 0 0, xI k].map (xcv ρ)) (rest := st.map (xcv ρ)) hC.1 hMet hcw ⟨xblindS [xR 40 0 0, xI k] D G ρ H.size M b Ln xs, fun U hU hW => ⟨rfl, xbegin hC hP hS U hU hW, by
    rw [hU]
    exact va_X.moved hW.alike (x1.kept (hS.2.1 b x2 x3)), Nat.lt_of_lt_of_le x2 hS.1, fun z => x3 (XA_le hS.1 _ z), x4, x5⟩⟩ rfl rfl hl.1
    (by simp) (lv_room (by rw [xcat_eq]; exact hcat)) d ⟨hC.2.2.2.2.2.1, hC.2.2.2.2.2.2⟩) hS hl (fun _ _ _ _ z => z)
end XCe

