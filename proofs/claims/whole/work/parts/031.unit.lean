section XU
/-- UnitKitchens$Unit.owed()I -/
abbrev wX6_owed : List Cond := Cond.code yX6_owed cX6_owed 1 (some .int) :: xT
abbrev rX6_owed : Room := { frames := 0, cells := 0, slots := 0, locals := 0 }
def pX6_owed (Post : XPo) : List (Nat × XStp) := [(0, j_ald 0 1), (1, j_gI 14 6), (4, j_ald 0 1), (5, j_gI 14 7), (8, j_add), (9, j_iret Post)]
set_option maxRecDepth 100000 in
theorem aX6_owed (Post : XPo) : XAll rX6_owed cX6_owed 1 RX6 wX6_owed (some .int) Post (pX6_owed Post) := XAll.cons (xs_aload_n dX6_owed_0 rfl) (XAll.cons (fgX6_6 tw_161 dX6_owed_1) (XAll.cons (xs_aload_n dX6_owed_4 rfl) (XAll.cons (fgX6_7 tw_163 dX6_owed_5) (XAll.cons (xs_iadd dX6_owed_8) (XAll.cons (xs_iret rfl dX6_owed_9) (XAll.nil))))))
theorem fX6_owed_0 (Post : XPo) : xlk (pX6_owed Post) 0 = j_ald 0 1 := rfl
theorem fX6_owed_1 (Post : XPo) : xlk (pX6_owed Post) 1 = j_gI 14 6 := rfl
theorem fX6_owed_4 (Post : XPo) : xlk (pX6_owed Post) 4 = j_ald 0 1 := rfl
theorem fX6_owed_5 (Post : XPo) : xlk (pX6_owed Post) 5 = j_gI 14 7 := rfl
theorem fX6_owed_8 (Post : XPo) : xlk (pX6_owed Post) 8 = j_add := rfl
theorem fX6_owed_9 (Post : XPo) : xlk (pX6_owed Post) 9 = j_iret Post := rfl
def sX6_owed : XSp := xq0 14 (fun i k M Q => Q [xI (M 14 i k 6 + M 14 i k 7)] M)
set_option maxRecDepth 100000 in
theorem kX6_owed : XCn yX6_owed wX6_owed rX6_owed sX6_owed := XC0 pX6_owed rfl rfl aX6_owed (by decide) (fun i k M Post hv h WW hC => by
  refine xrun_ok hC (fun _ => false) 20 _ _ _ _ ?_
  simp only [xent, xen, List.length_cons, List.length_nil, List.replicate, if_false, if_true, reduceCtorEq, xrun, j_c, j_cJ, j_ild, j_ald, j_lld, j_ist, j_ast, j_lst, j_inc, j_add, j_sub, j_mul, j_neg, j_div, j_rem, j_and, j_shr, j_shl1, j_or, j_ladd, j_lsub, j_lmul, j_i2l, j_lcmp, j_i2c, j_dup, j_dup2, j_pop, j_goto, j_ieq, j_ine, j_ilt, j_ige, j_igt, j_ile, j_eq, j_ne, j_lt, j_ge, j_gt, j_le, xsw, j_tsw, j_gI, j_gJ, j_gR, j_pI, j_pJ, j_gs, j_iald, j_iast, j_cald, j_cast, j_lald, j_last, j_aald, j_cpy, j_min, j_max, j_abs, j_iret, j_zret, j_lret, j_dret, j_ret0, j_V0, j_V1, j_V2, j_V3, j_V4, j_V5, j_S1, j_S2, j_S3, xget, xset, xset2, xclr, xc1, xcat, Nat.reduceAdd, Nat.reduceEqDiff, Nat.reduceLT, Nat.reduceLeDiff, Nat.reduceMul, List.cons_append, List.nil_append, true_and, and_true, List.singleton_append, fX6_owed_0, fX6_owed_1, fX6_owed_4, fX6_owed_5, fX6_owed_8, fX6_owed_9, hv]
  exact h)
/-- UnitKitchens$Unit.waiting(I)I -/
abbrev wX6_waiting : List Cond := Cond.code yX6_waiting cX6_waiting 2 (some .int) :: xT
abbrev rX6_waiting : Room := { frames := 0, cells := 0, slots := 0, locals := 0 }
def pX6_waiting (Post : XPo) : List (Nat × XStp) := [(0, j_ald 0 1), (1, j_gI 14 8), (4, j_c (-1) 1), (5, j_ine 12), (8, j_c (-1) 1), (9, j_goto 18), (12, j_ild 1 1), (13, j_ald 0 1), (14, j_gI 14 8), (17, j_sub), (18, j_iret Post)]
set_option maxRecDepth 100000 in
theorem aX6_waiting (Post : XPo) : XAll rX6_waiting cX6_waiting 2 RX6 wX6_waiting (some .int) Post (pX6_waiting Post) := XAll.cons (xs_aload_n dX6_waiting_0 rfl) (XAll.cons (fgX6_8 tw_165 dX6_waiting_1) (XAll.cons (xs_iconst dX6_waiting_4) (XAll.cons (xs_icmp_ne dX6_waiting_5 (by decide)) (XAll.cons (xs_iconst dX6_waiting_8) (XAll.cons (xs_goto dX6_waiting_9 (by decide)) (XAll.cons (xs_iload_n dX6_waiting_12 rfl) (XAll.cons (xs_aload_n dX6_waiting_13 rfl) (XAll.cons (fgX6_8 tw_165 dX6_waiting_14) (XAll.cons (xs_isub dX6_waiting_17) (XAll.cons (xs_iret rfl dX6_waiting_18) (XAll.nil)))))))))))
theorem fX6_waiting_0 (Post : XPo) : xlk (pX6_waiting Post) 0 = j_ald 0 1 := rfl
theorem fX6_waiting_1 (Post : XPo) : xlk (pX6_waiting Post) 1 = j_gI 14 8 := rfl
theorem fX6_waiting_4 (Post : XPo) : xlk (pX6_waiting Post) 4 = j_c (-1) 1 := rfl
theorem fX6_waiting_5 (Post : XPo) : xlk (pX6_waiting Post) 5 = j_ine 12 := rfl
theorem fX6_waiting_8 (Post : XPo) : xlk (pX6_waiting Post) 8 = j_c (-1) 1 := rfl
theorem fX6_waiting_9 (Post : XPo) : xlk (pX6_waiting Post) 9 = j_goto 18 := rfl
theorem fX6_waiting_12 (Post : XPo) : xlk (pX6_waiting Post) 12 = j_ild 1 1 := rfl
theorem fX6_waiting_13 (Post : XPo) : xlk (pX6_waiting Post) 13 = j_ald 0 1 := rfl
theorem fX6_waiting_14 (Post : XPo) : xlk (pX6_waiting Post) 14 = j_gI 14 8 := rfl
theorem fX6_waiting_17 (Post : XPo) : xlk (pX6_waiting Post) 17 = j_sub := rfl
theorem fX6_waiting_18 (Post : XPo) : xlk (pX6_waiting Post) 18 = j_iret Post := rfl
def sX6_waiting : XSp := xq1 14 (fun i k now M Q => XInR (M 14 i k 8) ∧ (M 14 i k 8 = -1 → Q [xI (-1)] M) ∧ (¬ M 14 i k 8 = -1 → Q [xI (now - M 14 i k 8)] M))
set_option maxRecDepth 100000 in
theorem kX6_waiting : XCn yX6_waiting wX6_waiting rX6_waiting sX6_waiting := XC1 pX6_waiting rfl rfl aX6_waiting (by decide) (fun i k now M Post hv h WW hC => by
  refine xrun_ok hC (fun _ => false) 20 _ _ _ _ ?_
  simp only [xent, xen, List.length_cons, List.length_nil, List.replicate, if_false, if_true, reduceCtorEq, xrun, j_c, j_cJ, j_ild, j_ald, j_lld, j_ist, j_ast, j_lst, j_inc, j_add, j_sub, j_mul, j_neg, j_div, j_rem, j_and, j_shr, j_shl1, j_or, j_ladd, j_lsub, j_lmul, j_i2l, j_lcmp, j_i2c, j_dup, j_dup2, j_pop, j_goto, j_ieq, j_ine, j_ilt, j_ige, j_igt, j_ile, j_eq, j_ne, j_lt, j_ge, j_gt, j_le, xsw, j_tsw, j_gI, j_gJ, j_gR, j_pI, j_pJ, j_gs, j_iald, j_iast, j_cald, j_cast, j_lald, j_last, j_aald, j_cpy, j_min, j_max, j_abs, j_iret, j_zret, j_lret, j_dret, j_ret0, j_V0, j_V1, j_V2, j_V3, j_V4, j_V5, j_S1, j_S2, j_S3, xget, xset, xset2, xclr, xc1, xcat, Nat.reduceAdd, Nat.reduceEqDiff, Nat.reduceLT, Nat.reduceLeDiff, Nat.reduceMul, List.cons_append, List.nil_append, true_and, and_true, List.singleton_append, fX6_waiting_0, fX6_waiting_1, fX6_waiting_4, fX6_waiting_5, fX6_waiting_8, fX6_waiting_9, fX6_waiting_12, fX6_waiting_13, fX6_waiting_14, fX6_waiting_17, fX6_waiting_18, hv]
  trace_state
  exact h)
end XU

