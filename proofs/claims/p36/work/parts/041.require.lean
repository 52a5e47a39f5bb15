section XRq
/-! what is required -/
/-- UnitKitchens.requireIndex(II)V -/
abbrev wX7_requireIndex : List Cond := Cond.code yX7_requireIndex cX7_requireIndex 2 none :: xT
abbrev rX7_requireIndex : Room := { frames := 0, cells := 0, slots := 0, locals := 0 }
def pX7_requireIndex (Post : XPo) : List (Nat × XStp) := [(0, j_ild 0 1), (1, j_lt 9), (4, j_ild 0 1), (5, j_ild 1 1), (6, j_ilt 20), (12, j_dup), (20, j_ret0 Post)]
set_option maxRecDepth 100000 in
theorem aX7_requireIndex (Post : XPo) : XAll rX7_requireIndex cX7_requireIndex 2 RX7 wX7_requireIndex none Post (pX7_requireIndex Post) := XAll.cons (xs_iload_n dX7_requireIndex_0 rfl) (XAll.cons (xs_if_lt dX7_requireIndex_1 (by decide)) (XAll.cons (xs_iload_n dX7_requireIndex_4 rfl) (XAll.cons (xs_iload_n dX7_requireIndex_5 rfl) (XAll.cons (xs_icmp_lt dX7_requireIndex_6 (by decide)) (XAll.cons (xs_dup dX7_requireIndex_12) (XAll.cons (xs_vret rfl dX7_requireIndex_20) (XAll.nil)))))))
theorem fX7_requireIndex_0 (Post : XPo) (cut : List Nat) (WW : XK) (n : Nat) (L : XLs) (st : List XV) (M : XM) : xru (xlk (pX7_requireIndex Post)) cut WW (n + 1) 0 L st M = j_ild 0 1 0 L st M (xkk (xlk (pX7_requireIndex Post)) cut WW n) := (rfl)
theorem fX7_requireIndex_1 (Post : XPo) (cut : List Nat) (WW : XK) (n : Nat) (L : XLs) (st : List XV) (M : XM) : xru (xlk (pX7_requireIndex Post)) cut WW (n + 1) 1 L st M = j_lt 9 1 L st M (xkk (xlk (pX7_requireIndex Post)) cut WW n) := (rfl)
theorem fX7_requireIndex_4 (Post : XPo) (cut : List Nat) (WW : XK) (n : Nat) (L : XLs) (st : List XV) (M : XM) : xru (xlk (pX7_requireIndex Post)) cut WW (n + 1) 4 L st M = j_ild 0 1 4 L st M (xkk (xlk (pX7_requireIndex Post)) cut WW n) := (rfl)
theorem fX7_requireIndex_5 (Post : XPo) (cut : List Nat) (WW : XK) (n : Nat) (L : XLs) (st : List XV) (M : XM) : xru (xlk (pX7_requireIndex Post)) cut WW (n + 1) 5 L st M = j_ild 1 1 5 L st M (xkk (xlk (pX7_requireIndex Post)) cut WW n) := (rfl)
theorem fX7_requireIndex_6 (Post : XPo) (cut : List Nat) (WW : XK) (n : Nat) (L : XLs) (st : List XV) (M : XM) : xru (xlk (pX7_requireIndex Post)) cut WW (n + 1) 6 L st M = j_ilt 20 6 L st M (xkk (xlk (pX7_requireIndex Post)) cut WW n) := (rfl)
theorem fX7_requireIndex_12 (Post : XPo) (cut : List Nat) (WW : XK) (n : Nat) (L : XLs) (st : List XV) (M : XM) : xru (xlk (pX7_requireIndex Post)) cut WW (n + 1) 12 L st M = j_dup 12 L st M (xkk (xlk (pX7_requireIndex Post)) cut WW n) := (rfl)
theorem fX7_requireIndex_20 (Post : XPo) (cut : List Nat) (WW : XK) (n : Nat) (L : XLs) (st : List XV) (M : XM) : xru (xlk (pX7_requireIndex Post)) cut WW (n + 1) 20 L st M = j_ret0 Post 20 L st M (xkk (xlk (pX7_requireIndex Post)) cut WW n) := (rfl)
def sX7_requireIndex : XSp := xt2 (fun a b M Q => (XInR a ∧ XInR b) ∧ (0 ≤ a ∧ a < b) ∧ Q [] M)
set_option maxRecDepth 100000 in
theorem kX7_requireIndex : XCn yX7_requireIndex wX7_requireIndex rX7_requireIndex sX7_requireIndex := XT2 pX7_requireIndex rfl rfl aX7_requireIndex (by decide) (fun a b M Post h WW hC => by
  obtain ⟨⟨ha, hb⟩, ⟨h0, h1⟩, h⟩ := h
  have h2 : ¬ a < 0 := by omega
  show WW 0 [some (xI a), some (xI b)] [] M
  refine xru_ok hC [] 20 _ _ _ _ ?_
  simp only [xkk_ap, Int.reduceEq, Int.reduceLT, Int.reduceLE, Int.reduceNeg, Int.reduceAdd, Int.reduceSub, Int.reduceMul, and_self, false_and, and_false, not_true_eq_false, not_false_eq_true, true_implies, false_implies, xq0, xq1, xq2, xq3, xq4, xq5, xqR, xq1R, xq3R, xt1, xt2, xt3, List.mem_cons, List.not_mem_nil, or_false, false_or, or_self, if_false, if_true, reduceIte, reduceCtorEq, xent, xen, List.length_cons, List.length_nil, List.replicate, j_c, j_cJ, j_ild, j_ald, j_lld, j_ist, j_ast, j_lst, j_inc, j_add, j_sub, j_mul, j_neg, j_div, j_rem, j_and, j_shr, j_shl1, j_or, j_ladd, j_lsub, j_lmul, j_i2l, j_lcmp, j_i2c, j_dup, j_dup2, j_pop, j_goto, j_ieq, j_ine, j_ilt, j_ige, j_igt, j_ile, j_eq, j_ne, j_lt, j_ge, j_gt, j_le, xsw, j_tsw, j_gI, j_gJ, j_gR, j_pI, j_pJ, j_gs, j_iald, j_iast, j_cald, j_cast, j_aald, j_cpy, j_min, j_max, j_abs, j_iret, j_zret, j_lret, j_dret, j_ret0, j_V0, j_V1, j_V2, j_V3, j_V4, j_V5, j_S1, j_S2, j_S3, xget, xset, xset2, xclr, xc1, xcat, Nat.reduceAdd, Nat.reduceEqDiff, Nat.reduceLT, Nat.reduceLeDiff, Nat.reduceMul, List.cons_append, List.nil_append, true_and, and_true, List.singleton_append, fX7_requireIndex_0, fX7_requireIndex_1, fX7_requireIndex_4, fX7_requireIndex_5, fX7_requireIndex_6, fX7_requireIndex_12, fX7_requireIndex_20, ha, hb, h1, h2]
  exact h)
/-- UnitKitchens.requireRange(III)V -/
abbrev wX7_requireRange : List Cond := Cond.code yX7_requireRange cX7_requireRange 3 none :: xT
abbrev rX7_requireRange : Room := { frames := 0, cells := 0, slots := 0, locals := 0 }
def pX7_requireRange (Post : XPo) : List (Nat × XStp) := [(0, j_ild 0 1), (1, j_ild 1 1), (2, j_ilt 10), (5, j_ild 0 1), (6, j_ild 2 1), (7, j_ile 21), (13, j_dup), (21, j_ret0 Post)]
set_option maxRecDepth 100000 in
theorem aX7_requireRange (Post : XPo) : XAll rX7_requireRange cX7_requireRange 3 RX7 wX7_requireRange none Post (pX7_requireRange Post) := XAll.cons (xs_iload_n dX7_requireRange_0 rfl) (XAll.cons (xs_iload_n dX7_requireRange_1 rfl) (XAll.cons (xs_icmp_lt dX7_requireRange_2 (by decide)) (XAll.cons (xs_iload_n dX7_requireRange_5 rfl) (XAll.cons (xs_iload_n dX7_requireRange_6 rfl) (XAll.cons (xs_icmp_le dX7_requireRange_7 (by decide)) (XAll.cons (xs_dup dX7_requireRange_13) (XAll.cons (xs_vret rfl dX7_requireRange_21) (XAll.nil))))))))
theorem fX7_requireRange_0 (Post : XPo) (cut : List Nat) (WW : XK) (n : Nat) (L : XLs) (st : List XV) (M : XM) : xru (xlk (pX7_requireRange Post)) cut WW (n + 1) 0 L st M = j_ild 0 1 0 L st M (xkk (xlk (pX7_requireRange Post)) cut WW n) := (rfl)
theorem fX7_requireRange_1 (Post : XPo) (cut : List Nat) (WW : XK) (n : Nat) (L : XLs) (st : List XV) (M : XM) : xru (xlk (pX7_requireRange Post)) cut WW (n + 1) 1 L st M = j_ild 1 1 1 L st M (xkk (xlk (pX7_requireRange Post)) cut WW n) := (rfl)
theorem fX7_requireRange_2 (Post : XPo) (cut : List Nat) (WW : XK) (n : Nat) (L : XLs) (st : List XV) (M : XM) : xru (xlk (pX7_requireRange Post)) cut WW (n + 1) 2 L st M = j_ilt 10 2 L st M (xkk (xlk (pX7_requireRange Post)) cut WW n) := (rfl)
theorem fX7_requireRange_5 (Post : XPo) (cut : List Nat) (WW : XK) (n : Nat) (L : XLs) (st : List XV) (M : XM) : xru (xlk (pX7_requireRange Post)) cut WW (n + 1) 5 L st M = j_ild 0 1 5 L st M (xkk (xlk (pX7_requireRange Post)) cut WW n) := (rfl)
theorem fX7_requireRange_6 (Post : XPo) (cut : List Nat) (WW : XK) (n : Nat) (L : XLs) (st : List XV) (M : XM) : xru (xlk (pX7_requireRange Post)) cut WW (n + 1) 6 L st M = j_ild 2 1 6 L st M (xkk (xlk (pX7_requireRange Post)) cut WW n) := (rfl)
theorem fX7_requireRange_7 (Post : XPo) (cut : List Nat) (WW : XK) (n : Nat) (L : XLs) (st : List XV) (M : XM) : xru (xlk (pX7_requireRange Post)) cut WW (n + 1) 7 L st M = j_ile 21 7 L st M (xkk (xlk (pX7_requireRange Post)) cut WW n) := (rfl)
theorem fX7_requireRange_13 (Post : XPo) (cut : List Nat) (WW : XK) (n : Nat) (L : XLs) (st : List XV) (M : XM) : xru (xlk (pX7_requireRange Post)) cut WW (n + 1) 13 L st M = j_dup 13 L st M (xkk (xlk (pX7_requireRange Post)) cut WW n) := (rfl)
theorem fX7_requireRange_21 (Post : XPo) (cut : List Nat) (WW : XK) (n : Nat) (L : XLs) (st : List XV) (M : XM) : xru (xlk (pX7_requireRange Post)) cut WW (n + 1) 21 L st M = j_ret0 Post 21 L st M (xkk (xlk (pX7_requireRange Post)) cut WW n) := (rfl)
def sX7_requireRange : XSp := xt3 (fun a b d M Q => (XInR a ∧ XInR b ∧ XInR d) ∧ (b ≤ a ∧ a ≤ d) ∧ Q [] M)
set_option maxRecDepth 100000 in
theorem kX7_requireRange : XCn yX7_requireRange wX7_requireRange rX7_requireRange sX7_requireRange := XT3 pX7_requireRange rfl rfl aX7_requireRange (by decide) (fun a b d M Post h WW hC => by
  obtain ⟨⟨ha, hb, hd⟩, ⟨h0, h1⟩, h⟩ := h
  have h2 : ¬ a < b := by omega
  show WW 0 [some (xI a), some (xI b), some (xI d)] [] M
  refine xru_ok hC [] 20 _ _ _ _ ?_
  simp only [xkk_ap, Int.reduceEq, Int.reduceLT, Int.reduceLE, Int.reduceNeg, Int.reduceAdd, Int.reduceSub, Int.reduceMul, and_self, false_and, and_false, not_true_eq_false, not_false_eq_true, true_implies, false_implies, xq0, xq1, xq2, xq3, xq4, xq5, xqR, xq1R, xq3R, xt1, xt2, xt3, List.mem_cons, List.not_mem_nil, or_false, false_or, or_self, if_false, if_true, reduceIte, reduceCtorEq, xent, xen, List.length_cons, List.length_nil, List.replicate, j_c, j_cJ, j_ild, j_ald, j_lld, j_ist, j_ast, j_lst, j_inc, j_add, j_sub, j_mul, j_neg, j_div, j_rem, j_and, j_shr, j_shl1, j_or, j_ladd, j_lsub, j_lmul, j_i2l, j_lcmp, j_i2c, j_dup, j_dup2, j_pop, j_goto, j_ieq, j_ine, j_ilt, j_ige, j_igt, j_ile, j_eq, j_ne, j_lt, j_ge, j_gt, j_le, xsw, j_tsw, j_gI, j_gJ, j_gR, j_pI, j_pJ, j_gs, j_iald, j_iast, j_cald, j_cast, j_aald, j_cpy, j_min, j_max, j_abs, j_iret, j_zret, j_lret, j_dret, j_ret0, j_V0, j_V1, j_V2, j_V3, j_V4, j_V5, j_S1, j_S2, j_S3, xget, xset, xset2, xclr, xc1, xcat, Nat.reduceAdd, Nat.reduceEqDiff, Nat.reduceLT, Nat.reduceLeDiff, Nat.reduceMul, List.cons_append, List.nil_append, true_and, and_true, List.singleton_append, fX7_requireRange_0, fX7_requireRange_1, fX7_requireRange_2, fX7_requireRange_5, fX7_requireRange_6, fX7_requireRange_7, fX7_requireRange_13, fX7_requireRange_21, ha, hb, hd, h1, h2]
  exact h)
/-- UnitKitchens.requireState(Z)V -/
abbrev wX7_requireState : List Cond := Cond.code yX7_requireState cX7_requireState 1 none :: xT
abbrev rX7_requireState : Room := { frames := 0, cells := 0, slots := 0, locals := 0 }
def pX7_requireState (Post : XPo) : List (Nat × XStp) := [(0, j_ild 0 1), (1, j_ne 15), (7, j_dup), (15, j_ret0 Post)]
set_option maxRecDepth 100000 in
theorem aX7_requireState (Post : XPo) : XAll rX7_requireState cX7_requireState 1 RX7 wX7_requireState none Post (pX7_requireState Post) := XAll.cons (xs_iload_n dX7_requireState_0 rfl) (XAll.cons (xs_if_ne dX7_requireState_1 (by decide)) (XAll.cons (xs_dup dX7_requireState_7) (XAll.cons (xs_vret rfl dX7_requireState_15) (XAll.nil))))
theorem fX7_requireState_0 (Post : XPo) (cut : List Nat) (WW : XK) (n : Nat) (L : XLs) (st : List XV) (M : XM) : xru (xlk (pX7_requireState Post)) cut WW (n + 1) 0 L st M = j_ild 0 1 0 L st M (xkk (xlk (pX7_requireState Post)) cut WW n) := (rfl)
theorem fX7_requireState_1 (Post : XPo) (cut : List Nat) (WW : XK) (n : Nat) (L : XLs) (st : List XV) (M : XM) : xru (xlk (pX7_requireState Post)) cut WW (n + 1) 1 L st M = j_ne 15 1 L st M (xkk (xlk (pX7_requireState Post)) cut WW n) := (rfl)
theorem fX7_requireState_7 (Post : XPo) (cut : List Nat) (WW : XK) (n : Nat) (L : XLs) (st : List XV) (M : XM) : xru (xlk (pX7_requireState Post)) cut WW (n + 1) 7 L st M = j_dup 7 L st M (xkk (xlk (pX7_requireState Post)) cut WW n) := (rfl)
theorem fX7_requireState_15 (Post : XPo) (cut : List Nat) (WW : XK) (n : Nat) (L : XLs) (st : List XV) (M : XM) : xru (xlk (pX7_requireState Post)) cut WW (n + 1) 15 L st M = j_ret0 Post 15 L st M (xkk (xlk (pX7_requireState Post)) cut WW n) := (rfl)
def sX7_requireState : XSp := xt1 (fun a M Q => XInR a ∧ ¬ a = 0 ∧ Q [] M)
set_option maxRecDepth 100000 in
theorem kX7_requireState : XCn yX7_requireState wX7_requireState rX7_requireState sX7_requireState := XT1 pX7_requireState rfl rfl aX7_requireState (by decide) (fun a M Post h WW hC => by
  obtain ⟨ha, h1, h⟩ := h
  show WW 0 [some (xI a)] [] M
  refine xru_ok hC [] 20 _ _ _ _ ?_
  simp only [xkk_ap, Int.reduceEq, Int.reduceLT, Int.reduceLE, Int.reduceNeg, Int.reduceAdd, Int.reduceSub, Int.reduceMul, and_self, false_and, and_false, not_true_eq_false, not_false_eq_true, true_implies, false_implies, xq0, xq1, xq2, xq3, xq4, xq5, xqR, xq1R, xq3R, xt1, xt2, xt3, List.mem_cons, List.not_mem_nil, or_false, false_or, or_self, if_false, if_true, reduceIte, reduceCtorEq, xent, xen, List.length_cons, List.length_nil, List.replicate, j_c, j_cJ, j_ild, j_ald, j_lld, j_ist, j_ast, j_lst, j_inc, j_add, j_sub, j_mul, j_neg, j_div, j_rem, j_and, j_shr, j_shl1, j_or, j_ladd, j_lsub, j_lmul, j_i2l, j_lcmp, j_i2c, j_dup, j_dup2, j_pop, j_goto, j_ieq, j_ine, j_ilt, j_ige, j_igt, j_ile, j_eq, j_ne, j_lt, j_ge, j_gt, j_le, xsw, j_tsw, j_gI, j_gJ, j_gR, j_pI, j_pJ, j_gs, j_iald, j_iast, j_cald, j_cast, j_aald, j_cpy, j_min, j_max, j_abs, j_iret, j_zret, j_lret, j_dret, j_ret0, j_V0, j_V1, j_V2, j_V3, j_V4, j_V5, j_S1, j_S2, j_S3, xget, xset, xset2, xclr, xc1, xcat, Nat.reduceAdd, Nat.reduceEqDiff, Nat.reduceLT, Nat.reduceLeDiff, Nat.reduceMul, List.cons_append, List.nil_append, true_and, and_true, List.singleton_append, fX7_requireState_0, fX7_requireState_1, fX7_requireState_7, fX7_requireState_15, ha, h1]
  exact h)
end XRq

