section XSm
/-! the law's small methods -/
theorem xup_row (M : XM) (t : Nat) (i k s v : Int) : (xup M t i k s v) t i k = sup (M t i k) s v := by
  funext y
  simp only [xup, sup, true_and]
theorem xup_oth {M : XM} {t t' : Nat} {i k s v : Int} (h : ¬ t' = t) : (xup M t i k s v) t' = M t' := xup_tag h
/-- nothing but the batches has changed -/
def bSame (M M' : XM) : Prop := (∀ t : Nat, ¬ t = 20 → ¬ t = 29 → M' t = M t) ∧ ∀ s : Int, ¬ s = 12 → M' 20 0 0 s = M 20 0 0 s
theorem bSame_refl (M : XM) : bSame M M := ⟨fun _ _ _ => rfl, fun _ _ => rfl⟩
theorem bSame_trans {M M' M'' : XM} (h : bSame M M') (g : bSame M' M'') : bSame M M'' := ⟨fun t a b => (g.1 t a b).trans (h.1 t a b), fun s a => (g.2 s a).trans (h.2 s a)⟩
def BM (M : XM) (F : Int → Int) (T : Int) : Prop := BR (M 29 0 0) (M 20 0 0 12) F T
theorem BM_k {M : XM} {F : Int → Int} {T : Int} (h : BM M F T) {k : Int} (h0 : 0 ≤ k) (h1 : k < M 20 0 0 12) : XInR (M 29 0 0 k) ∧ 131072 ≤ M 29 0 0 k := by
  have := h.2.1 k h0 h1
  exact ⟨⟨by omega, by omega⟩, this.1⟩
/-- UnitKitchensLaw.key(III)I -/
abbrev wL_key : List Cond := Cond.code yL_key cL_key 3 (some .int) :: xT
abbrev rL_key : Room := { frames := 0, cells := 0, slots := 0, locals := 0 }
def pL_key (Post : XPo) : List (Nat × XStp) := [(0, j_ild 0 1), (1, j_c 8 2), (3, j_ild 1 1), (4, j_mul), (5, j_add), (6, j_c 32 2), (8, j_ild 2 1), (9, j_mul), (10, j_add), (11, j_iret Post)]
set_option maxRecDepth 100000 in
theorem aL_key (Post : XPo) : XAll rL_key cL_key 3 RL wL_key (some .int) Post (pL_key Post) := XAll.cons (xs_iload_n dL_key_0 rfl) (XAll.cons (xs_bipush dL_key_1 rfl) (XAll.cons (xs_iload_n dL_key_3 rfl) (XAll.cons (xs_imul dL_key_4) (XAll.cons (xs_iadd dL_key_5) (XAll.cons (xs_bipush dL_key_6 rfl) (XAll.cons (xs_iload_n dL_key_8 rfl) (XAll.cons (xs_imul dL_key_9) (XAll.cons (xs_iadd dL_key_10) (XAll.cons (xs_iret rfl dL_key_11) (XAll.nil))))))))))
theorem fL_key_0 (Post : XPo) (cut : List Nat) (WW : XK) (n : Nat) (L : XLs) (st : List XV) (M : XM) : yru (xlk (pL_key Post)) cut WW (n + 1) 0 L st M = j_ild 0 1 0 L st M (ykk (xlk (pL_key Post)) cut WW n) := yf rfl
theorem fL_key_1 (Post : XPo) (cut : List Nat) (WW : XK) (n : Nat) (L : XLs) (st : List XV) (M : XM) : yru (xlk (pL_key Post)) cut WW (n + 1) 1 L st M = j_c 8 2 1 L st M (ykk (xlk (pL_key Post)) cut WW n) := yf rfl
theorem fL_key_3 (Post : XPo) (cut : List Nat) (WW : XK) (n : Nat) (L : XLs) (st : List XV) (M : XM) : yru (xlk (pL_key Post)) cut WW (n + 1) 3 L st M = j_ild 1 1 3 L st M (ykk (xlk (pL_key Post)) cut WW n) := yf rfl
theorem fL_key_4 (Post : XPo) (cut : List Nat) (WW : XK) (n : Nat) (L : XLs) (st : List XV) (M : XM) : yru (xlk (pL_key Post)) cut WW (n + 1) 4 L st M = j_mul 4 L st M (ykk (xlk (pL_key Post)) cut WW n) := yf rfl
theorem fL_key_5 (Post : XPo) (cut : List Nat) (WW : XK) (n : Nat) (L : XLs) (st : List XV) (M : XM) : yru (xlk (pL_key Post)) cut WW (n + 1) 5 L st M = j_add 5 L st M (ykk (xlk (pL_key Post)) cut WW n) := yf rfl
theorem fL_key_6 (Post : XPo) (cut : List Nat) (WW : XK) (n : Nat) (L : XLs) (st : List XV) (M : XM) : yru (xlk (pL_key Post)) cut WW (n + 1) 6 L st M = j_c 32 2 6 L st M (ykk (xlk (pL_key Post)) cut WW n) := yf rfl
theorem fL_key_8 (Post : XPo) (cut : List Nat) (WW : XK) (n : Nat) (L : XLs) (st : List XV) (M : XM) : yru (xlk (pL_key Post)) cut WW (n + 1) 8 L st M = j_ild 2 1 8 L st M (ykk (xlk (pL_key Post)) cut WW n) := yf rfl
theorem fL_key_9 (Post : XPo) (cut : List Nat) (WW : XK) (n : Nat) (L : XLs) (st : List XV) (M : XM) : yru (xlk (pL_key Post)) cut WW (n + 1) 9 L st M = j_mul 9 L st M (ykk (xlk (pL_key Post)) cut WW n) := yf rfl
theorem fL_key_10 (Post : XPo) (cut : List Nat) (WW : XK) (n : Nat) (L : XLs) (st : List XV) (M : XM) : yru (xlk (pL_key Post)) cut WW (n + 1) 10 L st M = j_add 10 L st M (ykk (xlk (pL_key Post)) cut WW n) := yf rfl
theorem fL_key_11 (Post : XPo) (cut : List Nat) (WW : XK) (n : Nat) (L : XLs) (st : List XV) (M : XM) : yru (xlk (pL_key Post)) cut WW (n + 1) 11 L st M = j_iret Post 11 L st M (ykk (xlk (pL_key Post)) cut WW n) := yf rfl
def sL_key : XSp := xt3 (fun a b c M Q => Q [xI (a + 8 * b + 32 * c)] M)
set_option maxRecDepth 100000 in
theorem kL_key : XCn yL_key wL_key rL_key sL_key := XT3 pL_key rfl rfl aL_key (by decide) (fun a b c M Post h WW hC => by
  show WW 0 [some (xI a), some (xI b), some (xI c)] [] M
  refine yru_ok hC [] 20 _ _ _ _ ?_
  simp only [ykk_ap, Int.reduceEq, Int.reduceLT, Int.reduceLE, Int.reduceNeg, Int.reduceAdd, Int.reduceSub, Int.reduceMul, and_self, false_and, and_false, not_true_eq_false, not_false_eq_true, true_implies, false_implies, xq0, xq1, xq2, xq3, xq4, xq5, xqR, xq1R, xq3R, xt1, xt2, xt3, List.mem_cons, List.not_mem_nil, or_false, false_or, or_self, if_false, if_true, reduceIte, reduceCtorEq, xent, xen, List.length_cons, List.length_nil, List.replicate, j_c, j_cJ, j_ild, j_ald, j_lld, j_ist, j_ast, j_lst, j_inc, j_add, j_sub, j_mul, j_neg, j_div, j_rem, j_and, j_shr, j_shl1, j_or, j_ladd, j_lsub, j_lmul, j_i2l, j_lcmp, j_i2c, j_dup, j_dup2, j_pop, j_goto, j_ieq, j_ine, j_ilt, j_ige, j_igt, j_ile, j_eq, j_ne, j_lt, j_ge, j_gt, j_le, xsw, j_tsw, j_gI, j_gJ, j_gR, j_pI, j_pJ, j_gs, j_iald, j_iast, j_cald, j_cast, j_aald, j_cpy, j_min, j_max, j_abs, j_iret, j_zret, j_lret, j_dret, j_ret0, j_V0, j_V1, j_V2, j_V3, j_V4, j_V5, j_S1, j_S2, j_S3, xget, xset, xset2, xclr, xc1, xcat, Nat.reduceAdd, Nat.reduceEqDiff, Nat.reduceLT, Nat.reduceLeDiff, Nat.reduceMul, List.cons_append, List.nil_append, true_and, and_true, List.singleton_append, j_lsw2, j_Sn, j_ush, j_dupx2, List.take_succ_cons, List.take_zero, List.drop_succ_cons, List.drop_zero, List.reverse_cons, List.reverse_nil, Nat.le_refl, fL_key_0, fL_key_1, fL_key_3, fL_key_4, fL_key_5, fL_key_6, fL_key_8, fL_key_9, fL_key_10, fL_key_11]
  exact h)
/-- UnitKitchensLaw.at(II)I -/
abbrev wL_at : List Cond := Cond.code yL_at cL_at 2 (some .int) :: xT
abbrev rL_at : Room := { frames := 0, cells := 0, slots := 0, locals := 0 }
def pL_at (Post : XPo) : List (Nat × XStp) := [(0, j_ild 0 1), (1, j_c 1 1), (2, j_ush), (3, j_ild 1 1), (4, j_rem), (5, j_iret Post)]
set_option maxRecDepth 100000 in
theorem aL_at (Post : XPo) : XAll rL_at cL_at 2 RL wL_at (some .int) Post (pL_at Post) := XAll.cons (xs_iload_n dL_at_0 rfl) (XAll.cons (xs_iconst dL_at_1) (XAll.cons (xs_iushr dL_at_2) (XAll.cons (xs_iload_n dL_at_3 rfl) (XAll.cons (xs_irem dL_at_4) (XAll.cons (xs_iret rfl dL_at_5) (XAll.nil))))))
theorem fL_at_0 (Post : XPo) (cut : List Nat) (WW : XK) (n : Nat) (L : XLs) (st : List XV) (M : XM) : yru (xlk (pL_at Post)) cut WW (n + 1) 0 L st M = j_ild 0 1 0 L st M (ykk (xlk (pL_at Post)) cut WW n) := yf rfl
theorem fL_at_1 (Post : XPo) (cut : List Nat) (WW : XK) (n : Nat) (L : XLs) (st : List XV) (M : XM) : yru (xlk (pL_at Post)) cut WW (n + 1) 1 L st M = j_c 1 1 1 L st M (ykk (xlk (pL_at Post)) cut WW n) := yf rfl
theorem fL_at_2 (Post : XPo) (cut : List Nat) (WW : XK) (n : Nat) (L : XLs) (st : List XV) (M : XM) : yru (xlk (pL_at Post)) cut WW (n + 1) 2 L st M = j_ush 2 L st M (ykk (xlk (pL_at Post)) cut WW n) := yf rfl
theorem fL_at_3 (Post : XPo) (cut : List Nat) (WW : XK) (n : Nat) (L : XLs) (st : List XV) (M : XM) : yru (xlk (pL_at Post)) cut WW (n + 1) 3 L st M = j_ild 1 1 3 L st M (ykk (xlk (pL_at Post)) cut WW n) := yf rfl
theorem fL_at_4 (Post : XPo) (cut : List Nat) (WW : XK) (n : Nat) (L : XLs) (st : List XV) (M : XM) : yru (xlk (pL_at Post)) cut WW (n + 1) 4 L st M = j_rem 4 L st M (ykk (xlk (pL_at Post)) cut WW n) := yf rfl
theorem fL_at_5 (Post : XPo) (cut : List Nat) (WW : XK) (n : Nat) (L : XLs) (st : List XV) (M : XM) : yru (xlk (pL_at Post)) cut WW (n + 1) 5 L st M = j_iret Post 5 L st M (ykk (xlk (pL_at Post)) cut WW n) := yf rfl
def aT (x n : Int) : Int := x % 4294967296 / 2 % n
theorem aT_in {x n : Int} (h : 0 < n) : 0 ≤ aT x n ∧ aT x n < n := by
  unfold aT
  exact ⟨Int.emod_nonneg _ (by omega), Int.emod_lt_of_pos _ h⟩
def sL_at : XSp := xt2 (fun x n M Q => (0 < n ∧ n ≤ 1000000) ∧ Q [xI (aT x n)] M)
set_option maxRecDepth 100000 in
theorem kL_at : XCn yL_at wL_at rL_at sL_at := XT2 pL_at rfl rfl aL_at (by decide) (fun x n M Post h WW hC => by
  obtain ⟨hn, h⟩ := h
  show WW 0 [some (xI x), some (xI n)] [] M
  refine yru_ok hC [] 20 _ _ _ _ ?_
  simp only [ykk_ap, Int.reduceEq, Int.reduceLT, Int.reduceLE, Int.reduceNeg, Int.reduceAdd, Int.reduceSub, Int.reduceMul, and_self, false_and, and_false, not_true_eq_false, not_false_eq_true, true_implies, false_implies, xq0, xq1, xq2, xq3, xq4, xq5, xqR, xq1R, xq3R, xt1, xt2, xt3, List.mem_cons, List.not_mem_nil, or_false, false_or, or_self, if_false, if_true, reduceIte, reduceCtorEq, xent, xen, List.length_cons, List.length_nil, List.replicate, j_c, j_cJ, j_ild, j_ald, j_lld, j_ist, j_ast, j_lst, j_inc, j_add, j_sub, j_mul, j_neg, j_div, j_rem, j_and, j_shr, j_shl1, j_or, j_ladd, j_lsub, j_lmul, j_i2l, j_lcmp, j_i2c, j_dup, j_dup2, j_pop, j_goto, j_ieq, j_ine, j_ilt, j_ige, j_igt, j_ile, j_eq, j_ne, j_lt, j_ge, j_gt, j_le, xsw, j_tsw, j_gI, j_gJ, j_gR, j_pI, j_pJ, j_gs, j_iald, j_iast, j_cald, j_cast, j_aald, j_cpy, j_min, j_max, j_abs, j_iret, j_zret, j_lret, j_dret, j_ret0, j_V0, j_V1, j_V2, j_V3, j_V4, j_V5, j_S1, j_S2, j_S3, xget, xset, xset2, xclr, xc1, xcat, Nat.reduceAdd, Nat.reduceEqDiff, Nat.reduceLT, Nat.reduceLeDiff, Nat.reduceMul, List.cons_append, List.nil_append, true_and, and_true, List.singleton_append, j_lsw2, j_Sn, j_ush, j_dupx2, List.take_succ_cons, List.take_zero, List.drop_succ_cons, List.drop_zero, List.reverse_cons, List.reverse_nil, Nat.le_refl, fL_at_0, fL_at_1, fL_at_2, fL_at_3, fL_at_4, fL_at_5]
  refine ⟨⟨by omega, by omega, by omega, by omega⟩, ?_⟩
  exact h)
theorem ug_at {x n : Int} {M : XM} {Q : XPo} (hn : 0 < n ∧ n ≤ 1000000) (h : Q [xI (aT x n)] M) : sL_at [xI x, xI n] M Q := ⟨hn, h⟩
/-- UnitKitchensLaw.put([I[III)V -/
abbrev wL_put : List Cond := Cond.code yL_put cL_put 5 none :: xT
abbrev rL_put : Room := { frames := 0, cells := 0, slots := 0, locals := 0 }
def pL_put (Post : XPo) : List (Nat × XStp) := [(0, j_c 0 1), (1, j_ist 4 2), (3, j_ild 4 2), (5, j_ald 0 1), (6, j_c 12 2), (8, j_iald), (9, j_ige 41), (12, j_ald 1 1), (13, j_ild 4 2), (15, j_iald), (16, j_c 131071 2), (18, j_and 131072), (19, j_ild 2 1), (20, j_ine 35), (23, j_ald 1 1), (24, j_ild 4 2), (26, j_dup2), (27, j_iald), (28, j_c 131072 2), (30, j_ild 3 1), (31, j_mul), (32, j_add), (33, j_iast), (34, j_ret0 Post), (35, j_inc 4 1), (38, j_goto 3), (41, j_ald 1 1), (42, j_ald 0 1), (43, j_c 12 2), (45, j_iald), (46, j_ild 2 1), (47, j_c 131072 2), (49, j_ild 3 1), (50, j_mul), (51, j_add), (52, j_iast), (53, j_ald 0 1), (54, j_c 12 2), (56, j_dup2), (57, j_iald), (58, j_c 1 1), (59, j_add), (60, j_iast), (61, j_ret0 Post)]
set_option maxRecDepth 100000 in
theorem aL_put (Post : XPo) : XAll rL_put cL_put 5 RL wL_put none Post (pL_put Post) := XAll.cons (xs_iconst dL_put_0) (XAll.cons (xs_istore dL_put_1 (by decide)) (XAll.cons (xs_iload dL_put_3) (XAll.cons (xs_aload_n dL_put_5 rfl) (XAll.cons (xs_bipush dL_put_6 rfl) (XAll.cons (xs_iald dL_put_8) (XAll.cons (xs_icmp_ge dL_put_9 (by decide)) (XAll.cons (xs_aload_n dL_put_12 rfl) (XAll.cons (xs_iload dL_put_13) (XAll.cons (xs_iald dL_put_15) (XAll.cons (xs_ldc dL_put_16 (xgood1 tw_579) rfl) (XAll.cons (xs_iandb 17 (by decide) (by decide) dL_put_18) (XAll.cons (xs_iload_n dL_put_19 rfl) (XAll.cons (xs_icmp_ne dL_put_20 (by decide)) (XAll.cons (xs_aload_n dL_put_23 rfl) (XAll.cons (xs_iload dL_put_24) (XAll.cons (xs_dup2 dL_put_26) (XAll.cons (xs_iald dL_put_27) (XAll.cons (xs_ldc dL_put_28 (xgood1 tw_580) rfl) (XAll.cons (xs_iload_n dL_put_30 rfl) (XAll.cons (xs_imul dL_put_31) (XAll.cons (xs_iadd dL_put_32) (XAll.cons (xs_iast dL_put_33) (XAll.cons (xs_vret rfl dL_put_34) (XAll.cons (xs_iinc dL_put_35 (by decide)) (XAll.cons (xs_goto dL_put_38 (by decide)) (XAll.cons (xs_aload_n dL_put_41 rfl) (XAll.cons (xs_aload_n dL_put_42 rfl) (XAll.cons (xs_bipush dL_put_43 rfl) (XAll.cons (xs_iald dL_put_45) (XAll.cons (xs_iload_n dL_put_46 rfl) (XAll.cons (xs_ldc dL_put_47 (xgood1 tw_580) rfl) (XAll.cons (xs_iload_n dL_put_49 rfl) (XAll.cons (xs_imul dL_put_50) (XAll.cons (xs_iadd dL_put_51) (XAll.cons (xs_iast dL_put_52) (XAll.cons (xs_aload_n dL_put_53 rfl) (XAll.cons (xs_bipush dL_put_54 rfl) (XAll.cons (xs_dup2 dL_put_56) (XAll.cons (xs_iald dL_put_57) (XAll.cons (xs_iconst dL_put_58) (XAll.cons (xs_iadd dL_put_59) (XAll.cons (xs_iast dL_put_60) (XAll.cons (xs_vret rfl dL_put_61) (XAll.nil))))))))))))))))))))))))))))))))))))))))))))
theorem fL_put_0 (Post : XPo) (cut : List Nat) (WW : XK) (n : Nat) (L : XLs) (st : List XV) (M : XM) : yru (xlk (pL_put Post)) cut WW (n + 1) 0 L st M = j_c 0 1 0 L st M (ykk (xlk (pL_put Post)) cut WW n) := yf rfl
theorem fL_put_1 (Post : XPo) (cut : List Nat) (WW : XK) (n : Nat) (L : XLs) (st : List XV) (M : XM) : yru (xlk (pL_put Post)) cut WW (n + 1) 1 L st M = j_ist 4 2 1 L st M (ykk (xlk (pL_put Post)) cut WW n) := yf rfl
theorem fL_put_3 (Post : XPo) (cut : List Nat) (WW : XK) (n : Nat) (L : XLs) (st : List XV) (M : XM) : yru (xlk (pL_put Post)) cut WW (n + 1) 3 L st M = j_ild 4 2 3 L st M (ykk (xlk (pL_put Post)) cut WW n) := yf rfl
theorem fL_put_5 (Post : XPo) (cut : List Nat) (WW : XK) (n : Nat) (L : XLs) (st : List XV) (M : XM) : yru (xlk (pL_put Post)) cut WW (n + 1) 5 L st M = j_ald 0 1 5 L st M (ykk (xlk (pL_put Post)) cut WW n) := yf rfl
theorem fL_put_6 (Post : XPo) (cut : List Nat) (WW : XK) (n : Nat) (L : XLs) (st : List XV) (M : XM) : yru (xlk (pL_put Post)) cut WW (n + 1) 6 L st M = j_c 12 2 6 L st M (ykk (xlk (pL_put Post)) cut WW n) := yf rfl
theorem fL_put_8 (Post : XPo) (cut : List Nat) (WW : XK) (n : Nat) (L : XLs) (st : List XV) (M : XM) : yru (xlk (pL_put Post)) cut WW (n + 1) 8 L st M = j_iald 8 L st M (ykk (xlk (pL_put Post)) cut WW n) := yf rfl
theorem fL_put_9 (Post : XPo) (cut : List Nat) (WW : XK) (n : Nat) (L : XLs) (st : List XV) (M : XM) : yru (xlk (pL_put Post)) cut WW (n + 1) 9 L st M = j_ige 41 9 L st M (ykk (xlk (pL_put Post)) cut WW n) := yf rfl
theorem fL_put_12 (Post : XPo) (cut : List Nat) (WW : XK) (n : Nat) (L : XLs) (st : List XV) (M : XM) : yru (xlk (pL_put Post)) cut WW (n + 1) 12 L st M = j_ald 1 1 12 L st M (ykk (xlk (pL_put Post)) cut WW n) := yf rfl
theorem fL_put_13 (Post : XPo) (cut : List Nat) (WW : XK) (n : Nat) (L : XLs) (st : List XV) (M : XM) : yru (xlk (pL_put Post)) cut WW (n + 1) 13 L st M = j_ild 4 2 13 L st M (ykk (xlk (pL_put Post)) cut WW n) := yf rfl
theorem fL_put_15 (Post : XPo) (cut : List Nat) (WW : XK) (n : Nat) (L : XLs) (st : List XV) (M : XM) : yru (xlk (pL_put Post)) cut WW (n + 1) 15 L st M = j_iald 15 L st M (ykk (xlk (pL_put Post)) cut WW n) := yf rfl
theorem fL_put_16 (Post : XPo) (cut : List Nat) (WW : XK) (n : Nat) (L : XLs) (st : List XV) (M : XM) : yru (xlk (pL_put Post)) cut WW (n + 1) 16 L st M = j_c 131071 2 16 L st M (ykk (xlk (pL_put Post)) cut WW n) := yf rfl
theorem fL_put_18 (Post : XPo) (cut : List Nat) (WW : XK) (n : Nat) (L : XLs) (st : List XV) (M : XM) : yru (xlk (pL_put Post)) cut WW (n + 1) 18 L st M = j_and 131072 18 L st M (ykk (xlk (pL_put Post)) cut WW n) := yf rfl
theorem fL_put_19 (Post : XPo) (cut : List Nat) (WW : XK) (n : Nat) (L : XLs) (st : List XV) (M : XM) : yru (xlk (pL_put Post)) cut WW (n + 1) 19 L st M = j_ild 2 1 19 L st M (ykk (xlk (pL_put Post)) cut WW n) := yf rfl
theorem fL_put_20 (Post : XPo) (cut : List Nat) (WW : XK) (n : Nat) (L : XLs) (st : List XV) (M : XM) : yru (xlk (pL_put Post)) cut WW (n + 1) 20 L st M = j_ine 35 20 L st M (ykk (xlk (pL_put Post)) cut WW n) := yf rfl
theorem fL_put_23 (Post : XPo) (cut : List Nat) (WW : XK) (n : Nat) (L : XLs) (st : List XV) (M : XM) : yru (xlk (pL_put Post)) cut WW (n + 1) 23 L st M = j_ald 1 1 23 L st M (ykk (xlk (pL_put Post)) cut WW n) := yf rfl
theorem fL_put_24 (Post : XPo) (cut : List Nat) (WW : XK) (n : Nat) (L : XLs) (st : List XV) (M : XM) : yru (xlk (pL_put Post)) cut WW (n + 1) 24 L st M = j_ild 4 2 24 L st M (ykk (xlk (pL_put Post)) cut WW n) := yf rfl
theorem fL_put_26 (Post : XPo) (cut : List Nat) (WW : XK) (n : Nat) (L : XLs) (st : List XV) (M : XM) : yru (xlk (pL_put Post)) cut WW (n + 1) 26 L st M = j_dup2 26 L st M (ykk (xlk (pL_put Post)) cut WW n) := yf rfl
theorem fL_put_27 (Post : XPo) (cut : List Nat) (WW : XK) (n : Nat) (L : XLs) (st : List XV) (M : XM) : yru (xlk (pL_put Post)) cut WW (n + 1) 27 L st M = j_iald 27 L st M (ykk (xlk (pL_put Post)) cut WW n) := yf rfl
theorem fL_put_28 (Post : XPo) (cut : List Nat) (WW : XK) (n : Nat) (L : XLs) (st : List XV) (M : XM) : yru (xlk (pL_put Post)) cut WW (n + 1) 28 L st M = j_c 131072 2 28 L st M (ykk (xlk (pL_put Post)) cut WW n) := yf rfl
theorem fL_put_30 (Post : XPo) (cut : List Nat) (WW : XK) (n : Nat) (L : XLs) (st : List XV) (M : XM) : yru (xlk (pL_put Post)) cut WW (n + 1) 30 L st M = j_ild 3 1 30 L st M (ykk (xlk (pL_put Post)) cut WW n) := yf rfl
theorem fL_put_31 (Post : XPo) (cut : List Nat) (WW : XK) (n : Nat) (L : XLs) (st : List XV) (M : XM) : yru (xlk (pL_put Post)) cut WW (n + 1) 31 L st M = j_mul 31 L st M (ykk (xlk (pL_put Post)) cut WW n) := yf rfl
theorem fL_put_32 (Post : XPo) (cut : List Nat) (WW : XK) (n : Nat) (L : XLs) (st : List XV) (M : XM) : yru (xlk (pL_put Post)) cut WW (n + 1) 32 L st M = j_add 32 L st M (ykk (xlk (pL_put Post)) cut WW n) := yf rfl
theorem fL_put_33 (Post : XPo) (cut : List Nat) (WW : XK) (n : Nat) (L : XLs) (st : List XV) (M : XM) : yru (xlk (pL_put Post)) cut WW (n + 1) 33 L st M = j_iast 33 L st M (ykk (xlk (pL_put Post)) cut WW n) := yf rfl
theorem fL_put_34 (Post : XPo) (cut : List Nat) (WW : XK) (n : Nat) (L : XLs) (st : List XV) (M : XM) : yru (xlk (pL_put Post)) cut WW (n + 1) 34 L st M = j_ret0 Post 34 L st M (ykk (xlk (pL_put Post)) cut WW n) := yf rfl
theorem fL_put_35 (Post : XPo) (cut : List Nat) (WW : XK) (n : Nat) (L : XLs) (st : List XV) (M : XM) : yru (xlk (pL_put Post)) cut WW (n + 1) 35 L st M = j_inc 4 1 35 L st M (ykk (xlk (pL_put Post)) cut WW n) := yf rfl
theorem fL_put_38 (Post : XPo) (cut : List Nat) (WW : XK) (n : Nat) (L : XLs) (st : List XV) (M : XM) : yru (xlk (pL_put Post)) cut WW (n + 1) 38 L st M = j_goto 3 38 L st M (ykk (xlk (pL_put Post)) cut WW n) := yf rfl
theorem fL_put_41 (Post : XPo) (cut : List Nat) (WW : XK) (n : Nat) (L : XLs) (st : List XV) (M : XM) : yru (xlk (pL_put Post)) cut WW (n + 1) 41 L st M = j_ald 1 1 41 L st M (ykk (xlk (pL_put Post)) cut WW n) := yf rfl
theorem fL_put_42 (Post : XPo) (cut : List Nat) (WW : XK) (n : Nat) (L : XLs) (st : List XV) (M : XM) : yru (xlk (pL_put Post)) cut WW (n + 1) 42 L st M = j_ald 0 1 42 L st M (ykk (xlk (pL_put Post)) cut WW n) := yf rfl
theorem fL_put_43 (Post : XPo) (cut : List Nat) (WW : XK) (n : Nat) (L : XLs) (st : List XV) (M : XM) : yru (xlk (pL_put Post)) cut WW (n + 1) 43 L st M = j_c 12 2 43 L st M (ykk (xlk (pL_put Post)) cut WW n) := yf rfl
theorem fL_put_45 (Post : XPo) (cut : List Nat) (WW : XK) (n : Nat) (L : XLs) (st : List XV) (M : XM) : yru (xlk (pL_put Post)) cut WW (n + 1) 45 L st M = j_iald 45 L st M (ykk (xlk (pL_put Post)) cut WW n) := yf rfl
theorem fL_put_46 (Post : XPo) (cut : List Nat) (WW : XK) (n : Nat) (L : XLs) (st : List XV) (M : XM) : yru (xlk (pL_put Post)) cut WW (n + 1) 46 L st M = j_ild 2 1 46 L st M (ykk (xlk (pL_put Post)) cut WW n) := yf rfl
theorem fL_put_47 (Post : XPo) (cut : List Nat) (WW : XK) (n : Nat) (L : XLs) (st : List XV) (M : XM) : yru (xlk (pL_put Post)) cut WW (n + 1) 47 L st M = j_c 131072 2 47 L st M (ykk (xlk (pL_put Post)) cut WW n) := yf rfl
theorem fL_put_49 (Post : XPo) (cut : List Nat) (WW : XK) (n : Nat) (L : XLs) (st : List XV) (M : XM) : yru (xlk (pL_put Post)) cut WW (n + 1) 49 L st M = j_ild 3 1 49 L st M (ykk (xlk (pL_put Post)) cut WW n) := yf rfl
theorem fL_put_50 (Post : XPo) (cut : List Nat) (WW : XK) (n : Nat) (L : XLs) (st : List XV) (M : XM) : yru (xlk (pL_put Post)) cut WW (n + 1) 50 L st M = j_mul 50 L st M (ykk (xlk (pL_put Post)) cut WW n) := yf rfl
theorem fL_put_51 (Post : XPo) (cut : List Nat) (WW : XK) (n : Nat) (L : XLs) (st : List XV) (M : XM) : yru (xlk (pL_put Post)) cut WW (n + 1) 51 L st M = j_add 51 L st M (ykk (xlk (pL_put Post)) cut WW n) := yf rfl
theorem fL_put_52 (Post : XPo) (cut : List Nat) (WW : XK) (n : Nat) (L : XLs) (st : List XV) (M : XM) : yru (xlk (pL_put Post)) cut WW (n + 1) 52 L st M = j_iast 52 L st M (ykk (xlk (pL_put Post)) cut WW n) := yf rfl
theorem fL_put_53 (Post : XPo) (cut : List Nat) (WW : XK) (n : Nat) (L : XLs) (st : List XV) (M : XM) : yru (xlk (pL_put Post)) cut WW (n + 1) 53 L st M = j_ald 0 1 53 L st M (ykk (xlk (pL_put Post)) cut WW n) := yf rfl
theorem fL_put_54 (Post : XPo) (cut : List Nat) (WW : XK) (n : Nat) (L : XLs) (st : List XV) (M : XM) : yru (xlk (pL_put Post)) cut WW (n + 1) 54 L st M = j_c 12 2 54 L st M (ykk (xlk (pL_put Post)) cut WW n) := yf rfl
theorem fL_put_56 (Post : XPo) (cut : List Nat) (WW : XK) (n : Nat) (L : XLs) (st : List XV) (M : XM) : yru (xlk (pL_put Post)) cut WW (n + 1) 56 L st M = j_dup2 56 L st M (ykk (xlk (pL_put Post)) cut WW n) := yf rfl
theorem fL_put_57 (Post : XPo) (cut : List Nat) (WW : XK) (n : Nat) (L : XLs) (st : List XV) (M : XM) : yru (xlk (pL_put Post)) cut WW (n + 1) 57 L st M = j_iald 57 L st M (ykk (xlk (pL_put Post)) cut WW n) := yf rfl
theorem fL_put_58 (Post : XPo) (cut : List Nat) (WW : XK) (n : Nat) (L : XLs) (st : List XV) (M : XM) : yru (xlk (pL_put Post)) cut WW (n + 1) 58 L st M = j_c 1 1 58 L st M (ykk (xlk (pL_put Post)) cut WW n) := yf rfl
theorem fL_put_59 (Post : XPo) (cut : List Nat) (WW : XK) (n : Nat) (L : XLs) (st : List XV) (M : XM) : yru (xlk (pL_put Post)) cut WW (n + 1) 59 L st M = j_add 59 L st M (ykk (xlk (pL_put Post)) cut WW n) := yf rfl
theorem fL_put_60 (Post : XPo) (cut : List Nat) (WW : XK) (n : Nat) (L : XLs) (st : List XV) (M : XM) : yru (xlk (pL_put Post)) cut WW (n + 1) 60 L st M = j_iast 60 L st M (ykk (xlk (pL_put Post)) cut WW n) := yf rfl
theorem fL_put_61 (Post : XPo) (cut : List Nat) (WW : XK) (n : Nat) (L : XLs) (st : List XV) (M : XM) : yru (xlk (pL_put Post)) cut WW (n + 1) 61 L st M = j_ret0 Post 61 L st M (ykk (xlk (pL_put Post)) cut WW n) := yf rfl
def pPut (M M' : XM) (F : Int → Int) (T q n : Int) : Prop := bSame M M' ∧ BM M' (sup F q (F q + n)) (T + n) ∧ (M' 20 0 0 12 = M 20 0 0 12 ∨ M' 20 0 0 12 = M 20 0 0 12 + 1)
def sL_put : XSp := fun av M Q => match av with
  | [.inr (.inl (some o1)), .inr (.inl (some o2)), .inl q, .inl n] => (o1 = (20, 0, 0) ∧ o2 = (29, 0, 0)) ∧ ∃ (F : Int → Int) (T : Int), BM M F T ∧ M 20 0 0 12 < 64 ∧ (0 ≤ q ∧ q < 131072) ∧ 1 ≤ n ∧ T + n ≤ 16000 ∧ ∀ M' : XM, pPut M M' F T q n → Q [] M'
  | _ => False
set_option maxRecDepth 100000 in
theorem kL_put_loop {Post : XPo} {WW : XK} (hC : XCl (xlk (pL_put Post)) WW) {F : Int → Int} {T q n : Int} {M : XM} (hB : BM M F T) (hN : M 20 0 0 12 < 64) (hq : 0 ≤ q ∧ q < 131072) (hn : 1 ≤ n) (hT : T + n ≤ 16000) (h : ∀ M' : XM, pPut M M' F T q n → Post [] M') : ∀ (m : Nat) (j : Int), 0 ≤ j → j + m = M 20 0 0 12 → (∀ k : Int, 0 ≤ k → k < j → ¬ M 29 0 0 k % 131072 = q) → WW 3 [some (xR 20 0 0), some (xR 29 0 0), some (xI q), some (xI n), some (xI j)] [] M := by
  have hN0 := hB.1.1
  have r12 : XInR (M 20 0 0 12) := ⟨by omega, by omega⟩
  have rq : XInR q := ⟨by omega, by omega⟩
  intro m
  induction m with
  | zero =>
    intro j h0 h1 hk
    have e : j = M 20 0 0 12 := by omega
    have hM := BR_new hB hN hq.1 hq.2 hn hT (fun k a0 a1 => hk k a0 (by omega))
    subst e
    refine yru_ok hC [] 60 _ _ _ _ ?_
    simp only [ykk_ap, Int.reduceEq, Int.reduceLT, Int.reduceLE, Int.reduceNeg, Int.reduceAdd, Int.reduceSub, Int.reduceMul, and_self, false_and, and_false, not_true_eq_false, not_false_eq_true, true_implies, false_implies, xq0, xq1, xq2, xq3, xq4, xq5, xqR, xq1R, xq3R, xt1, xt2, xt3, List.mem_cons, List.not_mem_nil, or_false, false_or, or_self, if_false, if_true, reduceIte, reduceCtorEq, xent, xen, List.length_cons, List.length_nil, List.replicate, j_c, j_cJ, j_ild, j_ald, j_lld, j_ist, j_ast, j_lst, j_inc, j_add, j_sub, j_mul, j_neg, j_div, j_rem, j_and, j_shr, j_shl1, j_or, j_ladd, j_lsub, j_lmul, j_i2l, j_lcmp, j_i2c, j_dup, j_dup2, j_pop, j_goto, j_ieq, j_ine, j_ilt, j_ige, j_igt, j_ile, j_eq, j_ne, j_lt, j_ge, j_gt, j_le, xsw, j_tsw, j_gI, j_gJ, j_gR, j_pI, j_pJ, j_gs, j_iald, j_iast, j_cald, j_cast, j_aald, j_cpy, j_min, j_max, j_abs, j_iret, j_zret, j_lret, j_dret, j_ret0, j_V0, j_V1, j_V2, j_V3, j_V4, j_V5, j_S1, j_S2, j_S3, xget, xset, xset2, xclr, xc1, xcat, Nat.reduceAdd, Nat.reduceEqDiff, Nat.reduceLT, Nat.reduceLeDiff, Nat.reduceMul, List.cons_append, List.nil_append, true_and, and_true, List.singleton_append, j_lsw2, j_Sn, j_ush, j_dupx2, List.take_succ_cons, List.take_zero, List.drop_succ_cons, List.drop_zero, List.reverse_cons, List.reverse_nil, Nat.le_refl, fL_put_0, fL_put_1, fL_put_3, fL_put_5, fL_put_6, fL_put_8, fL_put_9, fL_put_12, fL_put_13, fL_put_15, fL_put_16, fL_put_18, fL_put_19, fL_put_20, fL_put_23, fL_put_24, fL_put_26, fL_put_27, fL_put_28, fL_put_30, fL_put_31, fL_put_32, fL_put_33, fL_put_34, fL_put_35, fL_put_38, fL_put_41, fL_put_42, fL_put_43, fL_put_45, fL_put_46, fL_put_47, fL_put_49, fL_put_50, fL_put_51, fL_put_52, fL_put_53, fL_put_54, fL_put_56, fL_put_57, fL_put_58, fL_put_59, fL_put_60, fL_put_61, xvz_20, xvz_29, xrz_20, xrz_29, xdz_20, xdz_29, xlen, xup_app, r12, hN, hN0, Int.le_refl]
    refine h _ ⟨⟨fun t a b => ?_, fun s a => ?_⟩, ?_, Or.inr ?_⟩
    · rw [xup_oth a, xup_oth b]
    · rw [xup_app, if_neg (fun z => a z.2.2.2), xup_oth (by decide)]
    · show BR _ _ _ _
      rw [xup_oth (by decide), xup_row, xup_app, if_pos ⟨rfl, rfl, rfl, rfl⟩]
      exact hM
    · rw [xup_app, if_pos ⟨rfl, rfl, rfl, rfl⟩]
  | succ m ih =>
    intro j h0 h1 hk
    have rj : XInR j := ⟨by omega, by omega⟩
    have hlt : ¬ M 20 0 0 12 ≤ j := by omega
    have j64 : j < 64 := by omega
    have rk : XInR (M 29 0 0 j % 131072) := ⟨by omega, by omega⟩
    by_cases hm : M 29 0 0 j % 131072 = q
    · have hM := BR_hit hB h0 (show j < M 20 0 0 12 by omega) hn hT
      rw [hm] at hM
      refine yru_ok hC [] 60 _ _ _ _ ?_
      simp only [ykk_ap, Int.reduceEq, Int.reduceLT, Int.reduceLE, Int.reduceNeg, Int.reduceAdd, Int.reduceSub, Int.reduceMul, and_self, false_and, and_false, not_true_eq_false, not_false_eq_true, true_implies, false_implies, xq0, xq1, xq2, xq3, xq4, xq5, xqR, xq1R, xq3R, xt1, xt2, xt3, List.mem_cons, List.not_mem_nil, or_false, false_or, or_self, if_false, if_true, reduceIte, reduceCtorEq, xent, xen, List.length_cons, List.length_nil, List.replicate, j_c, j_cJ, j_ild, j_ald, j_lld, j_ist, j_ast, j_lst, j_inc, j_add, j_sub, j_mul, j_neg, j_div, j_rem, j_and, j_shr, j_shl1, j_or, j_ladd, j_lsub, j_lmul, j_i2l, j_lcmp, j_i2c, j_dup, j_dup2, j_pop, j_goto, j_ieq, j_ine, j_ilt, j_ige, j_igt, j_ile, j_eq, j_ne, j_lt, j_ge, j_gt, j_le, xsw, j_tsw, j_gI, j_gJ, j_gR, j_pI, j_pJ, j_gs, j_iald, j_iast, j_cald, j_cast, j_aald, j_cpy, j_min, j_max, j_abs, j_iret, j_zret, j_lret, j_dret, j_ret0, j_V0, j_V1, j_V2, j_V3, j_V4, j_V5, j_S1, j_S2, j_S3, xget, xset, xset2, xclr, xc1, xcat, Nat.reduceAdd, Nat.reduceEqDiff, Nat.reduceLT, Nat.reduceLeDiff, Nat.reduceMul, List.cons_append, List.nil_append, true_and, and_true, List.singleton_append, j_lsw2, j_Sn, j_ush, j_dupx2, List.take_succ_cons, List.take_zero, List.drop_succ_cons, List.drop_zero, List.reverse_cons, List.reverse_nil, Nat.le_refl, fL_put_0, fL_put_1, fL_put_3, fL_put_5, fL_put_6, fL_put_8, fL_put_9, fL_put_12, fL_put_13, fL_put_15, fL_put_16, fL_put_18, fL_put_19, fL_put_20, fL_put_23, fL_put_24, fL_put_26, fL_put_27, fL_put_28, fL_put_30, fL_put_31, fL_put_32, fL_put_33, fL_put_34, fL_put_35, fL_put_38, fL_put_41, fL_put_42, fL_put_43, fL_put_45, fL_put_46, fL_put_47, fL_put_49, fL_put_50, fL_put_51, fL_put_52, fL_put_53, fL_put_54, fL_put_56, fL_put_57, fL_put_58, fL_put_59, fL_put_60, fL_put_61, xvz_20, xvz_29, xrz_20, xrz_29, xdz_20, xdz_29, xlen, r12, rj, rq, rk, hlt, j64, h0, hm]
      refine h _ ⟨⟨fun t a b => ?_, fun s a => ?_⟩, ?_, Or.inl ?_⟩
      · rw [xup_oth b]
      · rw [xup_oth (by decide)]
      · show BR _ _ _ _
        rw [xup_row, xup_oth (by decide)]
        exact hM
      · rw [xup_oth (by decide)]
    · have hb := ih (j + 1) (by omega) (by omega) (fun k a0 a1 => by
        by_cases ek : k = j
        · rw [ek]; exact hm
        · exact hk k a0 (by omega))
      refine yru_ok hC [3] 60 _ _ _ _ ?_
      simp only [ykk_ap, Int.reduceEq, Int.reduceLT, Int.reduceLE, Int.reduceNeg, Int.reduceAdd, Int.reduceSub, Int.reduceMul, and_self, false_and, and_false, not_true_eq_false, not_false_eq_true, true_implies, false_implies, xq0, xq1, xq2, xq3, xq4, xq5, xqR, xq1R, xq3R, xt1, xt2, xt3, List.mem_cons, List.not_mem_nil, or_false, false_or, or_self, if_false, if_true, reduceIte, reduceCtorEq, xent, xen, List.length_cons, List.length_nil, List.replicate, j_c, j_cJ, j_ild, j_ald, j_lld, j_ist, j_ast, j_lst, j_inc, j_add, j_sub, j_mul, j_neg, j_div, j_rem, j_and, j_shr, j_shl1, j_or, j_ladd, j_lsub, j_lmul, j_i2l, j_lcmp, j_i2c, j_dup, j_dup2, j_pop, j_goto, j_ieq, j_ine, j_ilt, j_ige, j_igt, j_ile, j_eq, j_ne, j_lt, j_ge, j_gt, j_le, xsw, j_tsw, j_gI, j_gJ, j_gR, j_pI, j_pJ, j_gs, j_iald, j_iast, j_cald, j_cast, j_aald, j_cpy, j_min, j_max, j_abs, j_iret, j_zret, j_lret, j_dret, j_ret0, j_V0, j_V1, j_V2, j_V3, j_V4, j_V5, j_S1, j_S2, j_S3, xget, xset, xset2, xclr, xc1, xcat, Nat.reduceAdd, Nat.reduceEqDiff, Nat.reduceLT, Nat.reduceLeDiff, Nat.reduceMul, List.cons_append, List.nil_append, true_and, and_true, List.singleton_append, j_lsw2, j_Sn, j_ush, j_dupx2, List.take_succ_cons, List.take_zero, List.drop_succ_cons, List.drop_zero, List.reverse_cons, List.reverse_nil, Nat.le_refl, fL_put_0, fL_put_1, fL_put_3, fL_put_5, fL_put_6, fL_put_8, fL_put_9, fL_put_12, fL_put_13, fL_put_15, fL_put_16, fL_put_18, fL_put_19, fL_put_20, fL_put_23, fL_put_24, fL_put_26, fL_put_27, fL_put_28, fL_put_30, fL_put_31, fL_put_32, fL_put_33, fL_put_34, fL_put_35, fL_put_38, fL_put_41, fL_put_42, fL_put_43, fL_put_45, fL_put_46, fL_put_47, fL_put_49, fL_put_50, fL_put_51, fL_put_52, fL_put_53, fL_put_54, fL_put_56, fL_put_57, fL_put_58, fL_put_59, fL_put_60, fL_put_61, xvz_20, xvz_29, xrz_20, xrz_29, xdz_20, xdz_29, xlen, r12, rj, rq, rk, hlt, j64, h0, hm]
      exact hb
set_option maxRecDepth 100000 in
theorem kL_put : XCn yL_put wL_put rL_put sL_put := XCn.of pL_put rfl rfl aL_put (fun av M Post h => by
  simp only [sL_put] at h
  split at h
  · exact (by decide : 4 ≤ 5)
  · exact h.elim) (fun av M Post h WW hC => by
  simp only [sL_put] at h
  split at h
  next o1 o2 q n =>
    obtain ⟨⟨rfl, rfl⟩, F, T, hB, hN, hq, hn, hT, h⟩ := h
    have hN0 := hB.1.1
    have hl := kL_put_loop hC hB hN hq hn hT h (M 20 0 0 12).toNat 0 (by omega) (by omega) (fun k a0 a1 => by omega)
    show WW 0 [some (xR 20 0 0), some (xR 29 0 0), some (xI q), some (xI n), none] [] M
    refine yru_ok hC [3] 20 _ _ _ _ ?_
    simp only [ykk_ap, Int.reduceEq, Int.reduceLT, Int.reduceLE, Int.reduceNeg, Int.reduceAdd, Int.reduceSub, Int.reduceMul, and_self, false_and, and_false, not_true_eq_false, not_false_eq_true, true_implies, false_implies, xq0, xq1, xq2, xq3, xq4, xq5, xqR, xq1R, xq3R, xt1, xt2, xt3, List.mem_cons, List.not_mem_nil, or_false, false_or, or_self, if_false, if_true, reduceIte, reduceCtorEq, xent, xen, List.length_cons, List.length_nil, List.replicate, j_c, j_cJ, j_ild, j_ald, j_lld, j_ist, j_ast, j_lst, j_inc, j_add, j_sub, j_mul, j_neg, j_div, j_rem, j_and, j_shr, j_shl1, j_or, j_ladd, j_lsub, j_lmul, j_i2l, j_lcmp, j_i2c, j_dup, j_dup2, j_pop, j_goto, j_ieq, j_ine, j_ilt, j_ige, j_igt, j_ile, j_eq, j_ne, j_lt, j_ge, j_gt, j_le, xsw, j_tsw, j_gI, j_gJ, j_gR, j_pI, j_pJ, j_gs, j_iald, j_iast, j_cald, j_cast, j_aald, j_cpy, j_min, j_max, j_abs, j_iret, j_zret, j_lret, j_dret, j_ret0, j_V0, j_V1, j_V2, j_V3, j_V4, j_V5, j_S1, j_S2, j_S3, xget, xset, xset2, xclr, xc1, xcat, Nat.reduceAdd, Nat.reduceEqDiff, Nat.reduceLT, Nat.reduceLeDiff, Nat.reduceMul, List.cons_append, List.nil_append, true_and, and_true, List.singleton_append, j_lsw2, j_Sn, j_ush, j_dupx2, List.take_succ_cons, List.take_zero, List.drop_succ_cons, List.drop_zero, List.reverse_cons, List.reverse_nil, Nat.le_refl, fL_put_0, fL_put_1, fL_put_3, fL_put_5, fL_put_6, fL_put_8, fL_put_9, fL_put_12, fL_put_13, fL_put_15, fL_put_16, fL_put_18, fL_put_19, fL_put_20, fL_put_23, fL_put_24, fL_put_26, fL_put_27, fL_put_28, fL_put_30, fL_put_31, fL_put_32, fL_put_33, fL_put_34, fL_put_35, fL_put_38, fL_put_41, fL_put_42, fL_put_43, fL_put_45, fL_put_46, fL_put_47, fL_put_49, fL_put_50, fL_put_51, fL_put_52, fL_put_53, fL_put_54, fL_put_56, fL_put_57, fL_put_58, fL_put_59, fL_put_60, fL_put_61]
    exact hl
  next => exact h.elim)
theorem ug_put {F : Int → Int} {T q n : Int} {M : XM} {Q : XPo} (hB : BM M F T) (hN : M 20 0 0 12 < 64) (hq : 0 ≤ q ∧ q < 131072) (hn : 1 ≤ n) (hT : T + n ≤ 16000) (h : ∀ M' : XM, pPut M M' F T q n → Q [] M') : sL_put [xR 20 0 0, xR 29 0 0, xI q, xI n] M Q := ⟨⟨rfl, rfl⟩, F, T, hB, hN, hq, hn, hT, h⟩
/-- UnitKitchensLaw.less([I[III)V -/
abbrev wL_less : List Cond := Cond.code yL_less cL_less 4 none :: xT
abbrev rL_less : Room := { frames := 0, cells := 0, slots := 0, locals := 0 }
def pL_less (Post : XPo) : List (Nat × XStp) := [(0, j_ald 1 1), (1, j_ild 2 1), (2, j_dup2), (3, j_iald), (4, j_c 131072 2), (6, j_ild 3 1), (7, j_mul), (8, j_sub), (9, j_iast), (10, j_ald 1 1), (11, j_ild 2 1), (12, j_iald), (13, j_c 131072 2), (15, j_ilt 19), (18, j_ret0 Post), (19, j_ald 0 1), (20, j_c 12 2), (22, j_dup2), (23, j_iald), (24, j_c 1 1), (25, j_sub), (26, j_iast), (27, j_ald 1 1), (28, j_ild 2 1), (29, j_ald 1 1), (30, j_ald 0 1), (31, j_c 12 2), (33, j_iald), (34, j_iald), (35, j_iast), (36, j_ret0 Post)]
set_option maxRecDepth 100000 in
theorem aL_less (Post : XPo) : XAll rL_less cL_less 4 RL wL_less none Post (pL_less Post) := XAll.cons (xs_aload_n dL_less_0 rfl) (XAll.cons (xs_iload_n dL_less_1 rfl) (XAll.cons (xs_dup2 dL_less_2) (XAll.cons (xs_iald dL_less_3) (XAll.cons (xs_ldc dL_less_4 (xgood1 tw_580) rfl) (XAll.cons (xs_iload_n dL_less_6 rfl) (XAll.cons (xs_imul dL_less_7) (XAll.cons (xs_isub dL_less_8) (XAll.cons (xs_iast dL_less_9) (XAll.cons (xs_aload_n dL_less_10 rfl) (XAll.cons (xs_iload_n dL_less_11 rfl) (XAll.cons (xs_iald dL_less_12) (XAll.cons (xs_ldc dL_less_13 (xgood1 tw_580) rfl) (XAll.cons (xs_icmp_lt dL_less_15 (by decide)) (XAll.cons (xs_vret rfl dL_less_18) (XAll.cons (xs_aload_n dL_less_19 rfl) (XAll.cons (xs_bipush dL_less_20 rfl) (XAll.cons (xs_dup2 dL_less_22) (XAll.cons (xs_iald dL_less_23) (XAll.cons (xs_iconst dL_less_24) (XAll.cons (xs_isub dL_less_25) (XAll.cons (xs_iast dL_less_26) (XAll.cons (xs_aload_n dL_less_27 rfl) (XAll.cons (xs_iload_n dL_less_28 rfl) (XAll.cons (xs_aload_n dL_less_29 rfl) (XAll.cons (xs_aload_n dL_less_30 rfl) (XAll.cons (xs_bipush dL_less_31 rfl) (XAll.cons (xs_iald dL_less_33) (XAll.cons (xs_iald dL_less_34) (XAll.cons (xs_iast dL_less_35) (XAll.cons (xs_vret rfl dL_less_36) (XAll.nil)))))))))))))))))))))))))))))))
theorem fL_less_0 (Post : XPo) (cut : List Nat) (WW : XK) (n : Nat) (L : XLs) (st : List XV) (M : XM) : yru (xlk (pL_less Post)) cut WW (n + 1) 0 L st M = j_ald 1 1 0 L st M (ykk (xlk (pL_less Post)) cut WW n) := yf rfl
theorem fL_less_1 (Post : XPo) (cut : List Nat) (WW : XK) (n : Nat) (L : XLs) (st : List XV) (M : XM) : yru (xlk (pL_less Post)) cut WW (n + 1) 1 L st M = j_ild 2 1 1 L st M (ykk (xlk (pL_less Post)) cut WW n) := yf rfl
theorem fL_less_2 (Post : XPo) (cut : List Nat) (WW : XK) (n : Nat) (L : XLs) (st : List XV) (M : XM) : yru (xlk (pL_less Post)) cut WW (n + 1) 2 L st M = j_dup2 2 L st M (ykk (xlk (pL_less Post)) cut WW n) := yf rfl
theorem fL_less_3 (Post : XPo) (cut : List Nat) (WW : XK) (n : Nat) (L : XLs) (st : List XV) (M : XM) : yru (xlk (pL_less Post)) cut WW (n + 1) 3 L st M = j_iald 3 L st M (ykk (xlk (pL_less Post)) cut WW n) := yf rfl
theorem fL_less_4 (Post : XPo) (cut : List Nat) (WW : XK) (n : Nat) (L : XLs) (st : List XV) (M : XM) : yru (xlk (pL_less Post)) cut WW (n + 1) 4 L st M = j_c 131072 2 4 L st M (ykk (xlk (pL_less Post)) cut WW n) := yf rfl
theorem fL_less_6 (Post : XPo) (cut : List Nat) (WW : XK) (n : Nat) (L : XLs) (st : List XV) (M : XM) : yru (xlk (pL_less Post)) cut WW (n + 1) 6 L st M = j_ild 3 1 6 L st M (ykk (xlk (pL_less Post)) cut WW n) := yf rfl
theorem fL_less_7 (Post : XPo) (cut : List Nat) (WW : XK) (n : Nat) (L : XLs) (st : List XV) (M : XM) : yru (xlk (pL_less Post)) cut WW (n + 1) 7 L st M = j_mul 7 L st M (ykk (xlk (pL_less Post)) cut WW n) := yf rfl
theorem fL_less_8 (Post : XPo) (cut : List Nat) (WW : XK) (n : Nat) (L : XLs) (st : List XV) (M : XM) : yru (xlk (pL_less Post)) cut WW (n + 1) 8 L st M = j_sub 8 L st M (ykk (xlk (pL_less Post)) cut WW n) := yf rfl
theorem fL_less_9 (Post : XPo) (cut : List Nat) (WW : XK) (n : Nat) (L : XLs) (st : List XV) (M : XM) : yru (xlk (pL_less Post)) cut WW (n + 1) 9 L st M = j_iast 9 L st M (ykk (xlk (pL_less Post)) cut WW n) := yf rfl
theorem fL_less_10 (Post : XPo) (cut : List Nat) (WW : XK) (n : Nat) (L : XLs) (st : List XV) (M : XM) : yru (xlk (pL_less Post)) cut WW (n + 1) 10 L st M = j_ald 1 1 10 L st M (ykk (xlk (pL_less Post)) cut WW n) := yf rfl
theorem fL_less_11 (Post : XPo) (cut : List Nat) (WW : XK) (n : Nat) (L : XLs) (st : List XV) (M : XM) : yru (xlk (pL_less Post)) cut WW (n + 1) 11 L st M = j_ild 2 1 11 L st M (ykk (xlk (pL_less Post)) cut WW n) := yf rfl
theorem fL_less_12 (Post : XPo) (cut : List Nat) (WW : XK) (n : Nat) (L : XLs) (st : List XV) (M : XM) : yru (xlk (pL_less Post)) cut WW (n + 1) 12 L st M = j_iald 12 L st M (ykk (xlk (pL_less Post)) cut WW n) := yf rfl
theorem fL_less_13 (Post : XPo) (cut : List Nat) (WW : XK) (n : Nat) (L : XLs) (st : List XV) (M : XM) : yru (xlk (pL_less Post)) cut WW (n + 1) 13 L st M = j_c 131072 2 13 L st M (ykk (xlk (pL_less Post)) cut WW n) := yf rfl
theorem fL_less_15 (Post : XPo) (cut : List Nat) (WW : XK) (n : Nat) (L : XLs) (st : List XV) (M : XM) : yru (xlk (pL_less Post)) cut WW (n + 1) 15 L st M = j_ilt 19 15 L st M (ykk (xlk (pL_less Post)) cut WW n) := yf rfl
theorem fL_less_18 (Post : XPo) (cut : List Nat) (WW : XK) (n : Nat) (L : XLs) (st : List XV) (M : XM) : yru (xlk (pL_less Post)) cut WW (n + 1) 18 L st M = j_ret0 Post 18 L st M (ykk (xlk (pL_less Post)) cut WW n) := yf rfl
theorem fL_less_19 (Post : XPo) (cut : List Nat) (WW : XK) (n : Nat) (L : XLs) (st : List XV) (M : XM) : yru (xlk (pL_less Post)) cut WW (n + 1) 19 L st M = j_ald 0 1 19 L st M (ykk (xlk (pL_less Post)) cut WW n) := yf rfl
theorem fL_less_20 (Post : XPo) (cut : List Nat) (WW : XK) (n : Nat) (L : XLs) (st : List XV) (M : XM) : yru (xlk (pL_less Post)) cut WW (n + 1) 20 L st M = j_c 12 2 20 L st M (ykk (xlk (pL_less Post)) cut WW n) := yf rfl
theorem fL_less_22 (Post : XPo) (cut : List Nat) (WW : XK) (n : Nat) (L : XLs) (st : List XV) (M : XM) : yru (xlk (pL_less Post)) cut WW (n + 1) 22 L st M = j_dup2 22 L st M (ykk (xlk (pL_less Post)) cut WW n) := yf rfl
theorem fL_less_23 (Post : XPo) (cut : List Nat) (WW : XK) (n : Nat) (L : XLs) (st : List XV) (M : XM) : yru (xlk (pL_less Post)) cut WW (n + 1) 23 L st M = j_iald 23 L st M (ykk (xlk (pL_less Post)) cut WW n) := yf rfl
theorem fL_less_24 (Post : XPo) (cut : List Nat) (WW : XK) (n : Nat) (L : XLs) (st : List XV) (M : XM) : yru (xlk (pL_less Post)) cut WW (n + 1) 24 L st M = j_c 1 1 24 L st M (ykk (xlk (pL_less Post)) cut WW n) := yf rfl
theorem fL_less_25 (Post : XPo) (cut : List Nat) (WW : XK) (n : Nat) (L : XLs) (st : List XV) (M : XM) : yru (xlk (pL_less Post)) cut WW (n + 1) 25 L st M = j_sub 25 L st M (ykk (xlk (pL_less Post)) cut WW n) := yf rfl
theorem fL_less_26 (Post : XPo) (cut : List Nat) (WW : XK) (n : Nat) (L : XLs) (st : List XV) (M : XM) : yru (xlk (pL_less Post)) cut WW (n + 1) 26 L st M = j_iast 26 L st M (ykk (xlk (pL_less Post)) cut WW n) := yf rfl
theorem fL_less_27 (Post : XPo) (cut : List Nat) (WW : XK) (n : Nat) (L : XLs) (st : List XV) (M : XM) : yru (xlk (pL_less Post)) cut WW (n + 1) 27 L st M = j_ald 1 1 27 L st M (ykk (xlk (pL_less Post)) cut WW n) := yf rfl
theorem fL_less_28 (Post : XPo) (cut : List Nat) (WW : XK) (n : Nat) (L : XLs) (st : List XV) (M : XM) : yru (xlk (pL_less Post)) cut WW (n + 1) 28 L st M = j_ild 2 1 28 L st M (ykk (xlk (pL_less Post)) cut WW n) := yf rfl
theorem fL_less_29 (Post : XPo) (cut : List Nat) (WW : XK) (n : Nat) (L : XLs) (st : List XV) (M : XM) : yru (xlk (pL_less Post)) cut WW (n + 1) 29 L st M = j_ald 1 1 29 L st M (ykk (xlk (pL_less Post)) cut WW n) := yf rfl
theorem fL_less_30 (Post : XPo) (cut : List Nat) (WW : XK) (n : Nat) (L : XLs) (st : List XV) (M : XM) : yru (xlk (pL_less Post)) cut WW (n + 1) 30 L st M = j_ald 0 1 30 L st M (ykk (xlk (pL_less Post)) cut WW n) := yf rfl
theorem fL_less_31 (Post : XPo) (cut : List Nat) (WW : XK) (n : Nat) (L : XLs) (st : List XV) (M : XM) : yru (xlk (pL_less Post)) cut WW (n + 1) 31 L st M = j_c 12 2 31 L st M (ykk (xlk (pL_less Post)) cut WW n) := yf rfl
theorem fL_less_33 (Post : XPo) (cut : List Nat) (WW : XK) (n : Nat) (L : XLs) (st : List XV) (M : XM) : yru (xlk (pL_less Post)) cut WW (n + 1) 33 L st M = j_iald 33 L st M (ykk (xlk (pL_less Post)) cut WW n) := yf rfl
theorem fL_less_34 (Post : XPo) (cut : List Nat) (WW : XK) (n : Nat) (L : XLs) (st : List XV) (M : XM) : yru (xlk (pL_less Post)) cut WW (n + 1) 34 L st M = j_iald 34 L st M (ykk (xlk (pL_less Post)) cut WW n) := yf rfl
theorem fL_less_35 (Post : XPo) (cut : List Nat) (WW : XK) (n : Nat) (L : XLs) (st : List XV) (M : XM) : yru (xlk (pL_less Post)) cut WW (n + 1) 35 L st M = j_iast 35 L st M (ykk (xlk (pL_less Post)) cut WW n) := yf rfl
theorem fL_less_36 (Post : XPo) (cut : List Nat) (WW : XK) (n : Nat) (L : XLs) (st : List XV) (M : XM) : yru (xlk (pL_less Post)) cut WW (n + 1) 36 L st M = j_ret0 Post 36 L st M (ykk (xlk (pL_less Post)) cut WW n) := yf rfl
def pLess (M M' : XM) (F : Int → Int) (T k n : Int) : Prop := bSame M M' ∧ BM M' (sup F (M 29 0 0 k % 131072) (F (M 29 0 0 k % 131072) - n)) (T - n) ∧ (M' 20 0 0 12 = M 20 0 0 12 ∨ M' 20 0 0 12 = M 20 0 0 12 - 1) ∧ (F (M 29 0 0 k % 131072) = n → M' 20 0 0 12 = M 20 0 0 12 - 1 ∧ ∀ j : Int, 0 ≤ j → j < M' 20 0 0 12 → M' 29 0 0 j = if j = k then M 29 0 0 (M 20 0 0 12 - 1) else M 29 0 0 j)
def sL_less : XSp := fun av M Q => match av with
  | [.inr (.inl (some o1)), .inr (.inl (some o2)), .inl k, .inl n] => (o1 = (20, 0, 0) ∧ o2 = (29, 0, 0)) ∧ ∃ (F : Int → Int) (T : Int), BM M F T ∧ (0 ≤ k ∧ k < M 20 0 0 12) ∧ (1 ≤ n ∧ n ≤ M 29 0 0 k / 131072) ∧ ∀ M' : XM, pLess M M' F T k n → Q [] M'
  | _ => False
set_option maxRecDepth 100000 in
theorem kL_less : XCn yL_less wL_less rL_less sL_less := XCn.of pL_less rfl rfl aL_less (fun av M Post h => by
  simp only [sL_less] at h
  split at h
  · exact (by decide : 4 ≤ 4)
  · exact h.elim) (fun av M Post h WW hC => by
  simp only [sL_less] at h
  split at h
  next o1 o2 k n =>
    obtain ⟨⟨rfl, rfl⟩, F, T, hB, ⟨h0, h1⟩, ⟨hn, hn2⟩, h⟩ := h
    have hN0 := hB.1
    have hk := hB.2.1 k h0 h1
    have k64 : k < 64 := by omega
    have rv : XInR (M 29 0 0 k - 131072 * n) := ⟨by omega, by omega⟩
    have g1 : 0 ≤ M 20 0 0 12 - 1 := by omega
    have g2 : M 20 0 0 12 - 1 < 64 := by omega
    have r2 : XInR 131072 := xr_c rfl
    show WW 0 [some (xR 20 0 0), some (xR 29 0 0), some (xI k), some (xI n)] [] M
    by_cases hz : n < M 29 0 0 k / 131072
    · have hM := BR_less hB h0 h1 hn hz
      have hge : ¬ M 29 0 0 k - 131072 * n < 131072 := by omega
      refine yru_ok hC [] 60 _ _ _ _ ?_
      simp only [ykk_ap, Int.reduceEq, Int.reduceLT, Int.reduceLE, Int.reduceNeg, Int.reduceAdd, Int.reduceSub, Int.reduceMul, and_self, false_and, and_false, not_true_eq_false, not_false_eq_true, true_implies, false_implies, xq0, xq1, xq2, xq3, xq4, xq5, xqR, xq1R, xq3R, xt1, xt2, xt3, List.mem_cons, List.not_mem_nil, or_false, false_or, or_self, if_false, if_true, reduceIte, reduceCtorEq, xent, xen, List.length_cons, List.length_nil, List.replicate, j_c, j_cJ, j_ild, j_ald, j_lld, j_ist, j_ast, j_lst, j_inc, j_add, j_sub, j_mul, j_neg, j_div, j_rem, j_and, j_shr, j_shl1, j_or, j_ladd, j_lsub, j_lmul, j_i2l, j_lcmp, j_i2c, j_dup, j_dup2, j_pop, j_goto, j_ieq, j_ine, j_ilt, j_ige, j_igt, j_ile, j_eq, j_ne, j_lt, j_ge, j_gt, j_le, xsw, j_tsw, j_gI, j_gJ, j_gR, j_pI, j_pJ, j_gs, j_iald, j_iast, j_cald, j_cast, j_aald, j_cpy, j_min, j_max, j_abs, j_iret, j_zret, j_lret, j_dret, j_ret0, j_V0, j_V1, j_V2, j_V3, j_V4, j_V5, j_S1, j_S2, j_S3, xget, xset, xset2, xclr, xc1, xcat, Nat.reduceAdd, Nat.reduceEqDiff, Nat.reduceLT, Nat.reduceLeDiff, Nat.reduceMul, List.cons_append, List.nil_append, true_and, and_true, List.singleton_append, j_lsw2, j_Sn, j_ush, j_dupx2, List.take_succ_cons, List.take_zero, List.drop_succ_cons, List.drop_zero, List.reverse_cons, List.reverse_nil, Nat.le_refl, fL_less_0, fL_less_1, fL_less_2, fL_less_3, fL_less_4, fL_less_6, fL_less_7, fL_less_8, fL_less_9, fL_less_10, fL_less_11, fL_less_12, fL_less_13, fL_less_15, fL_less_18, fL_less_19, fL_less_20, fL_less_22, fL_less_23, fL_less_24, fL_less_25, fL_less_26, fL_less_27, fL_less_28, fL_less_29, fL_less_30, fL_less_31, fL_less_33, fL_less_34, fL_less_35, fL_less_36, xvz_20, xvz_29, xrz_20, xrz_29, xdz_20, xdz_29, xlen, xup_app, k64, h0, rv, r2, hge]
      refine h _ ⟨⟨fun t a b => ?_, fun s a => ?_⟩, ?_, Or.inl ?_, fun z => ?_⟩
      · rw [xup_oth b]
      · rw [xup_oth (by decide)]
      · show BR _ _ _ _
        rw [xup_row, xup_oth (by decide)]
        exact hM
      · rw [xup_oth (by decide)]
      · omega
    · have hge : M 29 0 0 k - 131072 * n < 131072 := by omega
      have en : n = M 29 0 0 k / 131072 := by omega
      refine yru_ok hC [] 60 _ _ _ _ ?_
      simp only [ykk_ap, Int.reduceEq, Int.reduceLT, Int.reduceLE, Int.reduceNeg, Int.reduceAdd, Int.reduceSub, Int.reduceMul, and_self, false_and, and_false, not_true_eq_false, not_false_eq_true, true_implies, false_implies, xq0, xq1, xq2, xq3, xq4, xq5, xqR, xq1R, xq3R, xt1, xt2, xt3, List.mem_cons, List.not_mem_nil, or_false, false_or, or_self, if_false, if_true, reduceIte, reduceCtorEq, xent, xen, List.length_cons, List.length_nil, List.replicate, j_c, j_cJ, j_ild, j_ald, j_lld, j_ist, j_ast, j_lst, j_inc, j_add, j_sub, j_mul, j_neg, j_div, j_rem, j_and, j_shr, j_shl1, j_or, j_ladd, j_lsub, j_lmul, j_i2l, j_lcmp, j_i2c, j_dup, j_dup2, j_pop, j_goto, j_ieq, j_ine, j_ilt, j_ige, j_igt, j_ile, j_eq, j_ne, j_lt, j_ge, j_gt, j_le, xsw, j_tsw, j_gI, j_gJ, j_gR, j_pI, j_pJ, j_gs, j_iald, j_iast, j_cald, j_cast, j_aald, j_cpy, j_min, j_max, j_abs, j_iret, j_zret, j_lret, j_dret, j_ret0, j_V0, j_V1, j_V2, j_V3, j_V4, j_V5, j_S1, j_S2, j_S3, xget, xset, xset2, xclr, xc1, xcat, Nat.reduceAdd, Nat.reduceEqDiff, Nat.reduceLT, Nat.reduceLeDiff, Nat.reduceMul, List.cons_append, List.nil_append, true_and, and_true, List.singleton_append, j_lsw2, j_Sn, j_ush, j_dupx2, List.take_succ_cons, List.take_zero, List.drop_succ_cons, List.drop_zero, List.reverse_cons, List.reverse_nil, Nat.le_refl, fL_less_0, fL_less_1, fL_less_2, fL_less_3, fL_less_4, fL_less_6, fL_less_7, fL_less_8, fL_less_9, fL_less_10, fL_less_11, fL_less_12, fL_less_13, fL_less_15, fL_less_18, fL_less_19, fL_less_20, fL_less_22, fL_less_23, fL_less_24, fL_less_25, fL_less_26, fL_less_27, fL_less_28, fL_less_29, fL_less_30, fL_less_31, fL_less_33, fL_less_34, fL_less_35, fL_less_36, xvz_20, xvz_29, xrz_20, xrz_29, xdz_20, xdz_29, xlen, xup_app, k64, h0, rv, r2, hge, g1, g2]
      obtain ⟨v, hv⟩ : ∃ v : Int, v = (if M 20 0 0 12 - 1 = k then M 29 0 0 k - 131072 * n else M 29 0 0 (M 20 0 0 12 - 1)) := ⟨_, rfl⟩
      have hM := BR_out hB h0 h1 en (sup (sup (M 29 0 0) k (M 29 0 0 k - 131072 * n)) k v) (fun j z => by simp only [sup_at, z, if_false]) (fun z => by
        simp only [sup_at, if_true]
        rw [hv, if_neg (by omega)]) rfl
      rw [← hv]
      refine h _ ⟨⟨fun t a b => ?_, fun s a => ?_⟩, ?_, Or.inr ?_, fun z => ⟨?_, fun j a0 a1 => ?_⟩⟩
      · rw [xup_oth b, xup_oth a, xup_oth b]
      · rw [xup_oth (by decide), xup_app, if_neg (fun z => a z.2.2.2), xup_oth (by decide)]
      · show BR _ _ _ _
        rw [xup_row, xup_oth (show ¬ (29 : Nat) = 20 by decide), xup_row, xup_oth (show ¬ (20 : Nat) = 29 by decide), xup_app, if_pos ⟨rfl, rfl, rfl, rfl⟩]
        exact hM
      · rw [xup_oth (by decide), xup_app, if_pos ⟨rfl, rfl, rfl, rfl⟩]
      · rw [xup_oth (by decide), xup_app, if_pos ⟨rfl, rfl, rfl, rfl⟩]
      · rw [xup_oth (by decide), xup_app, if_pos ⟨rfl, rfl, rfl, rfl⟩] at a1
        rw [xup_row, xup_oth (show ¬ (29 : Nat) = 20 by decide), xup_row]
        simp only [sup_at]
        by_cases ej : j = k
        · rw [if_pos ej, if_pos ej, hv, if_neg (by omega)]
        · rw [if_neg ej, if_neg ej, if_neg ej]
  next => exact h.elim)
theorem ug_less {F : Int → Int} {T k n : Int} {M : XM} {Q : XPo} (hB : BM M F T) (hk : 0 ≤ k ∧ k < M 20 0 0 12) (hn : 1 ≤ n ∧ n ≤ M 29 0 0 k / 131072) (h : ∀ M' : XM, pLess M M' F T k n → Q [] M') : sL_less [xR 20 0 0, xR 29 0 0, xI k, xI n] M Q := ⟨⟨rfl, rfl⟩, F, T, hB, hk, hn, h⟩
/-- UnitKitchensLaw.meals([I[III)I -/
abbrev wL_meals : List Cond := Cond.code yL_meals cL_meals 6 (some .int) :: xT
abbrev rL_meals : Room := { frames := 0, cells := 0, slots := 0, locals := 0 }
def pL_meals (Post : XPo) : List (Nat × XStp) := [(0, j_c 0 1), (1, j_ist 4 2), (3, j_c 0 1), (4, j_ist 5 2), (6, j_ild 5 2), (8, j_ald 0 1), (9, j_c 12 2), (11, j_iald), (12, j_ige 56), (15, j_ald 1 1), (16, j_ild 5 2), (18, j_iald), (19, j_c 7 2), (21, j_and 8), (22, j_ild 2 1), (23, j_ine 50), (26, j_ald 1 1), (27, j_ild 5 2), (29, j_iald), (30, j_c 3 1), (31, j_shr), (32, j_c 3 1), (33, j_and 4), (34, j_ild 3 1), (35, j_ine 50), (38, j_ild 4 2), (40, j_ald 1 1), (41, j_ild 5 2), (43, j_iald), (44, j_c 17 2), (46, j_shr), (47, j_add), (48, j_ist 4 2), (50, j_inc 5 1), (53, j_goto 6), (56, j_ild 4 2), (58, j_iret Post)]
set_option maxRecDepth 100000 in
theorem aL_meals (Post : XPo) : XAll rL_meals cL_meals 6 RL wL_meals (some .int) Post (pL_meals Post) := XAll.cons (xs_iconst dL_meals_0) (XAll.cons (xs_istore dL_meals_1 (by decide)) (XAll.cons (xs_iconst dL_meals_3) (XAll.cons (xs_istore dL_meals_4 (by decide)) (XAll.cons (xs_iload dL_meals_6) (XAll.cons (xs_aload_n dL_meals_8 rfl) (XAll.cons (xs_bipush dL_meals_9 rfl) (XAll.cons (xs_iald dL_meals_11) (XAll.cons (xs_icmp_ge dL_meals_12 (by decide)) (XAll.cons (xs_aload_n dL_meals_15 rfl) (XAll.cons (xs_iload dL_meals_16) (XAll.cons (xs_iald dL_meals_18) (XAll.cons (xs_bipush dL_meals_19 rfl) (XAll.cons (xs_iand 3 (by decide) (by decide) dL_meals_21) (XAll.cons (xs_iload_n dL_meals_22 rfl) (XAll.cons (xs_icmp_ne dL_meals_23 (by decide)) (XAll.cons (xs_aload_n dL_meals_26 rfl) (XAll.cons (xs_iload dL_meals_27) (XAll.cons (xs_iald dL_meals_29) (XAll.cons (xs_iconst dL_meals_30) (XAll.cons (xs_ishr dL_meals_31) (XAll.cons (xs_iconst dL_meals_32) (XAll.cons (xs_iand 2 (by decide) (by decide) dL_meals_33) (XAll.cons (xs_iload_n dL_meals_34 rfl) (XAll.cons (xs_icmp_ne dL_meals_35 (by decide)) (XAll.cons (xs_iload dL_meals_38) (XAll.cons (xs_aload_n dL_meals_40 rfl) (XAll.cons (xs_iload dL_meals_41) (XAll.cons (xs_iald dL_meals_43) (XAll.cons (xs_bipush dL_meals_44 rfl) (XAll.cons (xs_ishr dL_meals_46) (XAll.cons (xs_iadd dL_meals_47) (XAll.cons (xs_istore dL_meals_48 (by decide)) (XAll.cons (xs_iinc dL_meals_50 (by decide)) (XAll.cons (xs_goto dL_meals_53 (by decide)) (XAll.cons (xs_iload dL_meals_56) (XAll.cons (xs_iret rfl dL_meals_58) (XAll.nil)))))))))))))))))))))))))))))))))))))
theorem fL_meals_0 (Post : XPo) (cut : List Nat) (WW : XK) (n : Nat) (L : XLs) (st : List XV) (M : XM) : yru (xlk (pL_meals Post)) cut WW (n + 1) 0 L st M = j_c 0 1 0 L st M (ykk (xlk (pL_meals Post)) cut WW n) := yf rfl
theorem fL_meals_1 (Post : XPo) (cut : List Nat) (WW : XK) (n : Nat) (L : XLs) (st : List XV) (M : XM) : yru (xlk (pL_meals Post)) cut WW (n + 1) 1 L st M = j_ist 4 2 1 L st M (ykk (xlk (pL_meals Post)) cut WW n) := yf rfl
theorem fL_meals_3 (Post : XPo) (cut : List Nat) (WW : XK) (n : Nat) (L : XLs) (st : List XV) (M : XM) : yru (xlk (pL_meals Post)) cut WW (n + 1) 3 L st M = j_c 0 1 3 L st M (ykk (xlk (pL_meals Post)) cut WW n) := yf rfl
theorem fL_meals_4 (Post : XPo) (cut : List Nat) (WW : XK) (n : Nat) (L : XLs) (st : List XV) (M : XM) : yru (xlk (pL_meals Post)) cut WW (n + 1) 4 L st M = j_ist 5 2 4 L st M (ykk (xlk (pL_meals Post)) cut WW n) := yf rfl
theorem fL_meals_6 (Post : XPo) (cut : List Nat) (WW : XK) (n : Nat) (L : XLs) (st : List XV) (M : XM) : yru (xlk (pL_meals Post)) cut WW (n + 1) 6 L st M = j_ild 5 2 6 L st M (ykk (xlk (pL_meals Post)) cut WW n) := yf rfl
theorem fL_meals_8 (Post : XPo) (cut : List Nat) (WW : XK) (n : Nat) (L : XLs) (st : List XV) (M : XM) : yru (xlk (pL_meals Post)) cut WW (n + 1) 8 L st M = j_ald 0 1 8 L st M (ykk (xlk (pL_meals Post)) cut WW n) := yf rfl
theorem fL_meals_9 (Post : XPo) (cut : List Nat) (WW : XK) (n : Nat) (L : XLs) (st : List XV) (M : XM) : yru (xlk (pL_meals Post)) cut WW (n + 1) 9 L st M = j_c 12 2 9 L st M (ykk (xlk (pL_meals Post)) cut WW n) := yf rfl
theorem fL_meals_11 (Post : XPo) (cut : List Nat) (WW : XK) (n : Nat) (L : XLs) (st : List XV) (M : XM) : yru (xlk (pL_meals Post)) cut WW (n + 1) 11 L st M = j_iald 11 L st M (ykk (xlk (pL_meals Post)) cut WW n) := yf rfl
theorem fL_meals_12 (Post : XPo) (cut : List Nat) (WW : XK) (n : Nat) (L : XLs) (st : List XV) (M : XM) : yru (xlk (pL_meals Post)) cut WW (n + 1) 12 L st M = j_ige 56 12 L st M (ykk (xlk (pL_meals Post)) cut WW n) := yf rfl
theorem fL_meals_15 (Post : XPo) (cut : List Nat) (WW : XK) (n : Nat) (L : XLs) (st : List XV) (M : XM) : yru (xlk (pL_meals Post)) cut WW (n + 1) 15 L st M = j_ald 1 1 15 L st M (ykk (xlk (pL_meals Post)) cut WW n) := yf rfl
theorem fL_meals_16 (Post : XPo) (cut : List Nat) (WW : XK) (n : Nat) (L : XLs) (st : List XV) (M : XM) : yru (xlk (pL_meals Post)) cut WW (n + 1) 16 L st M = j_ild 5 2 16 L st M (ykk (xlk (pL_meals Post)) cut WW n) := yf rfl
theorem fL_meals_18 (Post : XPo) (cut : List Nat) (WW : XK) (n : Nat) (L : XLs) (st : List XV) (M : XM) : yru (xlk (pL_meals Post)) cut WW (n + 1) 18 L st M = j_iald 18 L st M (ykk (xlk (pL_meals Post)) cut WW n) := yf rfl
theorem fL_meals_19 (Post : XPo) (cut : List Nat) (WW : XK) (n : Nat) (L : XLs) (st : List XV) (M : XM) : yru (xlk (pL_meals Post)) cut WW (n + 1) 19 L st M = j_c 7 2 19 L st M (ykk (xlk (pL_meals Post)) cut WW n) := yf rfl
theorem fL_meals_21 (Post : XPo) (cut : List Nat) (WW : XK) (n : Nat) (L : XLs) (st : List XV) (M : XM) : yru (xlk (pL_meals Post)) cut WW (n + 1) 21 L st M = j_and 8 21 L st M (ykk (xlk (pL_meals Post)) cut WW n) := yf rfl
theorem fL_meals_22 (Post : XPo) (cut : List Nat) (WW : XK) (n : Nat) (L : XLs) (st : List XV) (M : XM) : yru (xlk (pL_meals Post)) cut WW (n + 1) 22 L st M = j_ild 2 1 22 L st M (ykk (xlk (pL_meals Post)) cut WW n) := yf rfl
theorem fL_meals_23 (Post : XPo) (cut : List Nat) (WW : XK) (n : Nat) (L : XLs) (st : List XV) (M : XM) : yru (xlk (pL_meals Post)) cut WW (n + 1) 23 L st M = j_ine 50 23 L st M (ykk (xlk (pL_meals Post)) cut WW n) := yf rfl
theorem fL_meals_26 (Post : XPo) (cut : List Nat) (WW : XK) (n : Nat) (L : XLs) (st : List XV) (M : XM) : yru (xlk (pL_meals Post)) cut WW (n + 1) 26 L st M = j_ald 1 1 26 L st M (ykk (xlk (pL_meals Post)) cut WW n) := yf rfl
theorem fL_meals_27 (Post : XPo) (cut : List Nat) (WW : XK) (n : Nat) (L : XLs) (st : List XV) (M : XM) : yru (xlk (pL_meals Post)) cut WW (n + 1) 27 L st M = j_ild 5 2 27 L st M (ykk (xlk (pL_meals Post)) cut WW n) := yf rfl
theorem fL_meals_29 (Post : XPo) (cut : List Nat) (WW : XK) (n : Nat) (L : XLs) (st : List XV) (M : XM) : yru (xlk (pL_meals Post)) cut WW (n + 1) 29 L st M = j_iald 29 L st M (ykk (xlk (pL_meals Post)) cut WW n) := yf rfl
theorem fL_meals_30 (Post : XPo) (cut : List Nat) (WW : XK) (n : Nat) (L : XLs) (st : List XV) (M : XM) : yru (xlk (pL_meals Post)) cut WW (n + 1) 30 L st M = j_c 3 1 30 L st M (ykk (xlk (pL_meals Post)) cut WW n) := yf rfl
theorem fL_meals_31 (Post : XPo) (cut : List Nat) (WW : XK) (n : Nat) (L : XLs) (st : List XV) (M : XM) : yru (xlk (pL_meals Post)) cut WW (n + 1) 31 L st M = j_shr 31 L st M (ykk (xlk (pL_meals Post)) cut WW n) := yf rfl
theorem fL_meals_32 (Post : XPo) (cut : List Nat) (WW : XK) (n : Nat) (L : XLs) (st : List XV) (M : XM) : yru (xlk (pL_meals Post)) cut WW (n + 1) 32 L st M = j_c 3 1 32 L st M (ykk (xlk (pL_meals Post)) cut WW n) := yf rfl
theorem fL_meals_33 (Post : XPo) (cut : List Nat) (WW : XK) (n : Nat) (L : XLs) (st : List XV) (M : XM) : yru (xlk (pL_meals Post)) cut WW (n + 1) 33 L st M = j_and 4 33 L st M (ykk (xlk (pL_meals Post)) cut WW n) := yf rfl
theorem fL_meals_34 (Post : XPo) (cut : List Nat) (WW : XK) (n : Nat) (L : XLs) (st : List XV) (M : XM) : yru (xlk (pL_meals Post)) cut WW (n + 1) 34 L st M = j_ild 3 1 34 L st M (ykk (xlk (pL_meals Post)) cut WW n) := yf rfl
theorem fL_meals_35 (Post : XPo) (cut : List Nat) (WW : XK) (n : Nat) (L : XLs) (st : List XV) (M : XM) : yru (xlk (pL_meals Post)) cut WW (n + 1) 35 L st M = j_ine 50 35 L st M (ykk (xlk (pL_meals Post)) cut WW n) := yf rfl
theorem fL_meals_38 (Post : XPo) (cut : List Nat) (WW : XK) (n : Nat) (L : XLs) (st : List XV) (M : XM) : yru (xlk (pL_meals Post)) cut WW (n + 1) 38 L st M = j_ild 4 2 38 L st M (ykk (xlk (pL_meals Post)) cut WW n) := yf rfl
theorem fL_meals_40 (Post : XPo) (cut : List Nat) (WW : XK) (n : Nat) (L : XLs) (st : List XV) (M : XM) : yru (xlk (pL_meals Post)) cut WW (n + 1) 40 L st M = j_ald 1 1 40 L st M (ykk (xlk (pL_meals Post)) cut WW n) := yf rfl
theorem fL_meals_41 (Post : XPo) (cut : List Nat) (WW : XK) (n : Nat) (L : XLs) (st : List XV) (M : XM) : yru (xlk (pL_meals Post)) cut WW (n + 1) 41 L st M = j_ild 5 2 41 L st M (ykk (xlk (pL_meals Post)) cut WW n) := yf rfl
theorem fL_meals_43 (Post : XPo) (cut : List Nat) (WW : XK) (n : Nat) (L : XLs) (st : List XV) (M : XM) : yru (xlk (pL_meals Post)) cut WW (n + 1) 43 L st M = j_iald 43 L st M (ykk (xlk (pL_meals Post)) cut WW n) := yf rfl
theorem fL_meals_44 (Post : XPo) (cut : List Nat) (WW : XK) (n : Nat) (L : XLs) (st : List XV) (M : XM) : yru (xlk (pL_meals Post)) cut WW (n + 1) 44 L st M = j_c 17 2 44 L st M (ykk (xlk (pL_meals Post)) cut WW n) := yf rfl
theorem fL_meals_46 (Post : XPo) (cut : List Nat) (WW : XK) (n : Nat) (L : XLs) (st : List XV) (M : XM) : yru (xlk (pL_meals Post)) cut WW (n + 1) 46 L st M = j_shr 46 L st M (ykk (xlk (pL_meals Post)) cut WW n) := yf rfl
theorem fL_meals_47 (Post : XPo) (cut : List Nat) (WW : XK) (n : Nat) (L : XLs) (st : List XV) (M : XM) : yru (xlk (pL_meals Post)) cut WW (n + 1) 47 L st M = j_add 47 L st M (ykk (xlk (pL_meals Post)) cut WW n) := yf rfl
theorem fL_meals_48 (Post : XPo) (cut : List Nat) (WW : XK) (n : Nat) (L : XLs) (st : List XV) (M : XM) : yru (xlk (pL_meals Post)) cut WW (n + 1) 48 L st M = j_ist 4 2 48 L st M (ykk (xlk (pL_meals Post)) cut WW n) := yf rfl
theorem fL_meals_50 (Post : XPo) (cut : List Nat) (WW : XK) (n : Nat) (L : XLs) (st : List XV) (M : XM) : yru (xlk (pL_meals Post)) cut WW (n + 1) 50 L st M = j_inc 5 1 50 L st M (ykk (xlk (pL_meals Post)) cut WW n) := yf rfl
theorem fL_meals_53 (Post : XPo) (cut : List Nat) (WW : XK) (n : Nat) (L : XLs) (st : List XV) (M : XM) : yru (xlk (pL_meals Post)) cut WW (n + 1) 53 L st M = j_goto 6 53 L st M (ykk (xlk (pL_meals Post)) cut WW n) := yf rfl
theorem fL_meals_56 (Post : XPo) (cut : List Nat) (WW : XK) (n : Nat) (L : XLs) (st : List XV) (M : XM) : yru (xlk (pL_meals Post)) cut WW (n + 1) 56 L st M = j_ild 4 2 56 L st M (ykk (xlk (pL_meals Post)) cut WW n) := yf rfl
theorem fL_meals_58 (Post : XPo) (cut : List Nat) (WW : XK) (n : Nat) (L : XLs) (st : List XV) (M : XM) : yru (xlk (pL_meals Post)) cut WW (n + 1) 58 L st M = j_iret Post 58 L st M (ykk (xlk (pL_meals Post)) cut WW n) := yf rfl
def sL_meals : XSp := fun av M Q => match av with
  | [.inr (.inl (some o1)), .inr (.inl (some o2)), .inl st, .inl d] => (o1 = (20, 0, 0) ∧ o2 = (29, 0, 0)) ∧ (∃ (F : Int → Int) (T : Int), BM M F T) ∧ (XInR st ∧ XInR d) ∧ Q [xI (mS9 (M 29 0 0) (M 20 0 0 12) st d)] M
  | _ => False
set_option maxRecDepth 100000 in
theorem kL_meals_loop {Post : XPo} {WW : XK} (hC : XCl (xlk (pL_meals Post)) WW) {F : Int → Int} {T st d : Int} {M : XM} (hB : BM M F T) (rs : XInR st) (rd : XInR d) (h : Post [xI (mS9 (M 29 0 0) (M 20 0 0 12) st d)] M) : ∀ (m n : Nat), (n : Int) + m = M 20 0 0 12 → WW 6 [some (xR 20 0 0), some (xR 29 0 0), some (xI st), some (xI d), some (xI (sm (fun k => if M 29 0 0 k % 8 = st ∧ M 29 0 0 k / 8 % 4 = d then M 29 0 0 k / 131072 else 0) 0 n)), some (xI (n : Int))] [] M := by
  have hN0 := hB.1
  have r12 : XInR (M 20 0 0 12) := ⟨by omega, by omega⟩
  intro m
  induction m with
  | zero =>
    intro n h1
    have e : (n : Int) = M 20 0 0 12 := by omega
    have e2 : n = (M 20 0 0 12).toNat := by omega
    have h' : Post [xI (sm (fun k => if M 29 0 0 k % 8 = st ∧ M 29 0 0 k / 8 % 4 = d then M 29 0 0 k / 131072 else 0) 0 n)] M := by rw [e2]; exact h
    rw [e]
    refine yru_ok hC [] 60 _ _ _ _ ?_
    simp only [ykk_ap, Int.reduceEq, Int.reduceLT, Int.reduceLE, Int.reduceNeg, Int.reduceAdd, Int.reduceSub, Int.reduceMul, and_self, false_and, and_false, not_true_eq_false, not_false_eq_true, true_implies, false_implies, xq0, xq1, xq2, xq3, xq4, xq5, xqR, xq1R, xq3R, xt1, xt2, xt3, List.mem_cons, List.not_mem_nil, or_false, false_or, or_self, if_false, if_true, reduceIte, reduceCtorEq, xent, xen, List.length_cons, List.length_nil, List.replicate, j_c, j_cJ, j_ild, j_ald, j_lld, j_ist, j_ast, j_lst, j_inc, j_add, j_sub, j_mul, j_neg, j_div, j_rem, j_and, j_shr, j_shl1, j_or, j_ladd, j_lsub, j_lmul, j_i2l, j_lcmp, j_i2c, j_dup, j_dup2, j_pop, j_goto, j_ieq, j_ine, j_ilt, j_ige, j_igt, j_ile, j_eq, j_ne, j_lt, j_ge, j_gt, j_le, xsw, j_tsw, j_gI, j_gJ, j_gR, j_pI, j_pJ, j_gs, j_iald, j_iast, j_cald, j_cast, j_aald, j_cpy, j_min, j_max, j_abs, j_iret, j_zret, j_lret, j_dret, j_ret0, j_V0, j_V1, j_V2, j_V3, j_V4, j_V5, j_S1, j_S2, j_S3, xget, xset, xset2, xclr, xc1, xcat, Nat.reduceAdd, Nat.reduceEqDiff, Nat.reduceLT, Nat.reduceLeDiff, Nat.reduceMul, List.cons_append, List.nil_append, true_and, and_true, List.singleton_append, j_lsw2, j_Sn, j_ush, j_dupx2, List.take_succ_cons, List.take_zero, List.drop_succ_cons, List.drop_zero, List.reverse_cons, List.reverse_nil, Nat.le_refl, fL_meals_0, fL_meals_1, fL_meals_3, fL_meals_4, fL_meals_6, fL_meals_8, fL_meals_9, fL_meals_11, fL_meals_12, fL_meals_15, fL_meals_16, fL_meals_18, fL_meals_19, fL_meals_21, fL_meals_22, fL_meals_23, fL_meals_26, fL_meals_27, fL_meals_29, fL_meals_30, fL_meals_31, fL_meals_32, fL_meals_33, fL_meals_34, fL_meals_35, fL_meals_38, fL_meals_40, fL_meals_41, fL_meals_43, fL_meals_44, fL_meals_46, fL_meals_47, fL_meals_48, fL_meals_50, fL_meals_53, fL_meals_56, fL_meals_58, xvz_20, xvz_29, xrz_20, xrz_29, xdz_20, xdz_29, xlen, r12, Int.le_refl]
    exact h'
  | succ m ih =>
    intro n h1
    have hb := ih (n + 1) (by omega)
    obtain ⟨j, hj⟩ : ∃ j : Int, j = (n : Int) := ⟨_, rfl⟩
    rw [show ((n + 1 : Nat) : Int) = j + 1 by omega] at hb
    simp only [sm, Int.zero_add] at hb
    rw [← hj] at hb h1 ⊢
    have rj : XInR j := ⟨by omega, by omega⟩
    have h0 : 0 ≤ j := by omega
    have hlt : ¬ M 20 0 0 12 ≤ j := by omega
    have j64 : j < 64 := by omega
    have hk := hB.2.1 j h0 (by omega)
    have ra : XInR (M 29 0 0 j) := ⟨by omega, by omega⟩
    have r8 : XInR (M 29 0 0 j % 8) := ⟨by omega, by omega⟩
    have r4 : XInR (M 29 0 0 j / 8 % 4) := ⟨by omega, by omega⟩
    have p3 : M 29 0 0 j / 2 ^ (3 : Int).toNat = M 29 0 0 j / 8 := rfl
    have p17 : M 29 0 0 j / 2 ^ (17 : Int).toNat = M 29 0 0 j / 131072 := rfl
    by_cases m1 : M 29 0 0 j % 8 = st
    · by_cases m2 : M 29 0 0 j / 8 % 4 = d
      · rw [if_pos ⟨m1, m2⟩] at hb
        refine yru_ok hC [6] 60 _ _ _ _ ?_
        simp only [ykk_ap, Int.reduceEq, Int.reduceLT, Int.reduceLE, Int.reduceNeg, Int.reduceAdd, Int.reduceSub, Int.reduceMul, and_self, false_and, and_false, not_true_eq_false, not_false_eq_true, true_implies, false_implies, xq0, xq1, xq2, xq3, xq4, xq5, xqR, xq1R, xq3R, xt1, xt2, xt3, List.mem_cons, List.not_mem_nil, or_false, false_or, or_self, if_false, if_true, reduceIte, reduceCtorEq, xent, xen, List.length_cons, List.length_nil, List.replicate, j_c, j_cJ, j_ild, j_ald, j_lld, j_ist, j_ast, j_lst, j_inc, j_add, j_sub, j_mul, j_neg, j_div, j_rem, j_and, j_shr, j_shl1, j_or, j_ladd, j_lsub, j_lmul, j_i2l, j_lcmp, j_i2c, j_dup, j_dup2, j_pop, j_goto, j_ieq, j_ine, j_ilt, j_ige, j_igt, j_ile, j_eq, j_ne, j_lt, j_ge, j_gt, j_le, xsw, j_tsw, j_gI, j_gJ, j_gR, j_pI, j_pJ, j_gs, j_iald, j_iast, j_cald, j_cast, j_aald, j_cpy, j_min, j_max, j_abs, j_iret, j_zret, j_lret, j_dret, j_ret0, j_V0, j_V1, j_V2, j_V3, j_V4, j_V5, j_S1, j_S2, j_S3, xget, xset, xset2, xclr, xc1, xcat, Nat.reduceAdd, Nat.reduceEqDiff, Nat.reduceLT, Nat.reduceLeDiff, Nat.reduceMul, List.cons_append, List.nil_append, true_and, and_true, List.singleton_append, j_lsw2, j_Sn, j_ush, j_dupx2, List.take_succ_cons, List.take_zero, List.drop_succ_cons, List.drop_zero, List.reverse_cons, List.reverse_nil, Nat.le_refl, fL_meals_0, fL_meals_1, fL_meals_3, fL_meals_4, fL_meals_6, fL_meals_8, fL_meals_9, fL_meals_11, fL_meals_12, fL_meals_15, fL_meals_16, fL_meals_18, fL_meals_19, fL_meals_21, fL_meals_22, fL_meals_23, fL_meals_26, fL_meals_27, fL_meals_29, fL_meals_30, fL_meals_31, fL_meals_32, fL_meals_33, fL_meals_34, fL_meals_35, fL_meals_38, fL_meals_40, fL_meals_41, fL_meals_43, fL_meals_44, fL_meals_46, fL_meals_47, fL_meals_48, fL_meals_50, fL_meals_53, fL_meals_56, fL_meals_58, xvz_20, xvz_29, xrz_20, xrz_29, xdz_20, xdz_29, xlen, r12, rj, hlt, j64, h0, ra, r8, r4, rs, rd, p3, p17, m1, m2]
        exact hb
      · rw [if_neg (fun z => m2 z.2), Int.add_zero] at hb
        refine yru_ok hC [6] 60 _ _ _ _ ?_
        simp only [ykk_ap, Int.reduceEq, Int.reduceLT, Int.reduceLE, Int.reduceNeg, Int.reduceAdd, Int.reduceSub, Int.reduceMul, and_self, false_and, and_false, not_true_eq_false, not_false_eq_true, true_implies, false_implies, xq0, xq1, xq2, xq3, xq4, xq5, xqR, xq1R, xq3R, xt1, xt2, xt3, List.mem_cons, List.not_mem_nil, or_false, false_or, or_self, if_false, if_true, reduceIte, reduceCtorEq, xent, xen, List.length_cons, List.length_nil, List.replicate, j_c, j_cJ, j_ild, j_ald, j_lld, j_ist, j_ast, j_lst, j_inc, j_add, j_sub, j_mul, j_neg, j_div, j_rem, j_and, j_shr, j_shl1, j_or, j_ladd, j_lsub, j_lmul, j_i2l, j_lcmp, j_i2c, j_dup, j_dup2, j_pop, j_goto, j_ieq, j_ine, j_ilt, j_ige, j_igt, j_ile, j_eq, j_ne, j_lt, j_ge, j_gt, j_le, xsw, j_tsw, j_gI, j_gJ, j_gR, j_pI, j_pJ, j_gs, j_iald, j_iast, j_cald, j_cast, j_aald, j_cpy, j_min, j_max, j_abs, j_iret, j_zret, j_lret, j_dret, j_ret0, j_V0, j_V1, j_V2, j_V3, j_V4, j_V5, j_S1, j_S2, j_S3, xget, xset, xset2, xclr, xc1, xcat, Nat.reduceAdd, Nat.reduceEqDiff, Nat.reduceLT, Nat.reduceLeDiff, Nat.reduceMul, List.cons_append, List.nil_append, true_and, and_true, List.singleton_append, j_lsw2, j_Sn, j_ush, j_dupx2, List.take_succ_cons, List.take_zero, List.drop_succ_cons, List.drop_zero, List.reverse_cons, List.reverse_nil, Nat.le_refl, fL_meals_0, fL_meals_1, fL_meals_3, fL_meals_4, fL_meals_6, fL_meals_8, fL_meals_9, fL_meals_11, fL_meals_12, fL_meals_15, fL_meals_16, fL_meals_18, fL_meals_19, fL_meals_21, fL_meals_22, fL_meals_23, fL_meals_26, fL_meals_27, fL_meals_29, fL_meals_30, fL_meals_31, fL_meals_32, fL_meals_33, fL_meals_34, fL_meals_35, fL_meals_38, fL_meals_40, fL_meals_41, fL_meals_43, fL_meals_44, fL_meals_46, fL_meals_47, fL_meals_48, fL_meals_50, fL_meals_53, fL_meals_56, fL_meals_58, xvz_20, xvz_29, xrz_20, xrz_29, xdz_20, xdz_29, xlen, r12, rj, hlt, j64, h0, ra, r8, r4, rs, rd, p3, p17, m1, m2]
        exact hb
    · rw [if_neg (fun z => m1 z.1), Int.add_zero] at hb
      refine yru_ok hC [6] 60 _ _ _ _ ?_
      simp only [ykk_ap, Int.reduceEq, Int.reduceLT, Int.reduceLE, Int.reduceNeg, Int.reduceAdd, Int.reduceSub, Int.reduceMul, and_self, false_and, and_false, not_true_eq_false, not_false_eq_true, true_implies, false_implies, xq0, xq1, xq2, xq3, xq4, xq5, xqR, xq1R, xq3R, xt1, xt2, xt3, List.mem_cons, List.not_mem_nil, or_false, false_or, or_self, if_false, if_true, reduceIte, reduceCtorEq, xent, xen, List.length_cons, List.length_nil, List.replicate, j_c, j_cJ, j_ild, j_ald, j_lld, j_ist, j_ast, j_lst, j_inc, j_add, j_sub, j_mul, j_neg, j_div, j_rem, j_and, j_shr, j_shl1, j_or, j_ladd, j_lsub, j_lmul, j_i2l, j_lcmp, j_i2c, j_dup, j_dup2, j_pop, j_goto, j_ieq, j_ine, j_ilt, j_ige, j_igt, j_ile, j_eq, j_ne, j_lt, j_ge, j_gt, j_le, xsw, j_tsw, j_gI, j_gJ, j_gR, j_pI, j_pJ, j_gs, j_iald, j_iast, j_cald, j_cast, j_aald, j_cpy, j_min, j_max, j_abs, j_iret, j_zret, j_lret, j_dret, j_ret0, j_V0, j_V1, j_V2, j_V3, j_V4, j_V5, j_S1, j_S2, j_S3, xget, xset, xset2, xclr, xc1, xcat, Nat.reduceAdd, Nat.reduceEqDiff, Nat.reduceLT, Nat.reduceLeDiff, Nat.reduceMul, List.cons_append, List.nil_append, true_and, and_true, List.singleton_append, j_lsw2, j_Sn, j_ush, j_dupx2, List.take_succ_cons, List.take_zero, List.drop_succ_cons, List.drop_zero, List.reverse_cons, List.reverse_nil, Nat.le_refl, fL_meals_0, fL_meals_1, fL_meals_3, fL_meals_4, fL_meals_6, fL_meals_8, fL_meals_9, fL_meals_11, fL_meals_12, fL_meals_15, fL_meals_16, fL_meals_18, fL_meals_19, fL_meals_21, fL_meals_22, fL_meals_23, fL_meals_26, fL_meals_27, fL_meals_29, fL_meals_30, fL_meals_31, fL_meals_32, fL_meals_33, fL_meals_34, fL_meals_35, fL_meals_38, fL_meals_40, fL_meals_41, fL_meals_43, fL_meals_44, fL_meals_46, fL_meals_47, fL_meals_48, fL_meals_50, fL_meals_53, fL_meals_56, fL_meals_58, xvz_20, xvz_29, xrz_20, xrz_29, xdz_20, xdz_29, xlen, r12, rj, hlt, j64, h0, ra, r8, r4, rs, rd, p3, p17, m1]
      exact hb
set_option maxRecDepth 100000 in
theorem kL_meals : XCn yL_meals wL_meals rL_meals sL_meals := XCn.of pL_meals rfl rfl aL_meals (fun av M Post h => by
  simp only [sL_meals] at h
  split at h
  · exact (by decide : 4 ≤ 6)
  · exact h.elim) (fun av M Post h WW hC => by
  simp only [sL_meals] at h
  split at h
  next o1 o2 st d =>
    obtain ⟨⟨rfl, rfl⟩, ⟨F, T, hB⟩, ⟨rs, rd⟩, h⟩ := h
    have hN0 := hB.1.1
    have hl := kL_meals_loop hC hB rs rd h (M 20 0 0 12).toNat 0 (by omega)
    show WW 0 [some (xR 20 0 0), some (xR 29 0 0), some (xI st), some (xI d), none, none] [] M
    refine yru_ok hC [6] 20 _ _ _ _ ?_
    simp only [ykk_ap, Int.reduceEq, Int.reduceLT, Int.reduceLE, Int.reduceNeg, Int.reduceAdd, Int.reduceSub, Int.reduceMul, and_self, false_and, and_false, not_true_eq_false, not_false_eq_true, true_implies, false_implies, xq0, xq1, xq2, xq3, xq4, xq5, xqR, xq1R, xq3R, xt1, xt2, xt3, List.mem_cons, List.not_mem_nil, or_false, false_or, or_self, if_false, if_true, reduceIte, reduceCtorEq, xent, xen, List.length_cons, List.length_nil, List.replicate, j_c, j_cJ, j_ild, j_ald, j_lld, j_ist, j_ast, j_lst, j_inc, j_add, j_sub, j_mul, j_neg, j_div, j_rem, j_and, j_shr, j_shl1, j_or, j_ladd, j_lsub, j_lmul, j_i2l, j_lcmp, j_i2c, j_dup, j_dup2, j_pop, j_goto, j_ieq, j_ine, j_ilt, j_ige, j_igt, j_ile, j_eq, j_ne, j_lt, j_ge, j_gt, j_le, xsw, j_tsw, j_gI, j_gJ, j_gR, j_pI, j_pJ, j_gs, j_iald, j_iast, j_cald, j_cast, j_aald, j_cpy, j_min, j_max, j_abs, j_iret, j_zret, j_lret, j_dret, j_ret0, j_V0, j_V1, j_V2, j_V3, j_V4, j_V5, j_S1, j_S2, j_S3, xget, xset, xset2, xclr, xc1, xcat, Nat.reduceAdd, Nat.reduceEqDiff, Nat.reduceLT, Nat.reduceLeDiff, Nat.reduceMul, List.cons_append, List.nil_append, true_and, and_true, List.singleton_append, j_lsw2, j_Sn, j_ush, j_dupx2, List.take_succ_cons, List.take_zero, List.drop_succ_cons, List.drop_zero, List.reverse_cons, List.reverse_nil, Nat.le_refl, fL_meals_0, fL_meals_1, fL_meals_3, fL_meals_4, fL_meals_6, fL_meals_8, fL_meals_9, fL_meals_11, fL_meals_12, fL_meals_15, fL_meals_16, fL_meals_18, fL_meals_19, fL_meals_21, fL_meals_22, fL_meals_23, fL_meals_26, fL_meals_27, fL_meals_29, fL_meals_30, fL_meals_31, fL_meals_32, fL_meals_33, fL_meals_34, fL_meals_35, fL_meals_38, fL_meals_40, fL_meals_41, fL_meals_43, fL_meals_44, fL_meals_46, fL_meals_47, fL_meals_48, fL_meals_50, fL_meals_53, fL_meals_56, fL_meals_58]
    exact hl
  next => exact h.elim)
theorem ug_meals {F : Int → Int} {T st d : Int} {M : XM} {Q : XPo} (hB : BM M F T) (rs : XInR st) (rd : XInR d) (h : Q [xI (mS9 (M 29 0 0) (M 20 0 0 12) st d)] M) : sL_meals [xR 20 0 0, xR 29 0 0, xI st, xI d] M Q := ⟨⟨rfl, rfl⟩, ⟨F, T, hB⟩, ⟨rs, rd⟩, h⟩
/-- UnitKitchensLaw.all([I[II)I -/
abbrev wL_all : List Cond := Cond.code yL_all cL_all 3 (some .int) :: xT
abbrev rL_all : Room := { frames := 1, cells := 0, slots := 0, locals := 25 }
def pL_all (Post : XPo) : List (Nat × XStp) := [(0, j_ald 0 1), (1, j_ald 1 1), (2, j_ild 2 1), (3, j_c 0 1), (4, j_Sn 4 sL_meals), (7, j_ald 0 1), (8, j_ald 1 1), (9, j_ild 2 1), (10, j_c 1 1), (11, j_Sn 4 sL_meals), (14, j_add), (15, j_ald 0 1), (16, j_ald 1 1), (17, j_ild 2 1), (18, j_c 2 1), (19, j_Sn 4 sL_meals), (22, j_add), (23, j_iret Post)]
set_option maxRecDepth 100000 in
theorem aL_all (Post : XPo) : XAll rL_all cL_all 3 RL wL_all (some .int) Post (pL_all Post) := XAll.cons (xs_aload_n dL_all_0 rfl) (XAll.cons (xs_aload_n dL_all_1 rfl) (XAll.cons (xs_iload_n dL_all_2 rfl) (XAll.cons (xs_iconst dL_all_3) (XAll.cons (xs_Sn kL_meals ⟨⟨rfl, rfl, by decide, by decide⟩, ⟨by decide, by decide, by decide +kernel⟩, tw_643, tw_644, tw_0, tw_645⟩ dL_all_4) (XAll.cons (xs_aload_n dL_all_7 rfl) (XAll.cons (xs_aload_n dL_all_8 rfl) (XAll.cons (xs_iload_n dL_all_9 rfl) (XAll.cons (xs_iconst dL_all_10) (XAll.cons (xs_Sn kL_meals ⟨⟨rfl, rfl, by decide, by decide⟩, ⟨by decide, by decide, by decide +kernel⟩, tw_643, tw_644, tw_0, tw_645⟩ dL_all_11) (XAll.cons (xs_iadd dL_all_14) (XAll.cons (xs_aload_n dL_all_15 rfl) (XAll.cons (xs_aload_n dL_all_16 rfl) (XAll.cons (xs_iload_n dL_all_17 rfl) (XAll.cons (xs_iconst dL_all_18) (XAll.cons (xs_Sn kL_meals ⟨⟨rfl, rfl, by decide, by decide⟩, ⟨by decide, by decide, by decide +kernel⟩, tw_643, tw_644, tw_0, tw_645⟩ dL_all_19) (XAll.cons (xs_iadd dL_all_22) (XAll.cons (xs_iret rfl dL_all_23) (XAll.nil))))))))))))))))))
theorem fL_all_0 (Post : XPo) (cut : List Nat) (WW : XK) (n : Nat) (L : XLs) (st : List XV) (M : XM) : yru (xlk (pL_all Post)) cut WW (n + 1) 0 L st M = j_ald 0 1 0 L st M (ykk (xlk (pL_all Post)) cut WW n) := yf rfl
theorem fL_all_1 (Post : XPo) (cut : List Nat) (WW : XK) (n : Nat) (L : XLs) (st : List XV) (M : XM) : yru (xlk (pL_all Post)) cut WW (n + 1) 1 L st M = j_ald 1 1 1 L st M (ykk (xlk (pL_all Post)) cut WW n) := yf rfl
theorem fL_all_2 (Post : XPo) (cut : List Nat) (WW : XK) (n : Nat) (L : XLs) (st : List XV) (M : XM) : yru (xlk (pL_all Post)) cut WW (n + 1) 2 L st M = j_ild 2 1 2 L st M (ykk (xlk (pL_all Post)) cut WW n) := yf rfl
theorem fL_all_3 (Post : XPo) (cut : List Nat) (WW : XK) (n : Nat) (L : XLs) (st : List XV) (M : XM) : yru (xlk (pL_all Post)) cut WW (n + 1) 3 L st M = j_c 0 1 3 L st M (ykk (xlk (pL_all Post)) cut WW n) := yf rfl
theorem fL_all_4 (Post : XPo) (cut : List Nat) (WW : XK) (n : Nat) (L : XLs) (st : List XV) (M : XM) : yru (xlk (pL_all Post)) cut WW (n + 1) 4 L st M = j_Sn 4 sL_meals 4 L st M (ykk (xlk (pL_all Post)) cut WW n) := yf rfl
theorem fL_all_7 (Post : XPo) (cut : List Nat) (WW : XK) (n : Nat) (L : XLs) (st : List XV) (M : XM) : yru (xlk (pL_all Post)) cut WW (n + 1) 7 L st M = j_ald 0 1 7 L st M (ykk (xlk (pL_all Post)) cut WW n) := yf rfl
theorem fL_all_8 (Post : XPo) (cut : List Nat) (WW : XK) (n : Nat) (L : XLs) (st : List XV) (M : XM) : yru (xlk (pL_all Post)) cut WW (n + 1) 8 L st M = j_ald 1 1 8 L st M (ykk (xlk (pL_all Post)) cut WW n) := yf rfl
theorem fL_all_9 (Post : XPo) (cut : List Nat) (WW : XK) (n : Nat) (L : XLs) (st : List XV) (M : XM) : yru (xlk (pL_all Post)) cut WW (n + 1) 9 L st M = j_ild 2 1 9 L st M (ykk (xlk (pL_all Post)) cut WW n) := yf rfl
theorem fL_all_10 (Post : XPo) (cut : List Nat) (WW : XK) (n : Nat) (L : XLs) (st : List XV) (M : XM) : yru (xlk (pL_all Post)) cut WW (n + 1) 10 L st M = j_c 1 1 10 L st M (ykk (xlk (pL_all Post)) cut WW n) := yf rfl
theorem fL_all_11 (Post : XPo) (cut : List Nat) (WW : XK) (n : Nat) (L : XLs) (st : List XV) (M : XM) : yru (xlk (pL_all Post)) cut WW (n + 1) 11 L st M = j_Sn 4 sL_meals 11 L st M (ykk (xlk (pL_all Post)) cut WW n) := yf rfl
theorem fL_all_14 (Post : XPo) (cut : List Nat) (WW : XK) (n : Nat) (L : XLs) (st : List XV) (M : XM) : yru (xlk (pL_all Post)) cut WW (n + 1) 14 L st M = j_add 14 L st M (ykk (xlk (pL_all Post)) cut WW n) := yf rfl
theorem fL_all_15 (Post : XPo) (cut : List Nat) (WW : XK) (n : Nat) (L : XLs) (st : List XV) (M : XM) : yru (xlk (pL_all Post)) cut WW (n + 1) 15 L st M = j_ald 0 1 15 L st M (ykk (xlk (pL_all Post)) cut WW n) := yf rfl
theorem fL_all_16 (Post : XPo) (cut : List Nat) (WW : XK) (n : Nat) (L : XLs) (st : List XV) (M : XM) : yru (xlk (pL_all Post)) cut WW (n + 1) 16 L st M = j_ald 1 1 16 L st M (ykk (xlk (pL_all Post)) cut WW n) := yf rfl
theorem fL_all_17 (Post : XPo) (cut : List Nat) (WW : XK) (n : Nat) (L : XLs) (st : List XV) (M : XM) : yru (xlk (pL_all Post)) cut WW (n + 1) 17 L st M = j_ild 2 1 17 L st M (ykk (xlk (pL_all Post)) cut WW n) := yf rfl
theorem fL_all_18 (Post : XPo) (cut : List Nat) (WW : XK) (n : Nat) (L : XLs) (st : List XV) (M : XM) : yru (xlk (pL_all Post)) cut WW (n + 1) 18 L st M = j_c 2 1 18 L st M (ykk (xlk (pL_all Post)) cut WW n) := yf rfl
theorem fL_all_19 (Post : XPo) (cut : List Nat) (WW : XK) (n : Nat) (L : XLs) (st : List XV) (M : XM) : yru (xlk (pL_all Post)) cut WW (n + 1) 19 L st M = j_Sn 4 sL_meals 19 L st M (ykk (xlk (pL_all Post)) cut WW n) := yf rfl
theorem fL_all_22 (Post : XPo) (cut : List Nat) (WW : XK) (n : Nat) (L : XLs) (st : List XV) (M : XM) : yru (xlk (pL_all Post)) cut WW (n + 1) 22 L st M = j_add 22 L st M (ykk (xlk (pL_all Post)) cut WW n) := yf rfl
theorem fL_all_23 (Post : XPo) (cut : List Nat) (WW : XK) (n : Nat) (L : XLs) (st : List XV) (M : XM) : yru (xlk (pL_all Post)) cut WW (n + 1) 23 L st M = j_iret Post 23 L st M (ykk (xlk (pL_all Post)) cut WW n) := yf rfl
def aL9 (M : XM) (st : Int) : Int := mS9 (M 29 0 0) (M 20 0 0 12) st 0 + mS9 (M 29 0 0) (M 20 0 0 12) st 1 + mS9 (M 29 0 0) (M 20 0 0 12) st 2
def sL_all : XSp := fun av M Q => match av with
  | [.inr (.inl (some o1)), .inr (.inl (some o2)), .inl st] => (o1 = (20, 0, 0) ∧ o2 = (29, 0, 0)) ∧ (∃ (F : Int → Int) (T : Int), BM M F T) ∧ XInR st ∧ Q [xI (aL9 M st)] M
  | _ => False
set_option maxRecDepth 100000 in
theorem kL_all : XCn yL_all wL_all rL_all sL_all := XCn.of pL_all rfl rfl aL_all (fun av M Post h => by
  simp only [sL_all] at h
  split at h
  · exact (by decide : 3 ≤ 3)
  · exact h.elim) (fun av M Post h WW hC => by
  simp only [sL_all] at h
  split at h
  next o1 o2 st =>
    obtain ⟨⟨rfl, rfl⟩, ⟨F, T, hB⟩, rs, h⟩ := h
    show WW 0 [some (xR 20 0 0), some (xR 29 0 0), some (xI st)] [] M
    refine yru_ok hC [] 20 _ _ _ _ ?_
    simp only [ykk_ap, Int.reduceEq, Int.reduceLT, Int.reduceLE, Int.reduceNeg, Int.reduceAdd, Int.reduceSub, Int.reduceMul, and_self, false_and, and_false, not_true_eq_false, not_false_eq_true, true_implies, false_implies, xq0, xq1, xq2, xq3, xq4, xq5, xqR, xq1R, xq3R, xt1, xt2, xt3, List.mem_cons, List.not_mem_nil, or_false, false_or, or_self, if_false, if_true, reduceIte, reduceCtorEq, xent, xen, List.length_cons, List.length_nil, List.replicate, j_c, j_cJ, j_ild, j_ald, j_lld, j_ist, j_ast, j_lst, j_inc, j_add, j_sub, j_mul, j_neg, j_div, j_rem, j_and, j_shr, j_shl1, j_or, j_ladd, j_lsub, j_lmul, j_i2l, j_lcmp, j_i2c, j_dup, j_dup2, j_pop, j_goto, j_ieq, j_ine, j_ilt, j_ige, j_igt, j_ile, j_eq, j_ne, j_lt, j_ge, j_gt, j_le, xsw, j_tsw, j_gI, j_gJ, j_gR, j_pI, j_pJ, j_gs, j_iald, j_iast, j_cald, j_cast, j_aald, j_cpy, j_min, j_max, j_abs, j_iret, j_zret, j_lret, j_dret, j_ret0, j_V0, j_V1, j_V2, j_V3, j_V4, j_V5, j_S1, j_S2, j_S3, xget, xset, xset2, xclr, xc1, xcat, Nat.reduceAdd, Nat.reduceEqDiff, Nat.reduceLT, Nat.reduceLeDiff, Nat.reduceMul, List.cons_append, List.nil_append, true_and, and_true, List.singleton_append, j_lsw2, j_Sn, j_ush, j_dupx2, List.take_succ_cons, List.take_zero, List.drop_succ_cons, List.drop_zero, List.reverse_cons, List.reverse_nil, Nat.le_refl, fL_all_0, fL_all_1, fL_all_2, fL_all_3, fL_all_4, fL_all_7, fL_all_8, fL_all_9, fL_all_10, fL_all_11, fL_all_14, fL_all_15, fL_all_16, fL_all_17, fL_all_18, fL_all_19, fL_all_22, fL_all_23, Nat.zero_le]
    refine ug_meals hB rs (xr_c rfl) ?_
    simp only [ykk_ap, Int.reduceEq, Int.reduceLT, Int.reduceLE, Int.reduceNeg, Int.reduceAdd, Int.reduceSub, Int.reduceMul, and_self, false_and, and_false, not_true_eq_false, not_false_eq_true, true_implies, false_implies, xq0, xq1, xq2, xq3, xq4, xq5, xqR, xq1R, xq3R, xt1, xt2, xt3, List.mem_cons, List.not_mem_nil, or_false, false_or, or_self, if_false, if_true, reduceIte, reduceCtorEq, xent, xen, List.length_cons, List.length_nil, List.replicate, j_c, j_cJ, j_ild, j_ald, j_lld, j_ist, j_ast, j_lst, j_inc, j_add, j_sub, j_mul, j_neg, j_div, j_rem, j_and, j_shr, j_shl1, j_or, j_ladd, j_lsub, j_lmul, j_i2l, j_lcmp, j_i2c, j_dup, j_dup2, j_pop, j_goto, j_ieq, j_ine, j_ilt, j_ige, j_igt, j_ile, j_eq, j_ne, j_lt, j_ge, j_gt, j_le, xsw, j_tsw, j_gI, j_gJ, j_gR, j_pI, j_pJ, j_gs, j_iald, j_iast, j_cald, j_cast, j_aald, j_cpy, j_min, j_max, j_abs, j_iret, j_zret, j_lret, j_dret, j_ret0, j_V0, j_V1, j_V2, j_V3, j_V4, j_V5, j_S1, j_S2, j_S3, xget, xset, xset2, xclr, xc1, xcat, Nat.reduceAdd, Nat.reduceEqDiff, Nat.reduceLT, Nat.reduceLeDiff, Nat.reduceMul, List.cons_append, List.nil_append, true_and, and_true, List.singleton_append, j_lsw2, j_Sn, j_ush, j_dupx2, List.take_succ_cons, List.take_zero, List.drop_succ_cons, List.drop_zero, List.reverse_cons, List.reverse_nil, Nat.le_refl, fL_all_0, fL_all_1, fL_all_2, fL_all_3, fL_all_4, fL_all_7, fL_all_8, fL_all_9, fL_all_10, fL_all_11, fL_all_14, fL_all_15, fL_all_16, fL_all_17, fL_all_18, fL_all_19, fL_all_22, fL_all_23, Nat.zero_le]
    refine ug_meals hB rs (xr_c rfl) ?_
    simp only [ykk_ap, Int.reduceEq, Int.reduceLT, Int.reduceLE, Int.reduceNeg, Int.reduceAdd, Int.reduceSub, Int.reduceMul, and_self, false_and, and_false, not_true_eq_false, not_false_eq_true, true_implies, false_implies, xq0, xq1, xq2, xq3, xq4, xq5, xqR, xq1R, xq3R, xt1, xt2, xt3, List.mem_cons, List.not_mem_nil, or_false, false_or, or_self, if_false, if_true, reduceIte, reduceCtorEq, xent, xen, List.length_cons, List.length_nil, List.replicate, j_c, j_cJ, j_ild, j_ald, j_lld, j_ist, j_ast, j_lst, j_inc, j_add, j_sub, j_mul, j_neg, j_div, j_rem, j_and, j_shr, j_shl1, j_or, j_ladd, j_lsub, j_lmul, j_i2l, j_lcmp, j_i2c, j_dup, j_dup2, j_pop, j_goto, j_ieq, j_ine, j_ilt, j_ige, j_igt, j_ile, j_eq, j_ne, j_lt, j_ge, j_gt, j_le, xsw, j_tsw, j_gI, j_gJ, j_gR, j_pI, j_pJ, j_gs, j_iald, j_iast, j_cald, j_cast, j_aald, j_cpy, j_min, j_max, j_abs, j_iret, j_zret, j_lret, j_dret, j_ret0, j_V0, j_V1, j_V2, j_V3, j_V4, j_V5, j_S1, j_S2, j_S3, xget, xset, xset2, xclr, xc1, xcat, Nat.reduceAdd, Nat.reduceEqDiff, Nat.reduceLT, Nat.reduceLeDiff, Nat.reduceMul, List.cons_append, List.nil_append, true_and, and_true, List.singleton_append, j_lsw2, j_Sn, j_ush, j_dupx2, List.take_succ_cons, List.take_zero, List.drop_succ_cons, List.drop_zero, List.reverse_cons, List.reverse_nil, Nat.le_refl, fL_all_0, fL_all_1, fL_all_2, fL_all_3, fL_all_4, fL_all_7, fL_all_8, fL_all_9, fL_all_10, fL_all_11, fL_all_14, fL_all_15, fL_all_16, fL_all_17, fL_all_18, fL_all_19, fL_all_22, fL_all_23, Nat.zero_le]
    refine ug_meals hB rs (xr_c rfl) ?_
    simp only [ykk_ap, Int.reduceEq, Int.reduceLT, Int.reduceLE, Int.reduceNeg, Int.reduceAdd, Int.reduceSub, Int.reduceMul, and_self, false_and, and_false, not_true_eq_false, not_false_eq_true, true_implies, false_implies, xq0, xq1, xq2, xq3, xq4, xq5, xqR, xq1R, xq3R, xt1, xt2, xt3, List.mem_cons, List.not_mem_nil, or_false, false_or, or_self, if_false, if_true, reduceIte, reduceCtorEq, xent, xen, List.length_cons, List.length_nil, List.replicate, j_c, j_cJ, j_ild, j_ald, j_lld, j_ist, j_ast, j_lst, j_inc, j_add, j_sub, j_mul, j_neg, j_div, j_rem, j_and, j_shr, j_shl1, j_or, j_ladd, j_lsub, j_lmul, j_i2l, j_lcmp, j_i2c, j_dup, j_dup2, j_pop, j_goto, j_ieq, j_ine, j_ilt, j_ige, j_igt, j_ile, j_eq, j_ne, j_lt, j_ge, j_gt, j_le, xsw, j_tsw, j_gI, j_gJ, j_gR, j_pI, j_pJ, j_gs, j_iald, j_iast, j_cald, j_cast, j_aald, j_cpy, j_min, j_max, j_abs, j_iret, j_zret, j_lret, j_dret, j_ret0, j_V0, j_V1, j_V2, j_V3, j_V4, j_V5, j_S1, j_S2, j_S3, xget, xset, xset2, xclr, xc1, xcat, Nat.reduceAdd, Nat.reduceEqDiff, Nat.reduceLT, Nat.reduceLeDiff, Nat.reduceMul, List.cons_append, List.nil_append, true_and, and_true, List.singleton_append, j_lsw2, j_Sn, j_ush, j_dupx2, List.take_succ_cons, List.take_zero, List.drop_succ_cons, List.drop_zero, List.reverse_cons, List.reverse_nil, Nat.le_refl, fL_all_0, fL_all_1, fL_all_2, fL_all_3, fL_all_4, fL_all_7, fL_all_8, fL_all_9, fL_all_10, fL_all_11, fL_all_14, fL_all_15, fL_all_16, fL_all_17, fL_all_18, fL_all_19, fL_all_22, fL_all_23, Nat.zero_le]
    exact h
  next => exact h.elim)
theorem ug_all {F : Int → Int} {T st : Int} {M : XM} {Q : XPo} (hB : BM M F T) (rs : XInR st) (h : Q [xI (aL9 M st)] M) : sL_all [xR 20 0 0, xR 29 0 0, xI st] M Q := ⟨⟨rfl, rfl⟩, ⟨F, T, hB⟩, rs, h⟩
end XSm

