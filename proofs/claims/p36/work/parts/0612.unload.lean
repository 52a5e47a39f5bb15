section XUl
theorem tot3_sup (S : Int → Int) {x v : Int} (h0 : 0 ≤ x) (h1 : x < 192) : tot3 (sup S x v) = tot3 S + (v - S x) := by
  unfold tot3
  rw [sm_sup, sm_sup, sm_sup]
  rcases (show x < 64 ∨ (64 ≤ x ∧ x < 128) ∨ 128 ≤ x by omega) with z | z | z
  · rw [if_pos (by omega), if_neg (by omega), if_neg (by omega)]
    omega
  · rw [if_neg (by omega), if_pos (by omega), if_neg (by omega)]
    omega
  · rw [if_neg (by omega), if_neg (by omega), if_pos (by omega)]
    omega
theorem tot3_nn {S : Int → Int} (h : ∀ x : Int, 0 ≤ x → x < 192 → 0 ≤ S x ∧ S x ≤ 16000) : 0 ≤ tot3 S := by
  have a := sm_bd (S := S) (a := 0) (b := 16000) (n := 64) (fun y y0 y1 => h y (by omega) (by omega))
  have b := sm_bd (S := S) (a := 64) (b := 16000) (n := 64) (fun y y0 y1 => h y (by omega) (by omega))
  have c := sm_bd (S := S) (a := 128) (b := 16000) (n := 64) (fun y y0 y1 => h y (by omega) (by omega))
  unfold tot3
  omega
def uEnd (t st st2 : Int) (M0 M : XM) (F0 F : Int → Int) (T0 T : Int) (S0 R0 : Int → Int) : Prop :=
  bSame M0 M ∧ M 20 0 0 12 ≤ M0 20 0 0 12 ∧ BM M F T ∧ T = T0 ∧ (∀ x : Int, 0 ≤ x → x < 192 → F (kx t st x) = 0) ∧ (∀ x : Int, 0 ≤ x → x < 192 → F (kx t st2 x) = R0 x + S0 x) ∧ (∀ q : Int, ¬ q % 8 = st → ¬ q % 8 = st2 → F q = F0 q) ∧ SRw 40 t F
set_option maxRecDepth 100000 in
theorem kL_unl {Post : XPo} {WW : XK} (hC : XCl (xlk (pL_lorries Post)) WW) {x y l k act tot : Int} {t : Int} (hk : k = 0 ∨ k = 1) (hl : l = 0 ∨ l = 1) (ht : 0 ≤ t ∧ t ≤ 4000) {M0 : XM} {F0 S0 R0 : Int → Int} {T0 : Int} (hT : T0 ≤ 16000) (hN : M0 20 0 0 12 ≤ 60)
    (h : ∀ (M : XM) (F : Int → Int) (T : Int) (y13 y14 y15 : Option XV), uEnd t (4 + l) k M0 M F0 F T0 T S0 R0 → WW 452 [some (xR 0 0 0), some (xI x), some (xI y), some (xR 20 0 0), some (xR 21 0 0), some (xR 22 0 0), some (xR 26 0 0), some (xR 27 0 0), some (xR 29 0 0), some (xI l), some (xI k), some (xI act), some (xI tot), y13, y14, y15, none, none] [] M) : ∀ (m : Nat) (S R F : Int → Int) (M : XM), tot3 S ≤ m → bSame M0 M → M 20 0 0 12 ≤ M0 20 0 0 12 → BM M F T0 → SRw 40 t F → (∀ x : Int, 0 ≤ x → x < 192 → S x = F (kx t (4 + l) x)) → (∀ x : Int, 0 ≤ x → x < 192 → R x = F (kx t k x)) → (∀ x : Int, 0 ≤ x → x < 192 → R x + S x = R0 x + S0 x) → (∀ q : Int, ¬ q % 8 = 4 + l → ¬ q % 8 = k → F q = F0 q) →
    ∀ (j : Nat) (b : Int) (x14 x15 : Option XV), b + 1 = j → b < M 20 0 0 12 → (∀ i : Int, b < i → i < M 20 0 0 12 → ¬ M 29 0 0 i % 8 = 4 + l) → WW 372 [some (xR 0 0 0), some (xI x), some (xI y), some (xR 20 0 0), some (xR 21 0 0), some (xR 22 0 0), some (xR 26 0 0), some (xR 27 0 0), some (xR 29 0 0), some (xI l), some (xI k), some (xI act), some (xI tot), some (xI b), x14, x15, none, none] [] M := by
  intro m
  induction m with
  | zero =>
    intro S R F M hm hbs hN1 hB hW hS hR hRS hF0 j
    have hsl : 0 ≤ 4 + l ∧ 4 + l < 8 := by omega
    have hsk : 0 ≤ k ∧ k < 8 := by omega
    have hS0 : ∀ x : Int, 0 ≤ x → x < 192 → S x = 0 := fun x x0 x1 => by
      have hnn := tot3_nn (S := sup S x 0) (fun y y0 y1 => by
        simp only [sup_at]
        split
        · exact ⟨by decide, by decide⟩
        · rw [hS y y0 y1]
          have := BR_F hB (kx t (4 + l) y)
          omega)
      rw [tot3_sup S x0 x1] at hnn
      have := hS x x0 x1
      have := BR_F hB (kx t (4 + l) x)
      omega
    induction j with
    | zero =>
      intro b x14 x15 hb hbN hi
      have eb : b = -1 := by omega
      subst eb
      have hq := h M F T0 (some (xI (-1))) x14 x15 ⟨hbs, hN1, hB, rfl, fun x x0 x1 => by rw [← hS x x0 x1]; exact hS0 x x0 x1, fun x x0 x1 => by rw [← hR x x0 x1, ← hRS x x0 x1, hS0 x x0 x1]; omega, hF0, hW⟩
      refine yru_ok hC [452, 377] 4 _ _ _ _ ?_
      simp only [ykk_ap, Int.reduceEq, Int.reduceLT, Int.reduceLE, Int.reduceNeg, Int.reduceAdd, Int.reduceSub, Int.reduceMul, and_self, false_and, and_false, not_true_eq_false, not_false_eq_true, true_implies, false_implies, xq0, xq1, xq2, xq3, xq4, xq5, xqR, xq1R, xq3R, xt1, xt2, xt3, List.mem_cons, List.not_mem_nil, or_false, false_or, or_self, if_false, if_true, reduceIte, reduceCtorEq, xent, xen, List.length_cons, List.length_nil, List.replicate, j_c, j_cJ, j_ild, j_ald, j_lld, j_ist, j_ast, j_lst, j_inc, j_add, j_sub, j_mul, j_neg, j_div, j_rem, j_and, j_shr, j_shl1, j_or, j_ladd, j_lsub, j_lmul, j_i2l, j_lcmp, j_i2c, j_dup, j_dup2, j_pop, j_goto, j_ieq, j_ine, j_ilt, j_ige, j_igt, j_ile, j_eq, j_ne, j_lt, j_ge, j_gt, j_le, xsw, j_tsw, j_gI, j_gJ, j_gR, j_pI, j_pJ, j_gs, j_iald, j_iast, j_cald, j_cast, j_aald, j_cpy, j_min, j_max, j_abs, j_iret, j_zret, j_lret, j_dret, j_ret0, j_V0, j_V1, j_V2, j_V3, j_V4, j_V5, j_S1, j_S2, j_S3, xget, xset, xset2, xclr, xc1, xcat, Nat.reduceAdd, Nat.reduceEqDiff, Nat.reduceLT, Nat.reduceLeDiff, Nat.reduceMul, List.cons_append, List.nil_append, true_and, and_true, List.singleton_append, j_lsw2, j_Sn, j_ush, j_dupx2, List.take_succ_cons, List.take_zero, List.drop_succ_cons, List.drop_zero, List.reverse_cons, List.reverse_nil, Nat.le_refl, fL_lorries_372, fL_lorries_374, xvz_20, xvz_21, xvz_22, xvz_23, xvz_24, xvz_25, xvz_26, xvz_27, xvz_28, xvz_29, xrz_20, xrz_21, xrz_22, xrz_23, xrz_24, xrz_25, xrz_26, xrz_27, xrz_28, xrz_29, xdz_20, xdz_21, xdz_22, xdz_23, xdz_24, xdz_25, xdz_26, xdz_27, xdz_28, xdz_29, xlen, xcat, xc1, Nat.zero_le, Nat.reduceLeDiff, List.length_cons, List.length_nil, xr_c (n := -1) rfl]
      exact hq
    | succ j ih =>
      intro b x14 x15 hb hbN hi
      have b0 : 0 ≤ b := by omega
      have hN0 := hB.1
      have b64 : b < 64 := by omega
      have hka := hB.2.1 b b0 hbN
      have rb : XInR b := ⟨by omega, by omega⟩
      have hb0 : ¬ b < 0 := by omega
      have r8 : XInR (M 29 0 0 b % 8) := ⟨by omega, by omega⟩
      have rl : XInR (4 + l) := ⟨by omega, by omega⟩
      have c : ¬ M 29 0 0 b % 8 = 4 + l := fun z => by
        have g := hW (M 29 0 0 b % 131072) (by omega)
        obtain ⟨xx, hxx⟩ : ∃ xx : Int, xx = 64 * (M 29 0 0 b % 131072 / 8 % 4) + M 29 0 0 b % 131072 / 32 % 64 := ⟨_, rfl⟩
        have hx0 : 0 ≤ xx ∧ xx < 192 := by omega
        have ek : kx t (4 + l) xx = M 29 0 0 b % 131072 := by
          have e1 : xx / 64 = M 29 0 0 b % 131072 / 8 % 4 := by omega
          have e2 : t - (t - xx) % 64 = M 29 0 0 b % 131072 / 32 := by omega
          unfold kx
          rw [e1, e2]
          omega
        have := hS xx hx0.1 hx0.2
        rw [hS0 xx hx0.1 hx0.2, ek, hka.2.2] at this
        omega
      have hb' := ih (b - 1) x14 x15 (by omega) (by omega) (fun i i0 i1 => by
        by_cases e : i = b
        · rw [e]; exact c
        · exact hi i (by omega) i1)
      rw [show b - 1 = b + -1 from rfl] at hb'
      refine yru_ok hC [452, 377] 4 _ _ _ _ ?_
      simp only [ykk_ap, Int.reduceEq, Int.reduceLT, Int.reduceLE, Int.reduceNeg, Int.reduceAdd, Int.reduceSub, Int.reduceMul, and_self, false_and, and_false, not_true_eq_false, not_false_eq_true, true_implies, false_implies, xq0, xq1, xq2, xq3, xq4, xq5, xqR, xq1R, xq3R, xt1, xt2, xt3, List.mem_cons, List.not_mem_nil, or_false, false_or, or_self, if_false, if_true, reduceIte, reduceCtorEq, xent, xen, List.length_cons, List.length_nil, List.replicate, j_c, j_cJ, j_ild, j_ald, j_lld, j_ist, j_ast, j_lst, j_inc, j_add, j_sub, j_mul, j_neg, j_div, j_rem, j_and, j_shr, j_shl1, j_or, j_ladd, j_lsub, j_lmul, j_i2l, j_lcmp, j_i2c, j_dup, j_dup2, j_pop, j_goto, j_ieq, j_ine, j_ilt, j_ige, j_igt, j_ile, j_eq, j_ne, j_lt, j_ge, j_gt, j_le, xsw, j_tsw, j_gI, j_gJ, j_gR, j_pI, j_pJ, j_gs, j_iald, j_iast, j_cald, j_cast, j_aald, j_cpy, j_min, j_max, j_abs, j_iret, j_zret, j_lret, j_dret, j_ret0, j_V0, j_V1, j_V2, j_V3, j_V4, j_V5, j_S1, j_S2, j_S3, xget, xset, xset2, xclr, xc1, xcat, Nat.reduceAdd, Nat.reduceEqDiff, Nat.reduceLT, Nat.reduceLeDiff, Nat.reduceMul, List.cons_append, List.nil_append, true_and, and_true, List.singleton_append, j_lsw2, j_Sn, j_ush, j_dupx2, List.take_succ_cons, List.take_zero, List.drop_succ_cons, List.drop_zero, List.reverse_cons, List.reverse_nil, Nat.le_refl, fL_lorries_372, fL_lorries_374, xvz_20, xvz_21, xvz_22, xvz_23, xvz_24, xvz_25, xvz_26, xvz_27, xvz_28, xvz_29, xrz_20, xrz_21, xrz_22, xrz_23, xrz_24, xrz_25, xrz_26, xrz_27, xrz_28, xrz_29, xdz_20, xdz_21, xdz_22, xdz_23, xdz_24, xdz_25, xdz_26, xdz_27, xdz_28, xdz_29, xlen, xcat, xc1, Nat.zero_le, Nat.reduceLeDiff, List.length_cons, List.length_nil, rb, hb0, b0, b64, r8, rl, c, xr_c (n := 0) rfl]
      refine yru_ok hC [446, 392] 11 _ _ _ _ ?_
      simp only [ykk_ap, Int.reduceEq, Int.reduceLT, Int.reduceLE, Int.reduceNeg, Int.reduceAdd, Int.reduceSub, Int.reduceMul, and_self, false_and, and_false, not_true_eq_false, not_false_eq_true, true_implies, false_implies, xq0, xq1, xq2, xq3, xq4, xq5, xqR, xq1R, xq3R, xt1, xt2, xt3, List.mem_cons, List.not_mem_nil, or_false, false_or, or_self, if_false, if_true, reduceIte, reduceCtorEq, xent, xen, List.length_cons, List.length_nil, List.replicate, j_c, j_cJ, j_ild, j_ald, j_lld, j_ist, j_ast, j_lst, j_inc, j_add, j_sub, j_mul, j_neg, j_div, j_rem, j_and, j_shr, j_shl1, j_or, j_ladd, j_lsub, j_lmul, j_i2l, j_lcmp, j_i2c, j_dup, j_dup2, j_pop, j_goto, j_ieq, j_ine, j_ilt, j_ige, j_igt, j_ile, j_eq, j_ne, j_lt, j_ge, j_gt, j_le, xsw, j_tsw, j_gI, j_gJ, j_gR, j_pI, j_pJ, j_gs, j_iald, j_iast, j_cald, j_cast, j_aald, j_cpy, j_min, j_max, j_abs, j_iret, j_zret, j_lret, j_dret, j_ret0, j_V0, j_V1, j_V2, j_V3, j_V4, j_V5, j_S1, j_S2, j_S3, xget, xset, xset2, xclr, xc1, xcat, Nat.reduceAdd, Nat.reduceEqDiff, Nat.reduceLT, Nat.reduceLeDiff, Nat.reduceMul, List.cons_append, List.nil_append, true_and, and_true, List.singleton_append, j_lsw2, j_Sn, j_ush, j_dupx2, List.take_succ_cons, List.take_zero, List.drop_succ_cons, List.drop_zero, List.reverse_cons, List.reverse_nil, Nat.le_refl, fL_lorries_377, fL_lorries_379, fL_lorries_381, fL_lorries_382, fL_lorries_384, fL_lorries_385, fL_lorries_386, fL_lorries_388, fL_lorries_389, xvz_20, xvz_21, xvz_22, xvz_23, xvz_24, xvz_25, xvz_26, xvz_27, xvz_28, xvz_29, xrz_20, xrz_21, xrz_22, xrz_23, xrz_24, xrz_25, xrz_26, xrz_27, xrz_28, xrz_29, xdz_20, xdz_21, xdz_22, xdz_23, xdz_24, xdz_25, xdz_26, xdz_27, xdz_28, xdz_29, xlen, xcat, xc1, Nat.zero_le, Nat.reduceLeDiff, List.length_cons, List.length_nil, rb, hb0, b0, b64, r8, rl, c, xr_c (n := 0) rfl]
      refine yru_ok hC [372] 4 _ _ _ _ ?_
      simp only [ykk_ap, Int.reduceEq, Int.reduceLT, Int.reduceLE, Int.reduceNeg, Int.reduceAdd, Int.reduceSub, Int.reduceMul, and_self, false_and, and_false, not_true_eq_false, not_false_eq_true, true_implies, false_implies, xq0, xq1, xq2, xq3, xq4, xq5, xqR, xq1R, xq3R, xt1, xt2, xt3, List.mem_cons, List.not_mem_nil, or_false, false_or, or_self, if_false, if_true, reduceIte, reduceCtorEq, xent, xen, List.length_cons, List.length_nil, List.replicate, j_c, j_cJ, j_ild, j_ald, j_lld, j_ist, j_ast, j_lst, j_inc, j_add, j_sub, j_mul, j_neg, j_div, j_rem, j_and, j_shr, j_shl1, j_or, j_ladd, j_lsub, j_lmul, j_i2l, j_lcmp, j_i2c, j_dup, j_dup2, j_pop, j_goto, j_ieq, j_ine, j_ilt, j_ige, j_igt, j_ile, j_eq, j_ne, j_lt, j_ge, j_gt, j_le, xsw, j_tsw, j_gI, j_gJ, j_gR, j_pI, j_pJ, j_gs, j_iald, j_iast, j_cald, j_cast, j_aald, j_cpy, j_min, j_max, j_abs, j_iret, j_zret, j_lret, j_dret, j_ret0, j_V0, j_V1, j_V2, j_V3, j_V4, j_V5, j_S1, j_S2, j_S3, xget, xset, xset2, xclr, xc1, xcat, Nat.reduceAdd, Nat.reduceEqDiff, Nat.reduceLT, Nat.reduceLeDiff, Nat.reduceMul, List.cons_append, List.nil_append, true_and, and_true, List.singleton_append, j_lsw2, j_Sn, j_ush, j_dupx2, List.take_succ_cons, List.take_zero, List.drop_succ_cons, List.drop_zero, List.reverse_cons, List.reverse_nil, Nat.le_refl, fL_lorries_446, fL_lorries_449, xvz_20, xvz_21, xvz_22, xvz_23, xvz_24, xvz_25, xvz_26, xvz_27, xvz_28, xvz_29, xrz_20, xrz_21, xrz_22, xrz_23, xrz_24, xrz_25, xrz_26, xrz_27, xrz_28, xrz_29, xdz_20, xdz_21, xdz_22, xdz_23, xdz_24, xdz_25, xdz_26, xdz_27, xdz_28, xdz_29, xlen, xcat, xc1, Nat.zero_le, Nat.reduceLeDiff, List.length_cons, List.length_nil, rb, hb0, b0, b64, r8, rl, c, xr_c (n := 0) rfl]
      exact hb'
  | succ m ihm =>
    intro S R F M hm hbs hN1 hB hW hS hR hRS hF0 j
    have hsl : 0 ≤ 4 + l ∧ 4 + l < 8 := by omega
    have hsk : 0 ≤ k ∧ k < 8 := by omega
    induction j with
    | zero =>
      intro b x14 x15 hb hbN hi
      have eb : b = -1 := by omega
      subst eb
      have hS0 : ∀ x : Int, 0 ≤ x → x < 192 → F (kx t (4 + l) x) = 0 := fun x x0 x1 => by
        rcases hB.2.2.2.1 (kx t (4 + l) x) with z | ⟨i, hi1, z⟩
        · exact z
        · have k1 := (kx_st (t := t) hsl x0 x1).1
          exact absurd (by omega) (hi i (by omega) hi1.2)
      have hq := h M F T0 (some (xI (-1))) x14 x15 ⟨hbs, hN1, hB, rfl, hS0, fun x x0 x1 => by
        have := hS x x0 x1
        rw [hS0 x x0 x1] at this
        rw [← hR x x0 x1, ← hRS x x0 x1, this]
        omega, hF0, hW⟩
      refine yru_ok hC [452, 377] 4 _ _ _ _ ?_
      simp only [ykk_ap, Int.reduceEq, Int.reduceLT, Int.reduceLE, Int.reduceNeg, Int.reduceAdd, Int.reduceSub, Int.reduceMul, and_self, false_and, and_false, not_true_eq_false, not_false_eq_true, true_implies, false_implies, xq0, xq1, xq2, xq3, xq4, xq5, xqR, xq1R, xq3R, xt1, xt2, xt3, List.mem_cons, List.not_mem_nil, or_false, false_or, or_self, if_false, if_true, reduceIte, reduceCtorEq, xent, xen, List.length_cons, List.length_nil, List.replicate, j_c, j_cJ, j_ild, j_ald, j_lld, j_ist, j_ast, j_lst, j_inc, j_add, j_sub, j_mul, j_neg, j_div, j_rem, j_and, j_shr, j_shl1, j_or, j_ladd, j_lsub, j_lmul, j_i2l, j_lcmp, j_i2c, j_dup, j_dup2, j_pop, j_goto, j_ieq, j_ine, j_ilt, j_ige, j_igt, j_ile, j_eq, j_ne, j_lt, j_ge, j_gt, j_le, xsw, j_tsw, j_gI, j_gJ, j_gR, j_pI, j_pJ, j_gs, j_iald, j_iast, j_cald, j_cast, j_aald, j_cpy, j_min, j_max, j_abs, j_iret, j_zret, j_lret, j_dret, j_ret0, j_V0, j_V1, j_V2, j_V3, j_V4, j_V5, j_S1, j_S2, j_S3, xget, xset, xset2, xclr, xc1, xcat, Nat.reduceAdd, Nat.reduceEqDiff, Nat.reduceLT, Nat.reduceLeDiff, Nat.reduceMul, List.cons_append, List.nil_append, true_and, and_true, List.singleton_append, j_lsw2, j_Sn, j_ush, j_dupx2, List.take_succ_cons, List.take_zero, List.drop_succ_cons, List.drop_zero, List.reverse_cons, List.reverse_nil, Nat.le_refl, fL_lorries_372, fL_lorries_374, xvz_20, xvz_21, xvz_22, xvz_23, xvz_24, xvz_25, xvz_26, xvz_27, xvz_28, xvz_29, xrz_20, xrz_21, xrz_22, xrz_23, xrz_24, xrz_25, xrz_26, xrz_27, xrz_28, xrz_29, xdz_20, xdz_21, xdz_22, xdz_23, xdz_24, xdz_25, xdz_26, xdz_27, xdz_28, xdz_29, xlen, xcat, xc1, Nat.zero_le, Nat.reduceLeDiff, List.length_cons, List.length_nil, xr_c (n := -1) rfl]
      exact hq
    | succ j ih =>
      intro b x14 x15 hb hbN hi
      have b0 : 0 ≤ b := by omega
      have hN0 := hB.1
      have b64 : b < 64 := by omega
      have hka := hB.2.1 b b0 hbN
      have rb : XInR b := ⟨by omega, by omega⟩
      have hb0 : ¬ b < 0 := by omega
      have r8 : XInR (M 29 0 0 b % 8) := ⟨by omega, by omega⟩
      have rl : XInR (4 + l) := ⟨by omega, by omega⟩
      by_cases c : M 29 0 0 b % 8 = 4 + l
      case neg =>
        have hb' := ih (b - 1) x14 x15 (by omega) (by omega) (fun i i0 i1 => by
          by_cases e : i = b
          · rw [e]; exact c
          · exact hi i (by omega) i1)
        rw [show b - 1 = b + -1 from rfl] at hb'
        refine yru_ok hC [452, 377] 4 _ _ _ _ ?_
        simp only [ykk_ap, Int.reduceEq, Int.reduceLT, Int.reduceLE, Int.reduceNeg, Int.reduceAdd, Int.reduceSub, Int.reduceMul, and_self, false_and, and_false, not_true_eq_false, not_false_eq_true, true_implies, false_implies, xq0, xq1, xq2, xq3, xq4, xq5, xqR, xq1R, xq3R, xt1, xt2, xt3, List.mem_cons, List.not_mem_nil, or_false, false_or, or_self, if_false, if_true, reduceIte, reduceCtorEq, xent, xen, List.length_cons, List.length_nil, List.replicate, j_c, j_cJ, j_ild, j_ald, j_lld, j_ist, j_ast, j_lst, j_inc, j_add, j_sub, j_mul, j_neg, j_div, j_rem, j_and, j_shr, j_shl1, j_or, j_ladd, j_lsub, j_lmul, j_i2l, j_lcmp, j_i2c, j_dup, j_dup2, j_pop, j_goto, j_ieq, j_ine, j_ilt, j_ige, j_igt, j_ile, j_eq, j_ne, j_lt, j_ge, j_gt, j_le, xsw, j_tsw, j_gI, j_gJ, j_gR, j_pI, j_pJ, j_gs, j_iald, j_iast, j_cald, j_cast, j_aald, j_cpy, j_min, j_max, j_abs, j_iret, j_zret, j_lret, j_dret, j_ret0, j_V0, j_V1, j_V2, j_V3, j_V4, j_V5, j_S1, j_S2, j_S3, xget, xset, xset2, xclr, xc1, xcat, Nat.reduceAdd, Nat.reduceEqDiff, Nat.reduceLT, Nat.reduceLeDiff, Nat.reduceMul, List.cons_append, List.nil_append, true_and, and_true, List.singleton_append, j_lsw2, j_Sn, j_ush, j_dupx2, List.take_succ_cons, List.take_zero, List.drop_succ_cons, List.drop_zero, List.reverse_cons, List.reverse_nil, Nat.le_refl, fL_lorries_372, fL_lorries_374, xvz_20, xvz_21, xvz_22, xvz_23, xvz_24, xvz_25, xvz_26, xvz_27, xvz_28, xvz_29, xrz_20, xrz_21, xrz_22, xrz_23, xrz_24, xrz_25, xrz_26, xrz_27, xrz_28, xrz_29, xdz_20, xdz_21, xdz_22, xdz_23, xdz_24, xdz_25, xdz_26, xdz_27, xdz_28, xdz_29, xlen, xcat, xc1, Nat.zero_le, Nat.reduceLeDiff, List.length_cons, List.length_nil, rb, hb0, b0, b64, r8, rl, c, xr_c (n := 0) rfl]
        refine yru_ok hC [446, 392] 11 _ _ _ _ ?_
        simp only [ykk_ap, Int.reduceEq, Int.reduceLT, Int.reduceLE, Int.reduceNeg, Int.reduceAdd, Int.reduceSub, Int.reduceMul, and_self, false_and, and_false, not_true_eq_false, not_false_eq_true, true_implies, false_implies, xq0, xq1, xq2, xq3, xq4, xq5, xqR, xq1R, xq3R, xt1, xt2, xt3, List.mem_cons, List.not_mem_nil, or_false, false_or, or_self, if_false, if_true, reduceIte, reduceCtorEq, xent, xen, List.length_cons, List.length_nil, List.replicate, j_c, j_cJ, j_ild, j_ald, j_lld, j_ist, j_ast, j_lst, j_inc, j_add, j_sub, j_mul, j_neg, j_div, j_rem, j_and, j_shr, j_shl1, j_or, j_ladd, j_lsub, j_lmul, j_i2l, j_lcmp, j_i2c, j_dup, j_dup2, j_pop, j_goto, j_ieq, j_ine, j_ilt, j_ige, j_igt, j_ile, j_eq, j_ne, j_lt, j_ge, j_gt, j_le, xsw, j_tsw, j_gI, j_gJ, j_gR, j_pI, j_pJ, j_gs, j_iald, j_iast, j_cald, j_cast, j_aald, j_cpy, j_min, j_max, j_abs, j_iret, j_zret, j_lret, j_dret, j_ret0, j_V0, j_V1, j_V2, j_V3, j_V4, j_V5, j_S1, j_S2, j_S3, xget, xset, xset2, xclr, xc1, xcat, Nat.reduceAdd, Nat.reduceEqDiff, Nat.reduceLT, Nat.reduceLeDiff, Nat.reduceMul, List.cons_append, List.nil_append, true_and, and_true, List.singleton_append, j_lsw2, j_Sn, j_ush, j_dupx2, List.take_succ_cons, List.take_zero, List.drop_succ_cons, List.drop_zero, List.reverse_cons, List.reverse_nil, Nat.le_refl, fL_lorries_377, fL_lorries_379, fL_lorries_381, fL_lorries_382, fL_lorries_384, fL_lorries_385, fL_lorries_386, fL_lorries_388, fL_lorries_389, xvz_20, xvz_21, xvz_22, xvz_23, xvz_24, xvz_25, xvz_26, xvz_27, xvz_28, xvz_29, xrz_20, xrz_21, xrz_22, xrz_23, xrz_24, xrz_25, xrz_26, xrz_27, xrz_28, xrz_29, xdz_20, xdz_21, xdz_22, xdz_23, xdz_24, xdz_25, xdz_26, xdz_27, xdz_28, xdz_29, xlen, xcat, xc1, Nat.zero_le, Nat.reduceLeDiff, List.length_cons, List.length_nil, rb, hb0, b0, b64, r8, rl, c, xr_c (n := 0) rfl]
        refine yru_ok hC [372] 4 _ _ _ _ ?_
        simp only [ykk_ap, Int.reduceEq, Int.reduceLT, Int.reduceLE, Int.reduceNeg, Int.reduceAdd, Int.reduceSub, Int.reduceMul, and_self, false_and, and_false, not_true_eq_false, not_false_eq_true, true_implies, false_implies, xq0, xq1, xq2, xq3, xq4, xq5, xqR, xq1R, xq3R, xt1, xt2, xt3, List.mem_cons, List.not_mem_nil, or_false, false_or, or_self, if_false, if_true, reduceIte, reduceCtorEq, xent, xen, List.length_cons, List.length_nil, List.replicate, j_c, j_cJ, j_ild, j_ald, j_lld, j_ist, j_ast, j_lst, j_inc, j_add, j_sub, j_mul, j_neg, j_div, j_rem, j_and, j_shr, j_shl1, j_or, j_ladd, j_lsub, j_lmul, j_i2l, j_lcmp, j_i2c, j_dup, j_dup2, j_pop, j_goto, j_ieq, j_ine, j_ilt, j_ige, j_igt, j_ile, j_eq, j_ne, j_lt, j_ge, j_gt, j_le, xsw, j_tsw, j_gI, j_gJ, j_gR, j_pI, j_pJ, j_gs, j_iald, j_iast, j_cald, j_cast, j_aald, j_cpy, j_min, j_max, j_abs, j_iret, j_zret, j_lret, j_dret, j_ret0, j_V0, j_V1, j_V2, j_V3, j_V4, j_V5, j_S1, j_S2, j_S3, xget, xset, xset2, xclr, xc1, xcat, Nat.reduceAdd, Nat.reduceEqDiff, Nat.reduceLT, Nat.reduceLeDiff, Nat.reduceMul, List.cons_append, List.nil_append, true_and, and_true, List.singleton_append, j_lsw2, j_Sn, j_ush, j_dupx2, List.take_succ_cons, List.take_zero, List.drop_succ_cons, List.drop_zero, List.reverse_cons, List.reverse_nil, Nat.le_refl, fL_lorries_446, fL_lorries_449, xvz_20, xvz_21, xvz_22, xvz_23, xvz_24, xvz_25, xvz_26, xvz_27, xvz_28, xvz_29, xrz_20, xrz_21, xrz_22, xrz_23, xrz_24, xrz_25, xrz_26, xrz_27, xrz_28, xrz_29, xdz_20, xdz_21, xdz_22, xdz_23, xdz_24, xdz_25, xdz_26, xdz_27, xdz_28, xdz_29, xlen, xcat, xc1, Nat.zero_le, Nat.reduceLeDiff, List.length_cons, List.length_nil, rb, hb0, b0, b64, r8, rl, c, xr_c (n := 0) rfl]
        exact hb'
      have g := hW (M 29 0 0 b % 131072) (by omega)
      obtain ⟨xx, hxx⟩ : ∃ xx : Int, xx = 64 * (M 29 0 0 b % 131072 / 8 % 4) + M 29 0 0 b % 131072 / 32 % 64 := ⟨_, rfl⟩
      have hx0 : 0 ≤ xx ∧ xx < 192 := by omega
      have e1 : xx / 64 = M 29 0 0 b % 131072 / 8 % 4 := by omega
      have e2 : t - (t - xx) % 64 = M 29 0 0 b % 131072 / 32 := by omega
      have ek : kx t (4 + l) xx = M 29 0 0 b % 131072 := by
        unfold kx
        rw [e1, e2]
        omega
      have kk2 := kx_st (t := t) hsk hx0.1 hx0.2
      have hto : M 29 0 0 b % 131072 - 4 - l + k = kx t k xx := by
        unfold kx
        rw [e1, e2]
        omega
      obtain ⟨v, hv⟩ : ∃ v : Int, v = M 29 0 0 b / 131072 := ⟨_, rfl⟩
      have hFv : F (kx t (4 + l) xx) = v := by rw [ek, hv]; exact hka.2.2
      have ra : XInR (M 29 0 0 b) := ⟨by omega, by omega⟩
      have p17 : M 29 0 0 b / 2 ^ (17 : Int).toNat = v := by rw [hv]; rfl
      obtain ⟨F1, hF1⟩ : ∃ F1 : Int → Int, F1 = sup F (kx t (4 + l) xx) (F (kx t (4 + l) xx) - v) := ⟨_, rfl⟩
      obtain ⟨F2, hF2⟩ : ∃ F2 : Int → Int, F2 = sup F1 (kx t k xx) (F1 (kx t k xx) + v) := ⟨_, rfl⟩
      have mv := mv_F hsl hsk (by omega) (by omega) hx0.1 hx0.2 hW (by omega) hS hR hF1 hF2
      have hSx := hS xx hx0.1 hx0.2
      have hq131 : 0 ≤ kx t k xx ∧ kx t k xx < 131072 := by omega
      refine yru_ok hC [452, 377] 4 _ _ _ _ ?_
      simp only [ykk_ap, Int.reduceEq, Int.reduceLT, Int.reduceLE, Int.reduceNeg, Int.reduceAdd, Int.reduceSub, Int.reduceMul, and_self, false_and, and_false, not_true_eq_false, not_false_eq_true, true_implies, false_implies, xq0, xq1, xq2, xq3, xq4, xq5, xqR, xq1R, xq3R, xt1, xt2, xt3, List.mem_cons, List.not_mem_nil, or_false, false_or, or_self, if_false, if_true, reduceIte, reduceCtorEq, xent, xen, List.length_cons, List.length_nil, List.replicate, j_c, j_cJ, j_ild, j_ald, j_lld, j_ist, j_ast, j_lst, j_inc, j_add, j_sub, j_mul, j_neg, j_div, j_rem, j_and, j_shr, j_shl1, j_or, j_ladd, j_lsub, j_lmul, j_i2l, j_lcmp, j_i2c, j_dup, j_dup2, j_pop, j_goto, j_ieq, j_ine, j_ilt, j_ige, j_igt, j_ile, j_eq, j_ne, j_lt, j_ge, j_gt, j_le, xsw, j_tsw, j_gI, j_gJ, j_gR, j_pI, j_pJ, j_gs, j_iald, j_iast, j_cald, j_cast, j_aald, j_cpy, j_min, j_max, j_abs, j_iret, j_zret, j_lret, j_dret, j_ret0, j_V0, j_V1, j_V2, j_V3, j_V4, j_V5, j_S1, j_S2, j_S3, xget, xset, xset2, xclr, xc1, xcat, Nat.reduceAdd, Nat.reduceEqDiff, Nat.reduceLT, Nat.reduceLeDiff, Nat.reduceMul, List.cons_append, List.nil_append, true_and, and_true, List.singleton_append, j_lsw2, j_Sn, j_ush, j_dupx2, List.take_succ_cons, List.take_zero, List.drop_succ_cons, List.drop_zero, List.reverse_cons, List.reverse_nil, Nat.le_refl, fL_lorries_372, fL_lorries_374, xvz_20, xvz_21, xvz_22, xvz_23, xvz_24, xvz_25, xvz_26, xvz_27, xvz_28, xvz_29, xrz_20, xrz_21, xrz_22, xrz_23, xrz_24, xrz_25, xrz_26, xrz_27, xrz_28, xrz_29, xdz_20, xdz_21, xdz_22, xdz_23, xdz_24, xdz_25, xdz_26, xdz_27, xdz_28, xdz_29, xlen, xcat, xc1, Nat.zero_le, Nat.reduceLeDiff, List.length_cons, List.length_nil, rb, hb0, b0, b64, r8, rl, ra, p17, c, xr_c (n := 0) rfl]
      refine yru_ok hC [446, 392] 11 _ _ _ _ ?_
      simp only [ykk_ap, Int.reduceEq, Int.reduceLT, Int.reduceLE, Int.reduceNeg, Int.reduceAdd, Int.reduceSub, Int.reduceMul, and_self, false_and, and_false, not_true_eq_false, not_false_eq_true, true_implies, false_implies, xq0, xq1, xq2, xq3, xq4, xq5, xqR, xq1R, xq3R, xt1, xt2, xt3, List.mem_cons, List.not_mem_nil, or_false, false_or, or_self, if_false, if_true, reduceIte, reduceCtorEq, xent, xen, List.length_cons, List.length_nil, List.replicate, j_c, j_cJ, j_ild, j_ald, j_lld, j_ist, j_ast, j_lst, j_inc, j_add, j_sub, j_mul, j_neg, j_div, j_rem, j_and, j_shr, j_shl1, j_or, j_ladd, j_lsub, j_lmul, j_i2l, j_lcmp, j_i2c, j_dup, j_dup2, j_pop, j_goto, j_ieq, j_ine, j_ilt, j_ige, j_igt, j_ile, j_eq, j_ne, j_lt, j_ge, j_gt, j_le, xsw, j_tsw, j_gI, j_gJ, j_gR, j_pI, j_pJ, j_gs, j_iald, j_iast, j_cald, j_cast, j_aald, j_cpy, j_min, j_max, j_abs, j_iret, j_zret, j_lret, j_dret, j_ret0, j_V0, j_V1, j_V2, j_V3, j_V4, j_V5, j_S1, j_S2, j_S3, xget, xset, xset2, xclr, xc1, xcat, Nat.reduceAdd, Nat.reduceEqDiff, Nat.reduceLT, Nat.reduceLeDiff, Nat.reduceMul, List.cons_append, List.nil_append, true_and, and_true, List.singleton_append, j_lsw2, j_Sn, j_ush, j_dupx2, List.take_succ_cons, List.take_zero, List.drop_succ_cons, List.drop_zero, List.reverse_cons, List.reverse_nil, Nat.le_refl, fL_lorries_377, fL_lorries_379, fL_lorries_381, fL_lorries_382, fL_lorries_384, fL_lorries_385, fL_lorries_386, fL_lorries_388, fL_lorries_389, xvz_20, xvz_21, xvz_22, xvz_23, xvz_24, xvz_25, xvz_26, xvz_27, xvz_28, xvz_29, xrz_20, xrz_21, xrz_22, xrz_23, xrz_24, xrz_25, xrz_26, xrz_27, xrz_28, xrz_29, xdz_20, xdz_21, xdz_22, xdz_23, xdz_24, xdz_25, xdz_26, xdz_27, xdz_28, xdz_29, xlen, xcat, xc1, Nat.zero_le, Nat.reduceLeDiff, List.length_cons, List.length_nil, rb, hb0, b0, b64, r8, rl, ra, p17, c, xr_c (n := 0) rfl]
      refine yru_ok hC [430] 25 _ _ _ _ ?_
      simp only [ykk_ap, Int.reduceEq, Int.reduceLT, Int.reduceLE, Int.reduceNeg, Int.reduceAdd, Int.reduceSub, Int.reduceMul, and_self, false_and, and_false, not_true_eq_false, not_false_eq_true, true_implies, false_implies, xq0, xq1, xq2, xq3, xq4, xq5, xqR, xq1R, xq3R, xt1, xt2, xt3, List.mem_cons, List.not_mem_nil, or_false, false_or, or_self, if_false, if_true, reduceIte, reduceCtorEq, xent, xen, List.length_cons, List.length_nil, List.replicate, j_c, j_cJ, j_ild, j_ald, j_lld, j_ist, j_ast, j_lst, j_inc, j_add, j_sub, j_mul, j_neg, j_div, j_rem, j_and, j_shr, j_shl1, j_or, j_ladd, j_lsub, j_lmul, j_i2l, j_lcmp, j_i2c, j_dup, j_dup2, j_pop, j_goto, j_ieq, j_ine, j_ilt, j_ige, j_igt, j_ile, j_eq, j_ne, j_lt, j_ge, j_gt, j_le, xsw, j_tsw, j_gI, j_gJ, j_gR, j_pI, j_pJ, j_gs, j_iald, j_iast, j_cald, j_cast, j_aald, j_cpy, j_min, j_max, j_abs, j_iret, j_zret, j_lret, j_dret, j_ret0, j_V0, j_V1, j_V2, j_V3, j_V4, j_V5, j_S1, j_S2, j_S3, xget, xset, xset2, xclr, xc1, xcat, Nat.reduceAdd, Nat.reduceEqDiff, Nat.reduceLT, Nat.reduceLeDiff, Nat.reduceMul, List.cons_append, List.nil_append, true_and, and_true, List.singleton_append, j_lsw2, j_Sn, j_ush, j_dupx2, List.take_succ_cons, List.take_zero, List.drop_succ_cons, List.drop_zero, List.reverse_cons, List.reverse_nil, Nat.le_refl, fL_lorries_392, fL_lorries_394, fL_lorries_396, fL_lorries_397, fL_lorries_399, fL_lorries_400, fL_lorries_401, fL_lorries_402, fL_lorries_404, fL_lorries_405, fL_lorries_407, fL_lorries_408, fL_lorries_410, fL_lorries_412, fL_lorries_414, fL_lorries_415, fL_lorries_417, fL_lorries_418, fL_lorries_420, fL_lorries_421, fL_lorries_423, fL_lorries_425, fL_lorries_427, xvz_20, xvz_21, xvz_22, xvz_23, xvz_24, xvz_25, xvz_26, xvz_27, xvz_28, xvz_29, xrz_20, xrz_21, xrz_22, xrz_23, xrz_24, xrz_25, xrz_26, xrz_27, xrz_28, xrz_29, xdz_20, xdz_21, xdz_22, xdz_23, xdz_24, xdz_25, xdz_26, xdz_27, xdz_28, xdz_29, xlen, xcat, xc1, Nat.zero_le, Nat.reduceLeDiff, List.length_cons, List.length_nil, rb, hb0, b0, b64, r8, rl, ra, p17, c, xr_c (n := 0) rfl]
      refine ug_less hB ⟨b0, hbN⟩ ⟨by omega, by omega⟩ (fun M1 hL => ?_)
      have hB1 : BM M1 F1 (T0 - v) := by rw [hF1, ek]; exact hL.2.1
      refine yru_ok hC [440] 7 _ _ _ _ ?_
      simp only [ykk_ap, Int.reduceEq, Int.reduceLT, Int.reduceLE, Int.reduceNeg, Int.reduceAdd, Int.reduceSub, Int.reduceMul, and_self, false_and, and_false, not_true_eq_false, not_false_eq_true, true_implies, false_implies, xq0, xq1, xq2, xq3, xq4, xq5, xqR, xq1R, xq3R, xt1, xt2, xt3, List.mem_cons, List.not_mem_nil, or_false, false_or, or_self, if_false, if_true, reduceIte, reduceCtorEq, xent, xen, List.length_cons, List.length_nil, List.replicate, j_c, j_cJ, j_ild, j_ald, j_lld, j_ist, j_ast, j_lst, j_inc, j_add, j_sub, j_mul, j_neg, j_div, j_rem, j_and, j_shr, j_shl1, j_or, j_ladd, j_lsub, j_lmul, j_i2l, j_lcmp, j_i2c, j_dup, j_dup2, j_pop, j_goto, j_ieq, j_ine, j_ilt, j_ige, j_igt, j_ile, j_eq, j_ne, j_lt, j_ge, j_gt, j_le, xsw, j_tsw, j_gI, j_gJ, j_gR, j_pI, j_pJ, j_gs, j_iald, j_iast, j_cald, j_cast, j_aald, j_cpy, j_min, j_max, j_abs, j_iret, j_zret, j_lret, j_dret, j_ret0, j_V0, j_V1, j_V2, j_V3, j_V4, j_V5, j_S1, j_S2, j_S3, xget, xset, xset2, xclr, xc1, xcat, Nat.reduceAdd, Nat.reduceEqDiff, Nat.reduceLT, Nat.reduceLeDiff, Nat.reduceMul, List.cons_append, List.nil_append, true_and, and_true, List.singleton_append, j_lsw2, j_Sn, j_ush, j_dupx2, List.take_succ_cons, List.take_zero, List.drop_succ_cons, List.drop_zero, List.reverse_cons, List.reverse_nil, Nat.le_refl, fL_lorries_430, fL_lorries_431, fL_lorries_433, fL_lorries_435, fL_lorries_437, xvz_20, xvz_21, xvz_22, xvz_23, xvz_24, xvz_25, xvz_26, xvz_27, xvz_28, xvz_29, xrz_20, xrz_21, xrz_22, xrz_23, xrz_24, xrz_25, xrz_26, xrz_27, xrz_28, xrz_29, xdz_20, xdz_21, xdz_22, xdz_23, xdz_24, xdz_25, xdz_26, xdz_27, xdz_28, xdz_29, xlen, xcat, xc1, Nat.zero_le, Nat.reduceLeDiff, List.length_cons, List.length_nil]
      rw [hto]
      refine ug_put hB1 (by rcases hL.2.2.1 with z | z <;> omega) hq131 (by omega) (by omega) (fun M2 hP => ?_)
      have hB2 : BM M2 F2 T0 := by
        have := hP.2.1
        rw [← hF2, show T0 - v + v = T0 by omega] at this
        exact this
      have n2 : M2 20 0 0 12 ≤ M 20 0 0 12 := by
        have := (hL.2.2.2 (by rw [← ek, hFv])).1
        rcases hP.2.2 with z | z <;> omega
      have hN2 := hB2.1
      have hb' := ihm (sup S xx (S xx - v)) (sup R xx (R xx + v)) F2 M2 (by rw [tot3_sup S hx0.1 hx0.2]; omega) (bSame_trans hbs (bSame_trans hL.1 hP.1)) (by omega) hB2 mv.2.2.2 mv.1 mv.2.1 (fun z z0 z1 => by
        have := hRS z z0 z1
        simp only [sup_at]
        by_cases e : z = xx
        · rw [if_pos e, if_pos e, ← e]
          omega
        · rw [if_neg e, if_neg e]
          exact this) (fun q a b => (mv.2.2.1 q a b).trans (hF0 q a b)) (M2 20 0 0 12).toNat (M2 20 0 0 12 - 1) (some (xI (kx t k xx))) (some (xI v)) (by omega) (by omega) (fun i i0 i1 => by omega)
      rw [show M2 20 0 0 12 - 1 = M2 20 0 0 12 + -1 from rfl] at hb'
      refine yru_ok hC [446] 6 _ _ _ _ ?_
      simp only [ykk_ap, Int.reduceEq, Int.reduceLT, Int.reduceLE, Int.reduceNeg, Int.reduceAdd, Int.reduceSub, Int.reduceMul, and_self, false_and, and_false, not_true_eq_false, not_false_eq_true, true_implies, false_implies, xq0, xq1, xq2, xq3, xq4, xq5, xqR, xq1R, xq3R, xt1, xt2, xt3, List.mem_cons, List.not_mem_nil, or_false, false_or, or_self, if_false, if_true, reduceIte, reduceCtorEq, xent, xen, List.length_cons, List.length_nil, List.replicate, j_c, j_cJ, j_ild, j_ald, j_lld, j_ist, j_ast, j_lst, j_inc, j_add, j_sub, j_mul, j_neg, j_div, j_rem, j_and, j_shr, j_shl1, j_or, j_ladd, j_lsub, j_lmul, j_i2l, j_lcmp, j_i2c, j_dup, j_dup2, j_pop, j_goto, j_ieq, j_ine, j_ilt, j_ige, j_igt, j_ile, j_eq, j_ne, j_lt, j_ge, j_gt, j_le, xsw, j_tsw, j_gI, j_gJ, j_gR, j_pI, j_pJ, j_gs, j_iald, j_iast, j_cald, j_cast, j_aald, j_cpy, j_min, j_max, j_abs, j_iret, j_zret, j_lret, j_dret, j_ret0, j_V0, j_V1, j_V2, j_V3, j_V4, j_V5, j_S1, j_S2, j_S3, xget, xset, xset2, xclr, xc1, xcat, Nat.reduceAdd, Nat.reduceEqDiff, Nat.reduceLT, Nat.reduceLeDiff, Nat.reduceMul, List.cons_append, List.nil_append, true_and, and_true, List.singleton_append, j_lsw2, j_Sn, j_ush, j_dupx2, List.take_succ_cons, List.take_zero, List.drop_succ_cons, List.drop_zero, List.reverse_cons, List.reverse_nil, Nat.le_refl, fL_lorries_440, fL_lorries_441, fL_lorries_443, fL_lorries_444, xvz_20, xvz_21, xvz_22, xvz_23, xvz_24, xvz_25, xvz_26, xvz_27, xvz_28, xvz_29, xrz_20, xrz_21, xrz_22, xrz_23, xrz_24, xrz_25, xrz_26, xrz_27, xrz_28, xrz_29, xdz_20, xdz_21, xdz_22, xdz_23, xdz_24, xdz_25, xdz_26, xdz_27, xdz_28, xdz_29, xlen, xcat, xc1, Nat.zero_le, Nat.reduceLeDiff, List.length_cons, List.length_nil]
      refine yru_ok hC [372] 4 _ _ _ _ ?_
      simp only [ykk_ap, Int.reduceEq, Int.reduceLT, Int.reduceLE, Int.reduceNeg, Int.reduceAdd, Int.reduceSub, Int.reduceMul, and_self, false_and, and_false, not_true_eq_false, not_false_eq_true, true_implies, false_implies, xq0, xq1, xq2, xq3, xq4, xq5, xqR, xq1R, xq3R, xt1, xt2, xt3, List.mem_cons, List.not_mem_nil, or_false, false_or, or_self, if_false, if_true, reduceIte, reduceCtorEq, xent, xen, List.length_cons, List.length_nil, List.replicate, j_c, j_cJ, j_ild, j_ald, j_lld, j_ist, j_ast, j_lst, j_inc, j_add, j_sub, j_mul, j_neg, j_div, j_rem, j_and, j_shr, j_shl1, j_or, j_ladd, j_lsub, j_lmul, j_i2l, j_lcmp, j_i2c, j_dup, j_dup2, j_pop, j_goto, j_ieq, j_ine, j_ilt, j_ige, j_igt, j_ile, j_eq, j_ne, j_lt, j_ge, j_gt, j_le, xsw, j_tsw, j_gI, j_gJ, j_gR, j_pI, j_pJ, j_gs, j_iald, j_iast, j_cald, j_cast, j_aald, j_cpy, j_min, j_max, j_abs, j_iret, j_zret, j_lret, j_dret, j_ret0, j_V0, j_V1, j_V2, j_V3, j_V4, j_V5, j_S1, j_S2, j_S3, xget, xset, xset2, xclr, xc1, xcat, Nat.reduceAdd, Nat.reduceEqDiff, Nat.reduceLT, Nat.reduceLeDiff, Nat.reduceMul, List.cons_append, List.nil_append, true_and, and_true, List.singleton_append, j_lsw2, j_Sn, j_ush, j_dupx2, List.take_succ_cons, List.take_zero, List.drop_succ_cons, List.drop_zero, List.reverse_cons, List.reverse_nil, Nat.le_refl, fL_lorries_446, fL_lorries_449, xvz_20, xvz_21, xvz_22, xvz_23, xvz_24, xvz_25, xvz_26, xvz_27, xvz_28, xvz_29, xrz_20, xrz_21, xrz_22, xrz_23, xrz_24, xrz_25, xrz_26, xrz_27, xrz_28, xrz_29, xdz_20, xdz_21, xdz_22, xdz_23, xdz_24, xdz_25, xdz_26, xdz_27, xdz_28, xdz_29, xlen, xcat, xc1, Nat.zero_le, Nat.reduceLeDiff, List.length_cons, List.length_nil]
      exact hb'
end XUl

