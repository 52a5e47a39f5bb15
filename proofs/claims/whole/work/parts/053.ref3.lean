section XR4
/-- the reference's row and a film between two minutes -/
def GG (F : XM) (f : Int) (M : XM) : Prop := GZ 60 F f (M 21 0 0) ∧ fG F f
theorem GG_B {F M : XM} {f : Int} (h : GG F f M) : zB M := GZ_zB h.1 h.2.1
theorem GG_u {F M : XM} {f u : Int} (h : GG F f M) (h0 : 0 ≤ u) (h1 : u < F 1 f 0 10) : gW1 F f (M 21 0 0) u := (h.1.2.2.2.2.2.2.2.1 u h0 (by have := h.2.1.2.2.2.1; omega)).1 h1
theorem GG_9 {F M : XM} {f : Int} (h : GG F f M) : M 21 0 0 9 = F 1 f 0 10 := h.1.2.2.1.2.2.2.1
theorem GG_10 {F M : XM} {f : Int} (h : GG F f M) : M 21 0 0 10 = F 1 f 0 0 := h.1.2.2.1.2.2.2.2
theorem GG_k {F M : XM} {f k : Int} (h : GG F f M) (h0 : 0 ≤ k) (h1 : k < 3) : gK1 F f (M 21 0 0) k := h.1.2.2.2.2.2.1 k h0 h1
theorem GG_l {F M : XM} {f l : Int} (h : GG F f M) (h0 : 0 ≤ l) (h1 : l < 4) : gL1 F f (M 21 0 0) l := h.1.2.2.2.2.2.2.1 l h0 h1
theorem GG_m {F M : XM} {f j : Int} (h : GG F f M) (h0 : 0 ≤ j) (h1 : j < 7) : gM1 60 F f (M 21 0 0) j := h.1.2.2.2.2.2.2.2.2 j h0 h1
theorem GG_sOK {F M : XM} {f j : Int} (h : GG F f M) (h0 : 0 ≤ j) (h1 : j < 7) : sOK (zst M j) := GZ_sOK h.1 h.2.2.1 (by decide) h0 h1
/-- a lorry stands, or drives -/
theorem GG_st {F M : XM} {f l : Int} (h : GG F f M) (h0 : 0 ≤ l) (h1 : l < F 1 f 0 8) : (M 21 0 0 (61 + l) = 0 ∧ F 13 f l 1 = -1 ∧ F 13 f l 0 = M 21 0 0 (57 + l) ∧ 0 ≤ F 13 f l 0) ∨ (¬ M 21 0 0 (61 + l) = 0 ∧ F 13 f l 0 = -1 ∧ F 13 f l 1 = M 21 0 0 (57 + l) ∧ 0 ≤ F 13 f l 1) := by
  have c8 := h.2.1.2.2.1
  have g := GG_l h h0 (by omega)
  have q := h.2.2.2.2.1 l h0 (by omega)
  obtain ⟨g1, g2, g3, g4, g5⟩ := g
  obtain ⟨g6, g7, g8⟩ := g4 h1
  omega
theorem olF_ages {S : Int → Int} {now : Int} : ∀ (k n : Nat), (∀ a : Nat, n ≤ a → a < n + k → S (mS 0 (now - a)) = 0 ∧ S (mS 1 (now - a)) = 0 ∧ S (mS 2 (now - a)) = 0) → olF S now (n + k) = olF S now n
  | 0, _, _ => rfl
  | k + 1, n, h => by
    have q := h (n + k) (by omega) (by omega)
    rw [← Nat.add_assoc, olF, if_neg (by omega)]
    exact olF_ages k n (fun a h0 h1 => h a h0 (by omega))
theorem olR_olF {S T : Int → Int} {now : Int} (hS : sOK S) (hST : ∀ x : Int, 0 ≤ x → x < 192 → S x = T x) : ∀ n : Nat, olR S now n = olF T now n
  | 0 => rfl
  | n + 1 => by
    have q0 := sOK_in hS (d := 0) (m := now - n) (by decide) (by decide)
    have q1 := sOK_in hS (d := 1) (m := now - n) (by decide) (by decide)
    have q2 := sOK_in hS (d := 2) (m := now - n) (by decide) (by decide)
    have m0 := mS_in (d := 0) (m := now - n) (by decide) (by decide)
    have m1 := mS_in (d := 1) (m := now - n) (by decide) (by decide)
    have m2 := mS_in (d := 2) (m := now - n) (by decide) (by decide)
    have e0 := hST _ m0.1 m0.2
    have e1 := hST _ m1.1 m1.2
    have e2 := hST _ m2.1 m2.2
    simp only [olR, olF]
    by_cases g : 0 < S (mS 0 (now - n)) + S (mS 1 (now - n)) + S (mS 2 (now - n))
    · rw [if_pos g, if_pos (by omega)]
    · rw [if_neg g, if_neg (by omega), olR_olF hS hST n]
theorem zAg_eq {m : Int} (h0 : 0 ≤ m) : zAg m ≤ 64 ∧ (∀ a : Nat, zAg m ≤ a → a < 64 → m < a) := by
  unfold zAg zFst
  split <;> (refine ⟨by omega, fun a h1 h2 => by omega⟩)
theorem GG_old {F M : XM} {f j : Int} (h : GG F f M) (h0 : 0 ≤ j) (h1 : j < 7) : olR (zst M j) (M 21 0 0 10) (zAg (M 21 0 0 10)) = olF (F 11 f j) (F 1 f 0 0) 64 := by
  have hm := GG_m h h0 h1
  rw [olR_olF (GG_sOK h h0 h1) hm.1, GG_10 h]
  have c0 := h.2.1.2.2.2.2.1
  obtain ⟨z1, z2⟩ := zAg_eq c0.1
  have e : zAg (F 1 f 0 0) + (64 - zAg (F 1 f 0 0)) = 64 := by omega
  have q := olF_ages (S := F 11 f j) (now := F 1 f 0 0) (64 - zAg (F 1 f 0 0)) (zAg (F 1 f 0 0)) (fun a g0 g1 => by
    have g2 := z2 a g0 (by omega)
    exact ⟨hm.2.1 0 a (by decide) (by decide) (by omega) (by omega) (Or.inr g2), hm.2.1 1 a (by decide) (by decide) (by omega) (by omega) (Or.inr g2), hm.2.1 2 a (by decide) (by decide) (by omega) (by omega) (Or.inr g2)⟩)
  rw [e] at q
  exact q.symm
/-- UnitKitchensModel.unitNow(II)I -/
abbrev wX8_unitNow : List Cond := Cond.code yX8_unitNow cX8_unitNow 3 (some .int) :: xT
abbrev rX8_unitNow : Room := { frames := 2, cells := 0, slots := 0, locals := 43 }
def pX8_unitNow (Post : XPo) : List (Nat × XStp) := [(0, j_ald 0 1), (1, j_ild 1 1), (2, j_V1 20 sX8_works), (5, j_ne 22), (8, j_ild 2 1), (9, j_c 1 1), (10, j_c 8 2), (12, j_S3 sX8_within), (15, j_eq 22), (18, j_c (-1) 1), (19, j_goto 28), (22, j_ald 0 1), (23, j_ild 1 1), (24, j_ild 2 1), (25, j_V2 20 sX8_ofUnit), (28, j_iret Post)]
set_option maxRecDepth 100000 in
theorem aX8_unitNow (Post : XPo) : XAll rX8_unitNow cX8_unitNow 3 RX8 wX8_unitNow (some .int) Post (pX8_unitNow Post) := XAll.cons (xs_aload_n dX8_unitNow_0 rfl) (XAll.cons (xs_iload_n dX8_unitNow_1 rfl) (XAll.cons (xs_V1 kX8_works ⟨⟨rfl, rfl, by decide, by decide⟩, ⟨by decide, by decide, by decide +kernel⟩, ⟨tw_1228, tw_1230, tp_27, tw_9, tw_1231⟩, 8, TX8, _, rfl, fun G ρ f i k => ⟨_, rfl⟩⟩ dX8_unitNow_2) (XAll.cons (xs_if_ne dX8_unitNow_5 (by decide)) (XAll.cons (xs_iload_n dX8_unitNow_8 rfl) (XAll.cons (xs_iconst dX8_unitNow_9) (XAll.cons (xs_bipush dX8_unitNow_10 rfl) (XAll.cons (xs_S3 kX8_within ⟨⟨rfl, rfl, by decide, by decide⟩, ⟨by decide, by decide, by decide +kernel⟩, tw_1099, tw_1100, tw_9, tw_1101⟩ dX8_unitNow_12) (XAll.cons (xs_if_eq dX8_unitNow_15 (by decide)) (XAll.cons (xs_iconst dX8_unitNow_18) (XAll.cons (xs_goto dX8_unitNow_19 (by decide)) (XAll.cons (xs_aload_n dX8_unitNow_22 rfl) (XAll.cons (xs_iload_n dX8_unitNow_23 rfl) (XAll.cons (xs_iload_n dX8_unitNow_24 rfl) (XAll.cons (xs_V2 kX8_ofUnit ⟨⟨rfl, rfl, by decide, by decide⟩, ⟨by decide, by decide, by decide +kernel⟩, ⟨tw_1224, tw_1226, tp_26, tw_9, tw_1227⟩, 8, TX8, _, rfl, fun G ρ f i k => ⟨_, rfl⟩⟩ dX8_unitNow_25) (XAll.cons (xs_iret rfl dX8_unitNow_28) (XAll.nil))))))))))))))))
theorem fX8_unitNow_0 (Post : XPo) (cut : List Nat) (WW : XK) (n : Nat) (L : XLs) (st : List XV) (M : XM) : yru (xlk (pX8_unitNow Post)) cut WW (n + 1) 0 L st M = j_ald 0 1 0 L st M (ykk (xlk (pX8_unitNow Post)) cut WW n) := yf rfl
theorem fX8_unitNow_1 (Post : XPo) (cut : List Nat) (WW : XK) (n : Nat) (L : XLs) (st : List XV) (M : XM) : yru (xlk (pX8_unitNow Post)) cut WW (n + 1) 1 L st M = j_ild 1 1 1 L st M (ykk (xlk (pX8_unitNow Post)) cut WW n) := yf rfl
theorem fX8_unitNow_2 (Post : XPo) (cut : List Nat) (WW : XK) (n : Nat) (L : XLs) (st : List XV) (M : XM) : yru (xlk (pX8_unitNow Post)) cut WW (n + 1) 2 L st M = j_V1 20 sX8_works 2 L st M (ykk (xlk (pX8_unitNow Post)) cut WW n) := yf rfl
theorem fX8_unitNow_5 (Post : XPo) (cut : List Nat) (WW : XK) (n : Nat) (L : XLs) (st : List XV) (M : XM) : yru (xlk (pX8_unitNow Post)) cut WW (n + 1) 5 L st M = j_ne 22 5 L st M (ykk (xlk (pX8_unitNow Post)) cut WW n) := yf rfl
theorem fX8_unitNow_8 (Post : XPo) (cut : List Nat) (WW : XK) (n : Nat) (L : XLs) (st : List XV) (M : XM) : yru (xlk (pX8_unitNow Post)) cut WW (n + 1) 8 L st M = j_ild 2 1 8 L st M (ykk (xlk (pX8_unitNow Post)) cut WW n) := yf rfl
theorem fX8_unitNow_9 (Post : XPo) (cut : List Nat) (WW : XK) (n : Nat) (L : XLs) (st : List XV) (M : XM) : yru (xlk (pX8_unitNow Post)) cut WW (n + 1) 9 L st M = j_c 1 1 9 L st M (ykk (xlk (pX8_unitNow Post)) cut WW n) := yf rfl
theorem fX8_unitNow_10 (Post : XPo) (cut : List Nat) (WW : XK) (n : Nat) (L : XLs) (st : List XV) (M : XM) : yru (xlk (pX8_unitNow Post)) cut WW (n + 1) 10 L st M = j_c 8 2 10 L st M (ykk (xlk (pX8_unitNow Post)) cut WW n) := yf rfl
theorem fX8_unitNow_12 (Post : XPo) (cut : List Nat) (WW : XK) (n : Nat) (L : XLs) (st : List XV) (M : XM) : yru (xlk (pX8_unitNow Post)) cut WW (n + 1) 12 L st M = j_S3 sX8_within 12 L st M (ykk (xlk (pX8_unitNow Post)) cut WW n) := yf rfl
theorem fX8_unitNow_15 (Post : XPo) (cut : List Nat) (WW : XK) (n : Nat) (L : XLs) (st : List XV) (M : XM) : yru (xlk (pX8_unitNow Post)) cut WW (n + 1) 15 L st M = j_eq 22 15 L st M (ykk (xlk (pX8_unitNow Post)) cut WW n) := yf rfl
theorem fX8_unitNow_18 (Post : XPo) (cut : List Nat) (WW : XK) (n : Nat) (L : XLs) (st : List XV) (M : XM) : yru (xlk (pX8_unitNow Post)) cut WW (n + 1) 18 L st M = j_c (-1) 1 18 L st M (ykk (xlk (pX8_unitNow Post)) cut WW n) := yf rfl
theorem fX8_unitNow_19 (Post : XPo) (cut : List Nat) (WW : XK) (n : Nat) (L : XLs) (st : List XV) (M : XM) : yru (xlk (pX8_unitNow Post)) cut WW (n + 1) 19 L st M = j_goto 28 19 L st M (ykk (xlk (pX8_unitNow Post)) cut WW n) := yf rfl
theorem fX8_unitNow_22 (Post : XPo) (cut : List Nat) (WW : XK) (n : Nat) (L : XLs) (st : List XV) (M : XM) : yru (xlk (pX8_unitNow Post)) cut WW (n + 1) 22 L st M = j_ald 0 1 22 L st M (ykk (xlk (pX8_unitNow Post)) cut WW n) := yf rfl
theorem fX8_unitNow_23 (Post : XPo) (cut : List Nat) (WW : XK) (n : Nat) (L : XLs) (st : List XV) (M : XM) : yru (xlk (pX8_unitNow Post)) cut WW (n + 1) 23 L st M = j_ild 1 1 23 L st M (ykk (xlk (pX8_unitNow Post)) cut WW n) := yf rfl
theorem fX8_unitNow_24 (Post : XPo) (cut : List Nat) (WW : XK) (n : Nat) (L : XLs) (st : List XV) (M : XM) : yru (xlk (pX8_unitNow Post)) cut WW (n + 1) 24 L st M = j_ild 2 1 24 L st M (ykk (xlk (pX8_unitNow Post)) cut WW n) := yf rfl
theorem fX8_unitNow_25 (Post : XPo) (cut : List Nat) (WW : XK) (n : Nat) (L : XLs) (st : List XV) (M : XM) : yru (xlk (pX8_unitNow Post)) cut WW (n + 1) 25 L st M = j_V2 20 sX8_ofUnit 25 L st M (ykk (xlk (pX8_unitNow Post)) cut WW n) := yf rfl
theorem fX8_unitNow_28 (Post : XPo) (cut : List Nat) (WW : XK) (n : Nat) (L : XLs) (st : List XV) (M : XM) : yru (xlk (pX8_unitNow Post)) cut WW (n + 1) 28 L st M = j_iret Post 28 L st M (ykk (xlk (pX8_unitNow Post)) cut WW n) := yf rfl
def sX8_unitNow : XSp := xq2 20 (fun _ _ u w M Q => ∃ (F : XM) (f : Int), GG F f M ∧ ((0 ≤ u ∧ u < F 1 f 0 10) ∧ 0 ≤ w ∧ w ≤ 11) ∧ Q [xI (uProp F f u w)] M)
theorem xg_unitNow {F : XM} {f : Int} {M : XM} {Q : XPo} {u w : Int} (hG : GG F f M) (hc : (0 ≤ u ∧ u < F 1 f 0 10) ∧ 0 ≤ w ∧ w ≤ 11) (h : Q [xI (uProp F f u w)] M) : sX8_unitNow [xR 20 0 0, xI u, xI w] M Q := @id ((20 = 20 ∧ xval 20 0 0) ∧ ∃ (F : XM) (f : Int), GG F f M ∧ ((0 ≤ u ∧ u < F 1 f 0 10) ∧ 0 ≤ w ∧ w ≤ 11) ∧ Q [xI (uProp F f u w)] M) ⟨⟨rfl, xvz_20⟩, F, f, hG, hc, h⟩
set_option maxRecDepth 100000 in
theorem kX8_unitNow : XCn yX8_unitNow wX8_unitNow rX8_unitNow sX8_unitNow := XC2 pX8_unitNow rfl rfl aX8_unitNow (by decide) (fun i0 k0 u w M Post hv h WW hC => by
  obtain ⟨rfl, rfl⟩ := xk20 hv
  obtain ⟨F, f, hG, hc, h⟩ := h
  have hI := hG.1.1
  have hW := GG_u hG hc.1.1 hc.1.2
  have c10 := hG.2.1.2.2.2.1
  have u12 : u < 12 := by omega
  have w12 : w < 12 := by omega
  have r1 : XInR w := ⟨by omega, by omega⟩
  unfold gW1 at hW
  obtain ⟨e0, e1, e9, e10, e11, -, hw, -⟩ := hW
  have r0 : XInR (F 14 f u 0) := by rw [← e0]; exact hI _ (by unfold zJ; omega)
  unfold uProp at h
  show WW 0 [some (xR 20 0 0), some (xI u), some (xI w)] [] M
  refine yru_ok hC [] 60 _ _ _ _ ?_
  simp only [ykk_ap, Int.reduceEq, Int.reduceLT, Int.reduceLE, Int.reduceNeg, Int.reduceAdd, Int.reduceSub, Int.reduceMul, and_self, false_and, and_false, not_true_eq_false, not_false_eq_true, true_implies, false_implies, xq0, xq1, xq2, xq3, xq4, xq5, xqR, xq1R, xq3R, xt1, xt2, xt3, List.mem_cons, List.not_mem_nil, or_false, false_or, or_self, if_false, if_true, reduceIte, reduceCtorEq, xent, xen, List.length_cons, List.length_nil, List.replicate, j_c, j_cJ, j_ild, j_ald, j_lld, j_ist, j_ast, j_lst, j_inc, j_add, j_sub, j_mul, j_neg, j_div, j_rem, j_and, j_shr, j_shl1, j_or, j_ladd, j_lsub, j_lmul, j_i2l, j_lcmp, j_i2c, j_dup, j_dup2, j_pop, j_goto, j_ieq, j_ine, j_ilt, j_ige, j_igt, j_ile, j_eq, j_ne, j_lt, j_ge, j_gt, j_le, xsw, j_tsw, j_lsw2, j_gI, j_gJ, j_gR, j_pI, j_pJ, j_gs, j_iald, j_iast, j_cald, j_cast, j_lald, j_last, j_aald, j_cpy, j_min, j_max, j_abs, j_iret, j_zret, j_lret, j_dret, j_ret0, j_V0, j_V1, j_V2, j_V3, j_V4, j_V5, j_S1, j_S2, j_S3, xget, xset, xset2, xclr, xc1, xcat, Nat.reduceAdd, Nat.reduceEqDiff, Nat.reduceLT, Nat.reduceLeDiff, Nat.reduceMul, List.cons_append, List.nil_append, true_and, and_true, List.singleton_append, fX8_unitNow_0, fX8_unitNow_1, fX8_unitNow_2, fX8_unitNow_5, fX8_unitNow_8, fX8_unitNow_9, fX8_unitNow_10, fX8_unitNow_12, fX8_unitNow_15, fX8_unitNow_18, fX8_unitNow_19, fX8_unitNow_22, fX8_unitNow_23, fX8_unitNow_24, fX8_unitNow_25, fX8_unitNow_28, sX8_works, sX8_within, sX8_ofUnit, xvz_20, xvz_21, xrz_21, xdz_21, xlen, xcat, xc1, Nat.zero_le, Nat.reduceLeDiff, hI, e0, r0, r1, hc, u12, w12, xr_c (n := 0) rfl, xr_c (n := 1) rfl, xr_c (n := 8) rfl]
  by_cases hs : F 14 f u 0 = 0
  · refine ⟨fun _ => ?_, fun g => absurd hs g⟩
    rw [if_neg (fun z => z.1 hs)] at h
    have e : M 21 0 0 (73 + 12 * u + w) = F 14 f u w := by
      rcases (show w = 0 ∨ w = 1 ∨ w = 9 ∨ w = 10 ∨ w = 11 ∨ (2 ≤ w ∧ w ≤ 8) by omega) with rfl | rfl | rfl | rfl | rfl | q
      · exact e0
      · exact e1
      · exact e9
      · exact e10
      · exact e11
      · exact (hw hs).1 w q.1 q.2
    rw [e]
    exact h
  · refine ⟨fun g => absurd g hs, fun _ => ⟨fun g => ?_, fun g => ?_⟩⟩
    · rw [if_pos ⟨hs, g.1, g.2⟩] at h
      exact h
    · rw [if_neg (fun z => g z.2)] at h
      have e : M 21 0 0 (73 + 12 * u + w) = F 14 f u w := by
        rcases (show w = 0 ∨ w = 9 ∨ w = 10 ∨ w = 11 by omega) with rfl | rfl | rfl | rfl
        · exact e0
        · exact e9
        · exact e10
        · exact e11
      rw [e]
      exact h)
/-- UnitKitchensModel.kitchenNow(II)I -/
abbrev wX8_kitchenNow : List Cond := Cond.code yX8_kitchenNow cX8_kitchenNow 3 (some .int) :: xT
abbrev rX8_kitchenNow : Room := { frames := 2, cells := 0, slots := 0, locals := 44 }
def pX8_kitchenNow (Post : XPo) : List (Nat × XStp) := [(0, j_ild 2 1), (1, j_tsw 0 [60, 70, 70, 70, 86, 112, 122, 122, 122, 132, 138] 10 148), (60, j_ald 0 1), (61, j_gR 20 (fun i k => (21, 0, 0))), (64, j_c 33 2), (66, j_ild 1 1), (67, j_add), (68, j_iald), (69, j_iret Post), (70, j_ald 0 1), (71, j_gR 20 (fun i k => (21, 0, 0))), (74, j_c 36 2), (76, j_c 3 1), (77, j_ild 1 1), (78, j_mul), (79, j_add), (80, j_ild 2 1), (81, j_add), (82, j_c 1 1), (83, j_sub), (84, j_iald), (85, j_iret Post), (86, j_ald 0 1), (87, j_gR 20 (fun i k => (21, 0, 0))), (90, j_c 48 2), (92, j_ild 1 1), (93, j_add), (94, j_iald), (95, j_ne 102), (98, j_c (-1) 1), (99, j_goto 111), (102, j_ald 0 1), (103, j_gR 20 (fun i k => (21, 0, 0))), (106, j_c 45 2), (108, j_ild 1 1), (109, j_add), (110, j_iald), (111, j_iret Post), (112, j_ald 0 1), (113, j_gR 20 (fun i k => (21, 0, 0))), (116, j_c 48 2), (118, j_ild 1 1), (119, j_add), (120, j_iald), (121, j_iret Post), (122, j_ald 0 1), (123, j_ild 1 1), (124, j_ild 2 1), (125, j_c 6 2), (127, j_sub), (128, j_V2 20 sX8_mealsIn), (131, j_iret Post), (132, j_ald 0 1), (133, j_ild 1 1), (134, j_V1 20 sX8_oldestIn), (137, j_iret Post), (138, j_ald 0 1), (139, j_gR 20 (fun i k => (21, 0, 0))), (142, j_c 51 2), (144, j_ild 1 1), (145, j_add), (146, j_iald), (147, j_iret Post), (148, j_ald 0 1), (149, j_gR 20 (fun i k => (21, 0, 0))), (152, j_c 54 2), (154, j_ild 1 1), (155, j_add), (156, j_iald), (157, j_iret Post)]
set_option maxRecDepth 100000 in
theorem aX8_kitchenNow (Post : XPo) : XAll rX8_kitchenNow cX8_kitchenNow 3 RX8 wX8_kitchenNow (some .int) Post (pX8_kitchenNow Post) := XAll.cons (xs_iload_n dX8_kitchenNow_0 rfl) (XAll.cons (xs_tsw dX8_kitchenNow_1 (by decide) (by decide) (fun j hj => by rcases (show j = 0 ∨ j = 1 ∨ j = 2 ∨ j = 3 ∨ j = 4 ∨ j = 5 ∨ j = 6 ∨ j = 7 ∨ j = 8 ∨ j = 9 ∨ j = 10 by simp only [List.length_cons, List.length_nil] at hj; omega) with rfl | rfl | rfl | rfl | rfl | rfl | rfl | rfl | rfl | rfl | rfl <;> exact ⟨_, _, rfl, rfl, by decide⟩)) (XAll.cons (xs_aload_n dX8_kitchenNow_60 rfl) (XAll.cons (fgX8_0 tw_1048 dX8_kitchenNow_61) (XAll.cons (xs_bipush dX8_kitchenNow_64 rfl) (XAll.cons (xs_iload_n dX8_kitchenNow_66 rfl) (XAll.cons (xs_iadd dX8_kitchenNow_67) (XAll.cons (xs_iald dX8_kitchenNow_68) (XAll.cons (xs_iret rfl dX8_kitchenNow_69) (XAll.cons (xs_aload_n dX8_kitchenNow_70 rfl) (XAll.cons (fgX8_0 tw_1048 dX8_kitchenNow_71) (XAll.cons (xs_bipush dX8_kitchenNow_74 rfl) (XAll.cons (xs_iconst dX8_kitchenNow_76) (XAll.cons (xs_iload_n dX8_kitchenNow_77 rfl) (XAll.cons (xs_imul dX8_kitchenNow_78) (XAll.cons (xs_iadd dX8_kitchenNow_79) (XAll.cons (xs_iload_n dX8_kitchenNow_80 rfl) (XAll.cons (xs_iadd dX8_kitchenNow_81) (XAll.cons (xs_iconst dX8_kitchenNow_82) (XAll.cons (xs_isub dX8_kitchenNow_83) (XAll.cons (xs_iald dX8_kitchenNow_84) (XAll.cons (xs_iret rfl dX8_kitchenNow_85) (XAll.cons (xs_aload_n dX8_kitchenNow_86 rfl) (XAll.cons (fgX8_0 tw_1048 dX8_kitchenNow_87) (XAll.cons (xs_bipush dX8_kitchenNow_90 rfl) (XAll.cons (xs_iload_n dX8_kitchenNow_92 rfl) (XAll.cons (xs_iadd dX8_kitchenNow_93) (XAll.cons (xs_iald dX8_kitchenNow_94) (XAll.cons (xs_if_ne dX8_kitchenNow_95 (by decide)) (XAll.cons (xs_iconst dX8_kitchenNow_98) (XAll.cons (xs_goto dX8_kitchenNow_99 (by decide)) (XAll.cons (xs_aload_n dX8_kitchenNow_102 rfl) (XAll.cons (fgX8_0 tw_1048 dX8_kitchenNow_103) (XAll.cons (xs_bipush dX8_kitchenNow_106 rfl) (XAll.cons (xs_iload_n dX8_kitchenNow_108 rfl) (XAll.cons (xs_iadd dX8_kitchenNow_109) (XAll.cons (xs_iald dX8_kitchenNow_110) (XAll.cons (xs_iret rfl dX8_kitchenNow_111) (XAll.cons (xs_aload_n dX8_kitchenNow_112 rfl) (XAll.cons (fgX8_0 tw_1048 dX8_kitchenNow_113) (XAll.cons (xs_bipush dX8_kitchenNow_116 rfl) (XAll.cons (xs_iload_n dX8_kitchenNow_118 rfl) (XAll.cons (xs_iadd dX8_kitchenNow_119) (XAll.cons (xs_iald dX8_kitchenNow_120) (XAll.cons (xs_iret rfl dX8_kitchenNow_121) (XAll.cons (xs_aload_n dX8_kitchenNow_122 rfl) (XAll.cons (xs_iload_n dX8_kitchenNow_123 rfl) (XAll.cons (xs_iload_n dX8_kitchenNow_124 rfl) (XAll.cons (xs_bipush dX8_kitchenNow_125 rfl) (XAll.cons (xs_isub dX8_kitchenNow_127) (XAll.cons (xs_V2 kX8_mealsIn ⟨⟨rfl, rfl, by decide, by decide⟩, ⟨by decide, by decide, by decide +kernel⟩, ⟨tw_1166, tw_1168, tp_17, tw_9, tw_1169⟩, 8, TX8, _, rfl, fun G ρ f i k => ⟨_, rfl⟩⟩ dX8_kitchenNow_128) (XAll.cons (xs_iret rfl dX8_kitchenNow_131) (XAll.cons (xs_aload_n dX8_kitchenNow_132 rfl) (XAll.cons (xs_iload_n dX8_kitchenNow_133 rfl) (XAll.cons (xs_V1 kX8_oldestIn ⟨⟨rfl, rfl, by decide, by decide⟩, ⟨by decide, by decide, by decide +kernel⟩, ⟨tw_1384, tw_1386, tp_53, tw_9, tw_1387⟩, 8, TX8, _, rfl, fun G ρ f i k => ⟨_, rfl⟩⟩ dX8_kitchenNow_134) (XAll.cons (xs_iret rfl dX8_kitchenNow_137) (XAll.cons (xs_aload_n dX8_kitchenNow_138 rfl) (XAll.cons (fgX8_0 tw_1048 dX8_kitchenNow_139) (XAll.cons (xs_bipush dX8_kitchenNow_142 rfl) (XAll.cons (xs_iload_n dX8_kitchenNow_144 rfl) (XAll.cons (xs_iadd dX8_kitchenNow_145) (XAll.cons (xs_iald dX8_kitchenNow_146) (XAll.cons (xs_iret rfl dX8_kitchenNow_147) (XAll.cons (xs_aload_n dX8_kitchenNow_148 rfl) (XAll.cons (fgX8_0 tw_1048 dX8_kitchenNow_149) (XAll.cons (xs_bipush dX8_kitchenNow_152 rfl) (XAll.cons (xs_iload_n dX8_kitchenNow_154 rfl) (XAll.cons (xs_iadd dX8_kitchenNow_155) (XAll.cons (xs_iald dX8_kitchenNow_156) (XAll.cons (xs_iret rfl dX8_kitchenNow_157) (XAll.nil))))))))))))))))))))))))))))))))))))))))))))))))))))))))))))))))))))))
theorem fX8_kitchenNow_0 (Post : XPo) (cut : List Nat) (WW : XK) (n : Nat) (L : XLs) (st : List XV) (M : XM) : yru (xlk (pX8_kitchenNow Post)) cut WW (n + 1) 0 L st M = j_ild 2 1 0 L st M (ykk (xlk (pX8_kitchenNow Post)) cut WW n) := yf rfl
theorem fX8_kitchenNow_1 (Post : XPo) (cut : List Nat) (WW : XK) (n : Nat) (L : XLs) (st : List XV) (M : XM) : yru (xlk (pX8_kitchenNow Post)) cut WW (n + 1) 1 L st M = j_tsw 0 [60, 70, 70, 70, 86, 112, 122, 122, 122, 132, 138] 10 148 1 L st M (ykk (xlk (pX8_kitchenNow Post)) cut WW n) := yf rfl
theorem fX8_kitchenNow_60 (Post : XPo) (cut : List Nat) (WW : XK) (n : Nat) (L : XLs) (st : List XV) (M : XM) : yru (xlk (pX8_kitchenNow Post)) cut WW (n + 1) 60 L st M = j_ald 0 1 60 L st M (ykk (xlk (pX8_kitchenNow Post)) cut WW n) := yf rfl
theorem fX8_kitchenNow_61 (Post : XPo) (cut : List Nat) (WW : XK) (n : Nat) (L : XLs) (st : List XV) (M : XM) : yru (xlk (pX8_kitchenNow Post)) cut WW (n + 1) 61 L st M = j_gR 20 (fun i k => (21, 0, 0)) 61 L st M (ykk (xlk (pX8_kitchenNow Post)) cut WW n) := yf rfl
theorem fX8_kitchenNow_64 (Post : XPo) (cut : List Nat) (WW : XK) (n : Nat) (L : XLs) (st : List XV) (M : XM) : yru (xlk (pX8_kitchenNow Post)) cut WW (n + 1) 64 L st M = j_c 33 2 64 L st M (ykk (xlk (pX8_kitchenNow Post)) cut WW n) := yf rfl
theorem fX8_kitchenNow_66 (Post : XPo) (cut : List Nat) (WW : XK) (n : Nat) (L : XLs) (st : List XV) (M : XM) : yru (xlk (pX8_kitchenNow Post)) cut WW (n + 1) 66 L st M = j_ild 1 1 66 L st M (ykk (xlk (pX8_kitchenNow Post)) cut WW n) := yf rfl
theorem fX8_kitchenNow_67 (Post : XPo) (cut : List Nat) (WW : XK) (n : Nat) (L : XLs) (st : List XV) (M : XM) : yru (xlk (pX8_kitchenNow Post)) cut WW (n + 1) 67 L st M = j_add 67 L st M (ykk (xlk (pX8_kitchenNow Post)) cut WW n) := yf rfl
theorem fX8_kitchenNow_68 (Post : XPo) (cut : List Nat) (WW : XK) (n : Nat) (L : XLs) (st : List XV) (M : XM) : yru (xlk (pX8_kitchenNow Post)) cut WW (n + 1) 68 L st M = j_iald 68 L st M (ykk (xlk (pX8_kitchenNow Post)) cut WW n) := yf rfl
theorem fX8_kitchenNow_69 (Post : XPo) (cut : List Nat) (WW : XK) (n : Nat) (L : XLs) (st : List XV) (M : XM) : yru (xlk (pX8_kitchenNow Post)) cut WW (n + 1) 69 L st M = j_iret Post 69 L st M (ykk (xlk (pX8_kitchenNow Post)) cut WW n) := yf rfl
theorem fX8_kitchenNow_70 (Post : XPo) (cut : List Nat) (WW : XK) (n : Nat) (L : XLs) (st : List XV) (M : XM) : yru (xlk (pX8_kitchenNow Post)) cut WW (n + 1) 70 L st M = j_ald 0 1 70 L st M (ykk (xlk (pX8_kitchenNow Post)) cut WW n) := yf rfl
theorem fX8_kitchenNow_71 (Post : XPo) (cut : List Nat) (WW : XK) (n : Nat) (L : XLs) (st : List XV) (M : XM) : yru (xlk (pX8_kitchenNow Post)) cut WW (n + 1) 71 L st M = j_gR 20 (fun i k => (21, 0, 0)) 71 L st M (ykk (xlk (pX8_kitchenNow Post)) cut WW n) := yf rfl
theorem fX8_kitchenNow_74 (Post : XPo) (cut : List Nat) (WW : XK) (n : Nat) (L : XLs) (st : List XV) (M : XM) : yru (xlk (pX8_kitchenNow Post)) cut WW (n + 1) 74 L st M = j_c 36 2 74 L st M (ykk (xlk (pX8_kitchenNow Post)) cut WW n) := yf rfl
theorem fX8_kitchenNow_76 (Post : XPo) (cut : List Nat) (WW : XK) (n : Nat) (L : XLs) (st : List XV) (M : XM) : yru (xlk (pX8_kitchenNow Post)) cut WW (n + 1) 76 L st M = j_c 3 1 76 L st M (ykk (xlk (pX8_kitchenNow Post)) cut WW n) := yf rfl
theorem fX8_kitchenNow_77 (Post : XPo) (cut : List Nat) (WW : XK) (n : Nat) (L : XLs) (st : List XV) (M : XM) : yru (xlk (pX8_kitchenNow Post)) cut WW (n + 1) 77 L st M = j_ild 1 1 77 L st M (ykk (xlk (pX8_kitchenNow Post)) cut WW n) := yf rfl
theorem fX8_kitchenNow_78 (Post : XPo) (cut : List Nat) (WW : XK) (n : Nat) (L : XLs) (st : List XV) (M : XM) : yru (xlk (pX8_kitchenNow Post)) cut WW (n + 1) 78 L st M = j_mul 78 L st M (ykk (xlk (pX8_kitchenNow Post)) cut WW n) := yf rfl
theorem fX8_kitchenNow_79 (Post : XPo) (cut : List Nat) (WW : XK) (n : Nat) (L : XLs) (st : List XV) (M : XM) : yru (xlk (pX8_kitchenNow Post)) cut WW (n + 1) 79 L st M = j_add 79 L st M (ykk (xlk (pX8_kitchenNow Post)) cut WW n) := yf rfl
theorem fX8_kitchenNow_80 (Post : XPo) (cut : List Nat) (WW : XK) (n : Nat) (L : XLs) (st : List XV) (M : XM) : yru (xlk (pX8_kitchenNow Post)) cut WW (n + 1) 80 L st M = j_ild 2 1 80 L st M (ykk (xlk (pX8_kitchenNow Post)) cut WW n) := yf rfl
theorem fX8_kitchenNow_81 (Post : XPo) (cut : List Nat) (WW : XK) (n : Nat) (L : XLs) (st : List XV) (M : XM) : yru (xlk (pX8_kitchenNow Post)) cut WW (n + 1) 81 L st M = j_add 81 L st M (ykk (xlk (pX8_kitchenNow Post)) cut WW n) := yf rfl
theorem fX8_kitchenNow_82 (Post : XPo) (cut : List Nat) (WW : XK) (n : Nat) (L : XLs) (st : List XV) (M : XM) : yru (xlk (pX8_kitchenNow Post)) cut WW (n + 1) 82 L st M = j_c 1 1 82 L st M (ykk (xlk (pX8_kitchenNow Post)) cut WW n) := yf rfl
theorem fX8_kitchenNow_83 (Post : XPo) (cut : List Nat) (WW : XK) (n : Nat) (L : XLs) (st : List XV) (M : XM) : yru (xlk (pX8_kitchenNow Post)) cut WW (n + 1) 83 L st M = j_sub 83 L st M (ykk (xlk (pX8_kitchenNow Post)) cut WW n) := yf rfl
theorem fX8_kitchenNow_84 (Post : XPo) (cut : List Nat) (WW : XK) (n : Nat) (L : XLs) (st : List XV) (M : XM) : yru (xlk (pX8_kitchenNow Post)) cut WW (n + 1) 84 L st M = j_iald 84 L st M (ykk (xlk (pX8_kitchenNow Post)) cut WW n) := yf rfl
theorem fX8_kitchenNow_85 (Post : XPo) (cut : List Nat) (WW : XK) (n : Nat) (L : XLs) (st : List XV) (M : XM) : yru (xlk (pX8_kitchenNow Post)) cut WW (n + 1) 85 L st M = j_iret Post 85 L st M (ykk (xlk (pX8_kitchenNow Post)) cut WW n) := yf rfl
theorem fX8_kitchenNow_86 (Post : XPo) (cut : List Nat) (WW : XK) (n : Nat) (L : XLs) (st : List XV) (M : XM) : yru (xlk (pX8_kitchenNow Post)) cut WW (n + 1) 86 L st M = j_ald 0 1 86 L st M (ykk (xlk (pX8_kitchenNow Post)) cut WW n) := yf rfl
theorem fX8_kitchenNow_87 (Post : XPo) (cut : List Nat) (WW : XK) (n : Nat) (L : XLs) (st : List XV) (M : XM) : yru (xlk (pX8_kitchenNow Post)) cut WW (n + 1) 87 L st M = j_gR 20 (fun i k => (21, 0, 0)) 87 L st M (ykk (xlk (pX8_kitchenNow Post)) cut WW n) := yf rfl
theorem fX8_kitchenNow_90 (Post : XPo) (cut : List Nat) (WW : XK) (n : Nat) (L : XLs) (st : List XV) (M : XM) : yru (xlk (pX8_kitchenNow Post)) cut WW (n + 1) 90 L st M = j_c 48 2 90 L st M (ykk (xlk (pX8_kitchenNow Post)) cut WW n) := yf rfl
theorem fX8_kitchenNow_92 (Post : XPo) (cut : List Nat) (WW : XK) (n : Nat) (L : XLs) (st : List XV) (M : XM) : yru (xlk (pX8_kitchenNow Post)) cut WW (n + 1) 92 L st M = j_ild 1 1 92 L st M (ykk (xlk (pX8_kitchenNow Post)) cut WW n) := yf rfl
theorem fX8_kitchenNow_93 (Post : XPo) (cut : List Nat) (WW : XK) (n : Nat) (L : XLs) (st : List XV) (M : XM) : yru (xlk (pX8_kitchenNow Post)) cut WW (n + 1) 93 L st M = j_add 93 L st M (ykk (xlk (pX8_kitchenNow Post)) cut WW n) := yf rfl
theorem fX8_kitchenNow_94 (Post : XPo) (cut : List Nat) (WW : XK) (n : Nat) (L : XLs) (st : List XV) (M : XM) : yru (xlk (pX8_kitchenNow Post)) cut WW (n + 1) 94 L st M = j_iald 94 L st M (ykk (xlk (pX8_kitchenNow Post)) cut WW n) := yf rfl
theorem fX8_kitchenNow_95 (Post : XPo) (cut : List Nat) (WW : XK) (n : Nat) (L : XLs) (st : List XV) (M : XM) : yru (xlk (pX8_kitchenNow Post)) cut WW (n + 1) 95 L st M = j_ne 102 95 L st M (ykk (xlk (pX8_kitchenNow Post)) cut WW n) := yf rfl
theorem fX8_kitchenNow_98 (Post : XPo) (cut : List Nat) (WW : XK) (n : Nat) (L : XLs) (st : List XV) (M : XM) : yru (xlk (pX8_kitchenNow Post)) cut WW (n + 1) 98 L st M = j_c (-1) 1 98 L st M (ykk (xlk (pX8_kitchenNow Post)) cut WW n) := yf rfl
theorem fX8_kitchenNow_99 (Post : XPo) (cut : List Nat) (WW : XK) (n : Nat) (L : XLs) (st : List XV) (M : XM) : yru (xlk (pX8_kitchenNow Post)) cut WW (n + 1) 99 L st M = j_goto 111 99 L st M (ykk (xlk (pX8_kitchenNow Post)) cut WW n) := yf rfl
theorem fX8_kitchenNow_102 (Post : XPo) (cut : List Nat) (WW : XK) (n : Nat) (L : XLs) (st : List XV) (M : XM) : yru (xlk (pX8_kitchenNow Post)) cut WW (n + 1) 102 L st M = j_ald 0 1 102 L st M (ykk (xlk (pX8_kitchenNow Post)) cut WW n) := yf rfl
theorem fX8_kitchenNow_103 (Post : XPo) (cut : List Nat) (WW : XK) (n : Nat) (L : XLs) (st : List XV) (M : XM) : yru (xlk (pX8_kitchenNow Post)) cut WW (n + 1) 103 L st M = j_gR 20 (fun i k => (21, 0, 0)) 103 L st M (ykk (xlk (pX8_kitchenNow Post)) cut WW n) := yf rfl
theorem fX8_kitchenNow_106 (Post : XPo) (cut : List Nat) (WW : XK) (n : Nat) (L : XLs) (st : List XV) (M : XM) : yru (xlk (pX8_kitchenNow Post)) cut WW (n + 1) 106 L st M = j_c 45 2 106 L st M (ykk (xlk (pX8_kitchenNow Post)) cut WW n) := yf rfl
theorem fX8_kitchenNow_108 (Post : XPo) (cut : List Nat) (WW : XK) (n : Nat) (L : XLs) (st : List XV) (M : XM) : yru (xlk (pX8_kitchenNow Post)) cut WW (n + 1) 108 L st M = j_ild 1 1 108 L st M (ykk (xlk (pX8_kitchenNow Post)) cut WW n) := yf rfl
theorem fX8_kitchenNow_109 (Post : XPo) (cut : List Nat) (WW : XK) (n : Nat) (L : XLs) (st : List XV) (M : XM) : yru (xlk (pX8_kitchenNow Post)) cut WW (n + 1) 109 L st M = j_add 109 L st M (ykk (xlk (pX8_kitchenNow Post)) cut WW n) := yf rfl
theorem fX8_kitchenNow_110 (Post : XPo) (cut : List Nat) (WW : XK) (n : Nat) (L : XLs) (st : List XV) (M : XM) : yru (xlk (pX8_kitchenNow Post)) cut WW (n + 1) 110 L st M = j_iald 110 L st M (ykk (xlk (pX8_kitchenNow Post)) cut WW n) := yf rfl
theorem fX8_kitchenNow_111 (Post : XPo) (cut : List Nat) (WW : XK) (n : Nat) (L : XLs) (st : List XV) (M : XM) : yru (xlk (pX8_kitchenNow Post)) cut WW (n + 1) 111 L st M = j_iret Post 111 L st M (ykk (xlk (pX8_kitchenNow Post)) cut WW n) := yf rfl
theorem fX8_kitchenNow_112 (Post : XPo) (cut : List Nat) (WW : XK) (n : Nat) (L : XLs) (st : List XV) (M : XM) : yru (xlk (pX8_kitchenNow Post)) cut WW (n + 1) 112 L st M = j_ald 0 1 112 L st M (ykk (xlk (pX8_kitchenNow Post)) cut WW n) := yf rfl
theorem fX8_kitchenNow_113 (Post : XPo) (cut : List Nat) (WW : XK) (n : Nat) (L : XLs) (st : List XV) (M : XM) : yru (xlk (pX8_kitchenNow Post)) cut WW (n + 1) 113 L st M = j_gR 20 (fun i k => (21, 0, 0)) 113 L st M (ykk (xlk (pX8_kitchenNow Post)) cut WW n) := yf rfl
theorem fX8_kitchenNow_116 (Post : XPo) (cut : List Nat) (WW : XK) (n : Nat) (L : XLs) (st : List XV) (M : XM) : yru (xlk (pX8_kitchenNow Post)) cut WW (n + 1) 116 L st M = j_c 48 2 116 L st M (ykk (xlk (pX8_kitchenNow Post)) cut WW n) := yf rfl
theorem fX8_kitchenNow_118 (Post : XPo) (cut : List Nat) (WW : XK) (n : Nat) (L : XLs) (st : List XV) (M : XM) : yru (xlk (pX8_kitchenNow Post)) cut WW (n + 1) 118 L st M = j_ild 1 1 118 L st M (ykk (xlk (pX8_kitchenNow Post)) cut WW n) := yf rfl
theorem fX8_kitchenNow_119 (Post : XPo) (cut : List Nat) (WW : XK) (n : Nat) (L : XLs) (st : List XV) (M : XM) : yru (xlk (pX8_kitchenNow Post)) cut WW (n + 1) 119 L st M = j_add 119 L st M (ykk (xlk (pX8_kitchenNow Post)) cut WW n) := yf rfl
theorem fX8_kitchenNow_120 (Post : XPo) (cut : List Nat) (WW : XK) (n : Nat) (L : XLs) (st : List XV) (M : XM) : yru (xlk (pX8_kitchenNow Post)) cut WW (n + 1) 120 L st M = j_iald 120 L st M (ykk (xlk (pX8_kitchenNow Post)) cut WW n) := yf rfl
theorem fX8_kitchenNow_121 (Post : XPo) (cut : List Nat) (WW : XK) (n : Nat) (L : XLs) (st : List XV) (M : XM) : yru (xlk (pX8_kitchenNow Post)) cut WW (n + 1) 121 L st M = j_iret Post 121 L st M (ykk (xlk (pX8_kitchenNow Post)) cut WW n) := yf rfl
theorem fX8_kitchenNow_122 (Post : XPo) (cut : List Nat) (WW : XK) (n : Nat) (L : XLs) (st : List XV) (M : XM) : yru (xlk (pX8_kitchenNow Post)) cut WW (n + 1) 122 L st M = j_ald 0 1 122 L st M (ykk (xlk (pX8_kitchenNow Post)) cut WW n) := yf rfl
theorem fX8_kitchenNow_123 (Post : XPo) (cut : List Nat) (WW : XK) (n : Nat) (L : XLs) (st : List XV) (M : XM) : yru (xlk (pX8_kitchenNow Post)) cut WW (n + 1) 123 L st M = j_ild 1 1 123 L st M (ykk (xlk (pX8_kitchenNow Post)) cut WW n) := yf rfl
theorem fX8_kitchenNow_124 (Post : XPo) (cut : List Nat) (WW : XK) (n : Nat) (L : XLs) (st : List XV) (M : XM) : yru (xlk (pX8_kitchenNow Post)) cut WW (n + 1) 124 L st M = j_ild 2 1 124 L st M (ykk (xlk (pX8_kitchenNow Post)) cut WW n) := yf rfl
theorem fX8_kitchenNow_125 (Post : XPo) (cut : List Nat) (WW : XK) (n : Nat) (L : XLs) (st : List XV) (M : XM) : yru (xlk (pX8_kitchenNow Post)) cut WW (n + 1) 125 L st M = j_c 6 2 125 L st M (ykk (xlk (pX8_kitchenNow Post)) cut WW n) := yf rfl
theorem fX8_kitchenNow_127 (Post : XPo) (cut : List Nat) (WW : XK) (n : Nat) (L : XLs) (st : List XV) (M : XM) : yru (xlk (pX8_kitchenNow Post)) cut WW (n + 1) 127 L st M = j_sub 127 L st M (ykk (xlk (pX8_kitchenNow Post)) cut WW n) := yf rfl
theorem fX8_kitchenNow_128 (Post : XPo) (cut : List Nat) (WW : XK) (n : Nat) (L : XLs) (st : List XV) (M : XM) : yru (xlk (pX8_kitchenNow Post)) cut WW (n + 1) 128 L st M = j_V2 20 sX8_mealsIn 128 L st M (ykk (xlk (pX8_kitchenNow Post)) cut WW n) := yf rfl
theorem fX8_kitchenNow_131 (Post : XPo) (cut : List Nat) (WW : XK) (n : Nat) (L : XLs) (st : List XV) (M : XM) : yru (xlk (pX8_kitchenNow Post)) cut WW (n + 1) 131 L st M = j_iret Post 131 L st M (ykk (xlk (pX8_kitchenNow Post)) cut WW n) := yf rfl
theorem fX8_kitchenNow_132 (Post : XPo) (cut : List Nat) (WW : XK) (n : Nat) (L : XLs) (st : List XV) (M : XM) : yru (xlk (pX8_kitchenNow Post)) cut WW (n + 1) 132 L st M = j_ald 0 1 132 L st M (ykk (xlk (pX8_kitchenNow Post)) cut WW n) := yf rfl
theorem fX8_kitchenNow_133 (Post : XPo) (cut : List Nat) (WW : XK) (n : Nat) (L : XLs) (st : List XV) (M : XM) : yru (xlk (pX8_kitchenNow Post)) cut WW (n + 1) 133 L st M = j_ild 1 1 133 L st M (ykk (xlk (pX8_kitchenNow Post)) cut WW n) := yf rfl
theorem fX8_kitchenNow_134 (Post : XPo) (cut : List Nat) (WW : XK) (n : Nat) (L : XLs) (st : List XV) (M : XM) : yru (xlk (pX8_kitchenNow Post)) cut WW (n + 1) 134 L st M = j_V1 20 sX8_oldestIn 134 L st M (ykk (xlk (pX8_kitchenNow Post)) cut WW n) := yf rfl
theorem fX8_kitchenNow_137 (Post : XPo) (cut : List Nat) (WW : XK) (n : Nat) (L : XLs) (st : List XV) (M : XM) : yru (xlk (pX8_kitchenNow Post)) cut WW (n + 1) 137 L st M = j_iret Post 137 L st M (ykk (xlk (pX8_kitchenNow Post)) cut WW n) := yf rfl
theorem fX8_kitchenNow_138 (Post : XPo) (cut : List Nat) (WW : XK) (n : Nat) (L : XLs) (st : List XV) (M : XM) : yru (xlk (pX8_kitchenNow Post)) cut WW (n + 1) 138 L st M = j_ald 0 1 138 L st M (ykk (xlk (pX8_kitchenNow Post)) cut WW n) := yf rfl
theorem fX8_kitchenNow_139 (Post : XPo) (cut : List Nat) (WW : XK) (n : Nat) (L : XLs) (st : List XV) (M : XM) : yru (xlk (pX8_kitchenNow Post)) cut WW (n + 1) 139 L st M = j_gR 20 (fun i k => (21, 0, 0)) 139 L st M (ykk (xlk (pX8_kitchenNow Post)) cut WW n) := yf rfl
theorem fX8_kitchenNow_142 (Post : XPo) (cut : List Nat) (WW : XK) (n : Nat) (L : XLs) (st : List XV) (M : XM) : yru (xlk (pX8_kitchenNow Post)) cut WW (n + 1) 142 L st M = j_c 51 2 142 L st M (ykk (xlk (pX8_kitchenNow Post)) cut WW n) := yf rfl
theorem fX8_kitchenNow_144 (Post : XPo) (cut : List Nat) (WW : XK) (n : Nat) (L : XLs) (st : List XV) (M : XM) : yru (xlk (pX8_kitchenNow Post)) cut WW (n + 1) 144 L st M = j_ild 1 1 144 L st M (ykk (xlk (pX8_kitchenNow Post)) cut WW n) := yf rfl
theorem fX8_kitchenNow_145 (Post : XPo) (cut : List Nat) (WW : XK) (n : Nat) (L : XLs) (st : List XV) (M : XM) : yru (xlk (pX8_kitchenNow Post)) cut WW (n + 1) 145 L st M = j_add 145 L st M (ykk (xlk (pX8_kitchenNow Post)) cut WW n) := yf rfl
theorem fX8_kitchenNow_146 (Post : XPo) (cut : List Nat) (WW : XK) (n : Nat) (L : XLs) (st : List XV) (M : XM) : yru (xlk (pX8_kitchenNow Post)) cut WW (n + 1) 146 L st M = j_iald 146 L st M (ykk (xlk (pX8_kitchenNow Post)) cut WW n) := yf rfl
theorem fX8_kitchenNow_147 (Post : XPo) (cut : List Nat) (WW : XK) (n : Nat) (L : XLs) (st : List XV) (M : XM) : yru (xlk (pX8_kitchenNow Post)) cut WW (n + 1) 147 L st M = j_iret Post 147 L st M (ykk (xlk (pX8_kitchenNow Post)) cut WW n) := yf rfl
theorem fX8_kitchenNow_148 (Post : XPo) (cut : List Nat) (WW : XK) (n : Nat) (L : XLs) (st : List XV) (M : XM) : yru (xlk (pX8_kitchenNow Post)) cut WW (n + 1) 148 L st M = j_ald 0 1 148 L st M (ykk (xlk (pX8_kitchenNow Post)) cut WW n) := yf rfl
theorem fX8_kitchenNow_149 (Post : XPo) (cut : List Nat) (WW : XK) (n : Nat) (L : XLs) (st : List XV) (M : XM) : yru (xlk (pX8_kitchenNow Post)) cut WW (n + 1) 149 L st M = j_gR 20 (fun i k => (21, 0, 0)) 149 L st M (ykk (xlk (pX8_kitchenNow Post)) cut WW n) := yf rfl
theorem fX8_kitchenNow_152 (Post : XPo) (cut : List Nat) (WW : XK) (n : Nat) (L : XLs) (st : List XV) (M : XM) : yru (xlk (pX8_kitchenNow Post)) cut WW (n + 1) 152 L st M = j_c 54 2 152 L st M (ykk (xlk (pX8_kitchenNow Post)) cut WW n) := yf rfl
theorem fX8_kitchenNow_154 (Post : XPo) (cut : List Nat) (WW : XK) (n : Nat) (L : XLs) (st : List XV) (M : XM) : yru (xlk (pX8_kitchenNow Post)) cut WW (n + 1) 154 L st M = j_ild 1 1 154 L st M (ykk (xlk (pX8_kitchenNow Post)) cut WW n) := yf rfl
theorem fX8_kitchenNow_155 (Post : XPo) (cut : List Nat) (WW : XK) (n : Nat) (L : XLs) (st : List XV) (M : XM) : yru (xlk (pX8_kitchenNow Post)) cut WW (n + 1) 155 L st M = j_add 155 L st M (ykk (xlk (pX8_kitchenNow Post)) cut WW n) := yf rfl
theorem fX8_kitchenNow_156 (Post : XPo) (cut : List Nat) (WW : XK) (n : Nat) (L : XLs) (st : List XV) (M : XM) : yru (xlk (pX8_kitchenNow Post)) cut WW (n + 1) 156 L st M = j_iald 156 L st M (ykk (xlk (pX8_kitchenNow Post)) cut WW n) := yf rfl
theorem fX8_kitchenNow_157 (Post : XPo) (cut : List Nat) (WW : XK) (n : Nat) (L : XLs) (st : List XV) (M : XM) : yru (xlk (pX8_kitchenNow Post)) cut WW (n + 1) 157 L st M = j_iret Post 157 L st M (ykk (xlk (pX8_kitchenNow Post)) cut WW n) := yf rfl
def sX8_kitchenNow : XSp := xq2 20 (fun _ _ k w M Q => ∃ (F : XM) (f : Int), GG F f M ∧ ((0 ≤ k ∧ k < 3) ∧ 0 ≤ w ∧ w ≤ 11) ∧ Q [xI (kProp F f k w (F 1 f 0 0))] M)
theorem xg_kitchenNow {F : XM} {f : Int} {M : XM} {Q : XPo} {k w : Int} (hG : GG F f M) (hc : (0 ≤ k ∧ k < 3) ∧ 0 ≤ w ∧ w ≤ 11) (h : Q [xI (kProp F f k w (F 1 f 0 0))] M) : sX8_kitchenNow [xR 20 0 0, xI k, xI w] M Q := @id ((20 = 20 ∧ xval 20 0 0) ∧ ∃ (F : XM) (f : Int), GG F f M ∧ ((0 ≤ k ∧ k < 3) ∧ 0 ≤ w ∧ w ≤ 11) ∧ Q [xI (kProp F f k w (F 1 f 0 0))] M) ⟨⟨rfl, xvz_20⟩, F, f, hG, hc, h⟩
set_option maxRecDepth 100000 in
theorem kX8_kitchenNow : XCn yX8_kitchenNow wX8_kitchenNow rX8_kitchenNow sX8_kitchenNow := XC2 pX8_kitchenNow rfl rfl aX8_kitchenNow (by decide) (fun i0 k0 k w M Post hv h WW hC => by
  obtain ⟨rfl, rfl⟩ := xk20 hv
  obtain ⟨F, f, hG, hc, h⟩ := h
  have hI := hG.1.1
  have hB := GG_B hG
  have hK := GG_k hG hc.1.1 hc.1.2
  unfold gK1 at hK
  obtain ⟨k0, k1, k2, k3, k5, k6, kw, kn, -⟩ := hK
  have hfK := hG.2.2.2.1 k hc.1.1 hc.1.2
  have k7 : k < 7 := by omega
  have r48 := hI (48 + k) (by unfold zJ; omega)
  have hS := GG_sOK hG hc.1.1 k7
  have ho := GG_old hG hc.1.1 k7
  have hd := fun d => GZ_dish (d := d) hG.1 hG.2.2.1 hc.1.1 k7
  have r1 : XInR w := ⟨by omega, by omega⟩
  show WW 0 [some (xR 20 0 0), some (xI k), some (xI w)] [] M
  refine yru_ok hC [] 60 _ _ _ _ ?_
  simp only [ykk_ap, Int.reduceEq, Int.reduceLT, Int.reduceLE, Int.reduceNeg, Int.reduceAdd, Int.reduceSub, Int.reduceMul, and_self, false_and, and_false, not_true_eq_false, not_false_eq_true, true_implies, false_implies, xq0, xq1, xq2, xq3, xq4, xq5, xqR, xq1R, xq3R, xt1, xt2, xt3, List.mem_cons, List.not_mem_nil, or_false, false_or, or_self, if_false, if_true, reduceIte, reduceCtorEq, xent, xen, List.length_cons, List.length_nil, List.replicate, j_c, j_cJ, j_ild, j_ald, j_lld, j_ist, j_ast, j_lst, j_inc, j_add, j_sub, j_mul, j_neg, j_div, j_rem, j_and, j_shr, j_shl1, j_or, j_ladd, j_lsub, j_lmul, j_i2l, j_lcmp, j_i2c, j_dup, j_dup2, j_pop, j_goto, j_ieq, j_ine, j_ilt, j_ige, j_igt, j_ile, j_eq, j_ne, j_lt, j_ge, j_gt, j_le, xsw, j_tsw, j_lsw2, j_gI, j_gJ, j_gR, j_pI, j_pJ, j_gs, j_iald, j_iast, j_cald, j_cast, j_lald, j_last, j_aald, j_cpy, j_min, j_max, j_abs, j_iret, j_zret, j_lret, j_dret, j_ret0, j_V0, j_V1, j_V2, j_V3, j_V4, j_V5, j_S1, j_S2, j_S3, xget, xset, xset2, xclr, xc1, xcat, Nat.reduceAdd, Nat.reduceEqDiff, Nat.reduceLT, Nat.reduceLeDiff, Nat.reduceMul, List.cons_append, List.nil_append, true_and, and_true, List.singleton_append, fX8_kitchenNow_0, fX8_kitchenNow_1, fX8_kitchenNow_60, fX8_kitchenNow_61, fX8_kitchenNow_64, fX8_kitchenNow_66, fX8_kitchenNow_67, fX8_kitchenNow_68, fX8_kitchenNow_69, fX8_kitchenNow_70, fX8_kitchenNow_71, fX8_kitchenNow_74, fX8_kitchenNow_76, fX8_kitchenNow_77, fX8_kitchenNow_78, fX8_kitchenNow_79, fX8_kitchenNow_80, fX8_kitchenNow_81, fX8_kitchenNow_82, fX8_kitchenNow_83, fX8_kitchenNow_84, fX8_kitchenNow_85, fX8_kitchenNow_86, fX8_kitchenNow_87, fX8_kitchenNow_90, fX8_kitchenNow_92, fX8_kitchenNow_93, fX8_kitchenNow_94, fX8_kitchenNow_95, fX8_kitchenNow_98, fX8_kitchenNow_99, fX8_kitchenNow_102, fX8_kitchenNow_103, fX8_kitchenNow_106, fX8_kitchenNow_108, fX8_kitchenNow_109, fX8_kitchenNow_110, fX8_kitchenNow_111, fX8_kitchenNow_112, fX8_kitchenNow_113, fX8_kitchenNow_116, fX8_kitchenNow_118, fX8_kitchenNow_119, fX8_kitchenNow_120, fX8_kitchenNow_121, fX8_kitchenNow_122, fX8_kitchenNow_123, fX8_kitchenNow_124, fX8_kitchenNow_125, fX8_kitchenNow_127, fX8_kitchenNow_128, fX8_kitchenNow_131, fX8_kitchenNow_132, fX8_kitchenNow_133, fX8_kitchenNow_134, fX8_kitchenNow_137, fX8_kitchenNow_138, fX8_kitchenNow_139, fX8_kitchenNow_142, fX8_kitchenNow_144, fX8_kitchenNow_145, fX8_kitchenNow_146, fX8_kitchenNow_147, fX8_kitchenNow_148, fX8_kitchenNow_149, fX8_kitchenNow_152, fX8_kitchenNow_154, fX8_kitchenNow_155, fX8_kitchenNow_156, fX8_kitchenNow_157, sX8_mealsIn, sX8_oldestIn, xvz_20, xvz_21, xrz_21, xdz_21, xlen, xcat, xc1, Nat.zero_le, Nat.reduceLeDiff, r48, hB, hS, r1, hc, k7, xr_c (n := 0) rfl]
  have e : ∀ v : Int, kProp F f k w (F 1 f 0 0) = v → Post [xI v] M := fun v hv => hv ▸ h
  have eo : (M 21 0 0 10 + 1 - zFst (M 21 0 0 10)).toNat = zAg (M 21 0 0 10) := rfl
  refine ⟨⟨fun z => ?_, fun z => ?_, fun z => ?_, fun z => ?_, fun z => ?_, fun z => ?_, fun z => ?_, fun z => ?_, fun z => ?_, fun z => ?_, fun z => ?_⟩, fun z => ?_⟩
  · subst z
    exact ⟨⟨by omega, by omega⟩, e _ (by simp only [kProp]; exact k0.symm)⟩
  · subst z
    exact ⟨⟨by omega, by omega⟩, e _ (by rw [show 36 + 3 * k + 1 - 1 = 36 + 3 * k + 0 by omega, kw 0 (by decide) (by decide)]; simp [kProp])⟩
  · subst z
    exact ⟨⟨by omega, by omega⟩, e _ (by rw [show 36 + 3 * k + 2 - 1 = 36 + 3 * k + 1 by omega, kw 1 (by decide) (by decide)]; simp [kProp])⟩
  · subst z
    exact ⟨⟨by omega, by omega⟩, e _ (by rw [show 36 + 3 * k + 3 - 1 = 36 + 3 * k + 2 by omega, kw 2 (by decide) (by decide)]; simp [kProp])⟩
  · subst z
    refine ⟨⟨by omega, by omega⟩, fun g => ⟨⟨by omega, by omega⟩, e _ ?_⟩, fun g => e _ ?_⟩
    · rw [k2 (by omega)]
      simp [kProp]
    · simp only [kProp, Int.reduceEq, Int.reduceLE, if_true, if_false]
      exact kn (by omega)
  · subst z
    exact ⟨⟨by omega, by omega⟩, e _ (by rw [k3]; simp [kProp])⟩
  · subst z
    exact ⟨by decide, e _ (by rw [hd _ (by decide) (by decide)]; simp [kProp])⟩
  · subst z
    exact ⟨by decide, e _ (by rw [hd _ (by decide) (by decide)]; simp [kProp])⟩
  · subst z
    exact ⟨by decide, e _ (by rw [hd _ (by decide) (by decide)]; simp [kProp])⟩
  · subst z
    exact e _ (by rw [eo, ho]; simp [kProp])
  · subst z
    exact ⟨⟨by omega, by omega⟩, e _ (by rw [k5]; simp [kProp])⟩
  · have : w = 11 := by omega
    subst this
    exact ⟨⟨by omega, by omega⟩, e _ (by rw [k6]; simp [kProp])⟩)
/-- UnitKitchensModel.lorryNow(II)I -/
abbrev wX8_lorryNow : List Cond := Cond.code yX8_lorryNow cX8_lorryNow 3 (some .int) :: xT
abbrev rX8_lorryNow : Room := { frames := 2, cells := 0, slots := 0, locals := 44 }
def pX8_lorryNow (Post : XPo) : List (Nat × XStp) := [(0, j_ild 2 1), (1, j_tsw 0 [48, 70, 92, 102, 102, 102, 113, 121] 7 131), (48, j_ald 0 1), (49, j_ild 1 1), (50, j_V1 20 sX8_stands), (53, j_eq 68), (56, j_ald 0 1), (57, j_gR 20 (fun i k => (21, 0, 0))), (60, j_c 57 2), (62, j_ild 1 1), (63, j_add), (64, j_iald), (65, j_goto 69), (68, j_c (-1) 1), (69, j_iret Post), (70, j_ald 0 1), (71, j_ild 1 1), (72, j_V1 20 sX8_stands), (75, j_eq 82), (78, j_c (-1) 1), (79, j_goto 91), (82, j_ald 0 1), (83, j_gR 20 (fun i k => (21, 0, 0))), (86, j_c 57 2), (88, j_ild 1 1), (89, j_add), (90, j_iald), (91, j_iret Post), (92, j_ald 0 1), (93, j_gR 20 (fun i k => (21, 0, 0))), (96, j_c 61 2), (98, j_ild 1 1), (99, j_add), (100, j_iald), (101, j_iret Post), (102, j_ald 0 1), (103, j_c 3 1), (104, j_ild 1 1), (105, j_add), (106, j_ild 2 1), (107, j_c 3 1), (108, j_sub), (109, j_V2 20 sX8_mealsIn), (112, j_iret Post), (113, j_ald 0 1), (114, j_c 3 1), (115, j_ild 1 1), (116, j_add), (117, j_V1 20 sX8_oldestIn), (120, j_iret Post), (121, j_ald 0 1), (122, j_gR 20 (fun i k => (21, 0, 0))), (125, j_c 65 2), (127, j_ild 1 1), (128, j_add), (129, j_iald), (130, j_iret Post), (131, j_ald 0 1), (132, j_gR 20 (fun i k => (21, 0, 0))), (135, j_c 69 2), (137, j_ild 1 1), (138, j_add), (139, j_iald), (140, j_iret Post)]
set_option maxRecDepth 100000 in
theorem aX8_lorryNow (Post : XPo) : XAll rX8_lorryNow cX8_lorryNow 3 RX8 wX8_lorryNow (some .int) Post (pX8_lorryNow Post) := XAll.cons (xs_iload_n dX8_lorryNow_0 rfl) (XAll.cons (xs_tsw dX8_lorryNow_1 (by decide) (by decide) (fun j hj => by rcases (show j = 0 ∨ j = 1 ∨ j = 2 ∨ j = 3 ∨ j = 4 ∨ j = 5 ∨ j = 6 ∨ j = 7 by simp only [List.length_cons, List.length_nil] at hj; omega) with rfl | rfl | rfl | rfl | rfl | rfl | rfl | rfl <;> exact ⟨_, _, rfl, rfl, by decide⟩)) (XAll.cons (xs_aload_n dX8_lorryNow_48 rfl) (XAll.cons (xs_iload_n dX8_lorryNow_49 rfl) (XAll.cons (xs_V1 kX8_stands ⟨⟨rfl, rfl, by decide, by decide⟩, ⟨by decide, by decide, by decide +kernel⟩, ⟨tw_1162, tw_1164, tp_16, tw_9, tw_1165⟩, 8, TX8, _, rfl, fun G ρ f i k => ⟨_, rfl⟩⟩ dX8_lorryNow_50) (XAll.cons (xs_if_eq dX8_lorryNow_53 (by decide)) (XAll.cons (xs_aload_n dX8_lorryNow_56 rfl) (XAll.cons (fgX8_0 tw_1048 dX8_lorryNow_57) (XAll.cons (xs_bipush dX8_lorryNow_60 rfl) (XAll.cons (xs_iload_n dX8_lorryNow_62 rfl) (XAll.cons (xs_iadd dX8_lorryNow_63) (XAll.cons (xs_iald dX8_lorryNow_64) (XAll.cons (xs_goto dX8_lorryNow_65 (by decide)) (XAll.cons (xs_iconst dX8_lorryNow_68) (XAll.cons (xs_iret rfl dX8_lorryNow_69) (XAll.cons (xs_aload_n dX8_lorryNow_70 rfl) (XAll.cons (xs_iload_n dX8_lorryNow_71 rfl) (XAll.cons (xs_V1 kX8_stands ⟨⟨rfl, rfl, by decide, by decide⟩, ⟨by decide, by decide, by decide +kernel⟩, ⟨tw_1162, tw_1164, tp_16, tw_9, tw_1165⟩, 8, TX8, _, rfl, fun G ρ f i k => ⟨_, rfl⟩⟩ dX8_lorryNow_72) (XAll.cons (xs_if_eq dX8_lorryNow_75 (by decide)) (XAll.cons (xs_iconst dX8_lorryNow_78) (XAll.cons (xs_goto dX8_lorryNow_79 (by decide)) (XAll.cons (xs_aload_n dX8_lorryNow_82 rfl) (XAll.cons (fgX8_0 tw_1048 dX8_lorryNow_83) (XAll.cons (xs_bipush dX8_lorryNow_86 rfl) (XAll.cons (xs_iload_n dX8_lorryNow_88 rfl) (XAll.cons (xs_iadd dX8_lorryNow_89) (XAll.cons (xs_iald dX8_lorryNow_90) (XAll.cons (xs_iret rfl dX8_lorryNow_91) (XAll.cons (xs_aload_n dX8_lorryNow_92 rfl) (XAll.cons (fgX8_0 tw_1048 dX8_lorryNow_93) (XAll.cons (xs_bipush dX8_lorryNow_96 rfl) (XAll.cons (xs_iload_n dX8_lorryNow_98 rfl) (XAll.cons (xs_iadd dX8_lorryNow_99) (XAll.cons (xs_iald dX8_lorryNow_100) (XAll.cons (xs_iret rfl dX8_lorryNow_101) (XAll.cons (xs_aload_n dX8_lorryNow_102 rfl) (XAll.cons (xs_iconst dX8_lorryNow_103) (XAll.cons (xs_iload_n dX8_lorryNow_104 rfl) (XAll.cons (xs_iadd dX8_lorryNow_105) (XAll.cons (xs_iload_n dX8_lorryNow_106 rfl) (XAll.cons (xs_iconst dX8_lorryNow_107) (XAll.cons (xs_isub dX8_lorryNow_108) (XAll.cons (xs_V2 kX8_mealsIn ⟨⟨rfl, rfl, by decide, by decide⟩, ⟨by decide, by decide, by decide +kernel⟩, ⟨tw_1166, tw_1168, tp_17, tw_9, tw_1169⟩, 8, TX8, _, rfl, fun G ρ f i k => ⟨_, rfl⟩⟩ dX8_lorryNow_109) (XAll.cons (xs_iret rfl dX8_lorryNow_112) (XAll.cons (xs_aload_n dX8_lorryNow_113 rfl) (XAll.cons (xs_iconst dX8_lorryNow_114) (XAll.cons (xs_iload_n dX8_lorryNow_115 rfl) (XAll.cons (xs_iadd dX8_lorryNow_116) (XAll.cons (xs_V1 kX8_oldestIn ⟨⟨rfl, rfl, by decide, by decide⟩, ⟨by decide, by decide, by decide +kernel⟩, ⟨tw_1384, tw_1386, tp_53, tw_9, tw_1387⟩, 8, TX8, _, rfl, fun G ρ f i k => ⟨_, rfl⟩⟩ dX8_lorryNow_117) (XAll.cons (xs_iret rfl dX8_lorryNow_120) (XAll.cons (xs_aload_n dX8_lorryNow_121 rfl) (XAll.cons (fgX8_0 tw_1048 dX8_lorryNow_122) (XAll.cons (xs_bipush dX8_lorryNow_125 rfl) (XAll.cons (xs_iload_n dX8_lorryNow_127 rfl) (XAll.cons (xs_iadd dX8_lorryNow_128) (XAll.cons (xs_iald dX8_lorryNow_129) (XAll.cons (xs_iret rfl dX8_lorryNow_130) (XAll.cons (xs_aload_n dX8_lorryNow_131 rfl) (XAll.cons (fgX8_0 tw_1048 dX8_lorryNow_132) (XAll.cons (xs_bipush dX8_lorryNow_135 rfl) (XAll.cons (xs_iload_n dX8_lorryNow_137 rfl) (XAll.cons (xs_iadd dX8_lorryNow_138) (XAll.cons (xs_iald dX8_lorryNow_139) (XAll.cons (xs_iret rfl dX8_lorryNow_140) (XAll.nil))))))))))))))))))))))))))))))))))))))))))))))))))))))))))))))))
theorem fX8_lorryNow_0 (Post : XPo) (cut : List Nat) (WW : XK) (n : Nat) (L : XLs) (st : List XV) (M : XM) : yru (xlk (pX8_lorryNow Post)) cut WW (n + 1) 0 L st M = j_ild 2 1 0 L st M (ykk (xlk (pX8_lorryNow Post)) cut WW n) := yf rfl
theorem fX8_lorryNow_1 (Post : XPo) (cut : List Nat) (WW : XK) (n : Nat) (L : XLs) (st : List XV) (M : XM) : yru (xlk (pX8_lorryNow Post)) cut WW (n + 1) 1 L st M = j_tsw 0 [48, 70, 92, 102, 102, 102, 113, 121] 7 131 1 L st M (ykk (xlk (pX8_lorryNow Post)) cut WW n) := yf rfl
theorem fX8_lorryNow_48 (Post : XPo) (cut : List Nat) (WW : XK) (n : Nat) (L : XLs) (st : List XV) (M : XM) : yru (xlk (pX8_lorryNow Post)) cut WW (n + 1) 48 L st M = j_ald 0 1 48 L st M (ykk (xlk (pX8_lorryNow Post)) cut WW n) := yf rfl
theorem fX8_lorryNow_49 (Post : XPo) (cut : List Nat) (WW : XK) (n : Nat) (L : XLs) (st : List XV) (M : XM) : yru (xlk (pX8_lorryNow Post)) cut WW (n + 1) 49 L st M = j_ild 1 1 49 L st M (ykk (xlk (pX8_lorryNow Post)) cut WW n) := yf rfl
theorem fX8_lorryNow_50 (Post : XPo) (cut : List Nat) (WW : XK) (n : Nat) (L : XLs) (st : List XV) (M : XM) : yru (xlk (pX8_lorryNow Post)) cut WW (n + 1) 50 L st M = j_V1 20 sX8_stands 50 L st M (ykk (xlk (pX8_lorryNow Post)) cut WW n) := yf rfl
theorem fX8_lorryNow_53 (Post : XPo) (cut : List Nat) (WW : XK) (n : Nat) (L : XLs) (st : List XV) (M : XM) : yru (xlk (pX8_lorryNow Post)) cut WW (n + 1) 53 L st M = j_eq 68 53 L st M (ykk (xlk (pX8_lorryNow Post)) cut WW n) := yf rfl
theorem fX8_lorryNow_56 (Post : XPo) (cut : List Nat) (WW : XK) (n : Nat) (L : XLs) (st : List XV) (M : XM) : yru (xlk (pX8_lorryNow Post)) cut WW (n + 1) 56 L st M = j_ald 0 1 56 L st M (ykk (xlk (pX8_lorryNow Post)) cut WW n) := yf rfl
theorem fX8_lorryNow_57 (Post : XPo) (cut : List Nat) (WW : XK) (n : Nat) (L : XLs) (st : List XV) (M : XM) : yru (xlk (pX8_lorryNow Post)) cut WW (n + 1) 57 L st M = j_gR 20 (fun i k => (21, 0, 0)) 57 L st M (ykk (xlk (pX8_lorryNow Post)) cut WW n) := yf rfl
theorem fX8_lorryNow_60 (Post : XPo) (cut : List Nat) (WW : XK) (n : Nat) (L : XLs) (st : List XV) (M : XM) : yru (xlk (pX8_lorryNow Post)) cut WW (n + 1) 60 L st M = j_c 57 2 60 L st M (ykk (xlk (pX8_lorryNow Post)) cut WW n) := yf rfl
theorem fX8_lorryNow_62 (Post : XPo) (cut : List Nat) (WW : XK) (n : Nat) (L : XLs) (st : List XV) (M : XM) : yru (xlk (pX8_lorryNow Post)) cut WW (n + 1) 62 L st M = j_ild 1 1 62 L st M (ykk (xlk (pX8_lorryNow Post)) cut WW n) := yf rfl
theorem fX8_lorryNow_63 (Post : XPo) (cut : List Nat) (WW : XK) (n : Nat) (L : XLs) (st : List XV) (M : XM) : yru (xlk (pX8_lorryNow Post)) cut WW (n + 1) 63 L st M = j_add 63 L st M (ykk (xlk (pX8_lorryNow Post)) cut WW n) := yf rfl
theorem fX8_lorryNow_64 (Post : XPo) (cut : List Nat) (WW : XK) (n : Nat) (L : XLs) (st : List XV) (M : XM) : yru (xlk (pX8_lorryNow Post)) cut WW (n + 1) 64 L st M = j_iald 64 L st M (ykk (xlk (pX8_lorryNow Post)) cut WW n) := yf rfl
theorem fX8_lorryNow_65 (Post : XPo) (cut : List Nat) (WW : XK) (n : Nat) (L : XLs) (st : List XV) (M : XM) : yru (xlk (pX8_lorryNow Post)) cut WW (n + 1) 65 L st M = j_goto 69 65 L st M (ykk (xlk (pX8_lorryNow Post)) cut WW n) := yf rfl
theorem fX8_lorryNow_68 (Post : XPo) (cut : List Nat) (WW : XK) (n : Nat) (L : XLs) (st : List XV) (M : XM) : yru (xlk (pX8_lorryNow Post)) cut WW (n + 1) 68 L st M = j_c (-1) 1 68 L st M (ykk (xlk (pX8_lorryNow Post)) cut WW n) := yf rfl
theorem fX8_lorryNow_69 (Post : XPo) (cut : List Nat) (WW : XK) (n : Nat) (L : XLs) (st : List XV) (M : XM) : yru (xlk (pX8_lorryNow Post)) cut WW (n + 1) 69 L st M = j_iret Post 69 L st M (ykk (xlk (pX8_lorryNow Post)) cut WW n) := yf rfl
theorem fX8_lorryNow_70 (Post : XPo) (cut : List Nat) (WW : XK) (n : Nat) (L : XLs) (st : List XV) (M : XM) : yru (xlk (pX8_lorryNow Post)) cut WW (n + 1) 70 L st M = j_ald 0 1 70 L st M (ykk (xlk (pX8_lorryNow Post)) cut WW n) := yf rfl
theorem fX8_lorryNow_71 (Post : XPo) (cut : List Nat) (WW : XK) (n : Nat) (L : XLs) (st : List XV) (M : XM) : yru (xlk (pX8_lorryNow Post)) cut WW (n + 1) 71 L st M = j_ild 1 1 71 L st M (ykk (xlk (pX8_lorryNow Post)) cut WW n) := yf rfl
theorem fX8_lorryNow_72 (Post : XPo) (cut : List Nat) (WW : XK) (n : Nat) (L : XLs) (st : List XV) (M : XM) : yru (xlk (pX8_lorryNow Post)) cut WW (n + 1) 72 L st M = j_V1 20 sX8_stands 72 L st M (ykk (xlk (pX8_lorryNow Post)) cut WW n) := yf rfl
theorem fX8_lorryNow_75 (Post : XPo) (cut : List Nat) (WW : XK) (n : Nat) (L : XLs) (st : List XV) (M : XM) : yru (xlk (pX8_lorryNow Post)) cut WW (n + 1) 75 L st M = j_eq 82 75 L st M (ykk (xlk (pX8_lorryNow Post)) cut WW n) := yf rfl
theorem fX8_lorryNow_78 (Post : XPo) (cut : List Nat) (WW : XK) (n : Nat) (L : XLs) (st : List XV) (M : XM) : yru (xlk (pX8_lorryNow Post)) cut WW (n + 1) 78 L st M = j_c (-1) 1 78 L st M (ykk (xlk (pX8_lorryNow Post)) cut WW n) := yf rfl
theorem fX8_lorryNow_79 (Post : XPo) (cut : List Nat) (WW : XK) (n : Nat) (L : XLs) (st : List XV) (M : XM) : yru (xlk (pX8_lorryNow Post)) cut WW (n + 1) 79 L st M = j_goto 91 79 L st M (ykk (xlk (pX8_lorryNow Post)) cut WW n) := yf rfl
theorem fX8_lorryNow_82 (Post : XPo) (cut : List Nat) (WW : XK) (n : Nat) (L : XLs) (st : List XV) (M : XM) : yru (xlk (pX8_lorryNow Post)) cut WW (n + 1) 82 L st M = j_ald 0 1 82 L st M (ykk (xlk (pX8_lorryNow Post)) cut WW n) := yf rfl
theorem fX8_lorryNow_83 (Post : XPo) (cut : List Nat) (WW : XK) (n : Nat) (L : XLs) (st : List XV) (M : XM) : yru (xlk (pX8_lorryNow Post)) cut WW (n + 1) 83 L st M = j_gR 20 (fun i k => (21, 0, 0)) 83 L st M (ykk (xlk (pX8_lorryNow Post)) cut WW n) := yf rfl
theorem fX8_lorryNow_86 (Post : XPo) (cut : List Nat) (WW : XK) (n : Nat) (L : XLs) (st : List XV) (M : XM) : yru (xlk (pX8_lorryNow Post)) cut WW (n + 1) 86 L st M = j_c 57 2 86 L st M (ykk (xlk (pX8_lorryNow Post)) cut WW n) := yf rfl
theorem fX8_lorryNow_88 (Post : XPo) (cut : List Nat) (WW : XK) (n : Nat) (L : XLs) (st : List XV) (M : XM) : yru (xlk (pX8_lorryNow Post)) cut WW (n + 1) 88 L st M = j_ild 1 1 88 L st M (ykk (xlk (pX8_lorryNow Post)) cut WW n) := yf rfl
theorem fX8_lorryNow_89 (Post : XPo) (cut : List Nat) (WW : XK) (n : Nat) (L : XLs) (st : List XV) (M : XM) : yru (xlk (pX8_lorryNow Post)) cut WW (n + 1) 89 L st M = j_add 89 L st M (ykk (xlk (pX8_lorryNow Post)) cut WW n) := yf rfl
theorem fX8_lorryNow_90 (Post : XPo) (cut : List Nat) (WW : XK) (n : Nat) (L : XLs) (st : List XV) (M : XM) : yru (xlk (pX8_lorryNow Post)) cut WW (n + 1) 90 L st M = j_iald 90 L st M (ykk (xlk (pX8_lorryNow Post)) cut WW n) := yf rfl
theorem fX8_lorryNow_91 (Post : XPo) (cut : List Nat) (WW : XK) (n : Nat) (L : XLs) (st : List XV) (M : XM) : yru (xlk (pX8_lorryNow Post)) cut WW (n + 1) 91 L st M = j_iret Post 91 L st M (ykk (xlk (pX8_lorryNow Post)) cut WW n) := yf rfl
theorem fX8_lorryNow_92 (Post : XPo) (cut : List Nat) (WW : XK) (n : Nat) (L : XLs) (st : List XV) (M : XM) : yru (xlk (pX8_lorryNow Post)) cut WW (n + 1) 92 L st M = j_ald 0 1 92 L st M (ykk (xlk (pX8_lorryNow Post)) cut WW n) := yf rfl
theorem fX8_lorryNow_93 (Post : XPo) (cut : List Nat) (WW : XK) (n : Nat) (L : XLs) (st : List XV) (M : XM) : yru (xlk (pX8_lorryNow Post)) cut WW (n + 1) 93 L st M = j_gR 20 (fun i k => (21, 0, 0)) 93 L st M (ykk (xlk (pX8_lorryNow Post)) cut WW n) := yf rfl
theorem fX8_lorryNow_96 (Post : XPo) (cut : List Nat) (WW : XK) (n : Nat) (L : XLs) (st : List XV) (M : XM) : yru (xlk (pX8_lorryNow Post)) cut WW (n + 1) 96 L st M = j_c 61 2 96 L st M (ykk (xlk (pX8_lorryNow Post)) cut WW n) := yf rfl
theorem fX8_lorryNow_98 (Post : XPo) (cut : List Nat) (WW : XK) (n : Nat) (L : XLs) (st : List XV) (M : XM) : yru (xlk (pX8_lorryNow Post)) cut WW (n + 1) 98 L st M = j_ild 1 1 98 L st M (ykk (xlk (pX8_lorryNow Post)) cut WW n) := yf rfl
theorem fX8_lorryNow_99 (Post : XPo) (cut : List Nat) (WW : XK) (n : Nat) (L : XLs) (st : List XV) (M : XM) : yru (xlk (pX8_lorryNow Post)) cut WW (n + 1) 99 L st M = j_add 99 L st M (ykk (xlk (pX8_lorryNow Post)) cut WW n) := yf rfl
theorem fX8_lorryNow_100 (Post : XPo) (cut : List Nat) (WW : XK) (n : Nat) (L : XLs) (st : List XV) (M : XM) : yru (xlk (pX8_lorryNow Post)) cut WW (n + 1) 100 L st M = j_iald 100 L st M (ykk (xlk (pX8_lorryNow Post)) cut WW n) := yf rfl
theorem fX8_lorryNow_101 (Post : XPo) (cut : List Nat) (WW : XK) (n : Nat) (L : XLs) (st : List XV) (M : XM) : yru (xlk (pX8_lorryNow Post)) cut WW (n + 1) 101 L st M = j_iret Post 101 L st M (ykk (xlk (pX8_lorryNow Post)) cut WW n) := yf rfl
theorem fX8_lorryNow_102 (Post : XPo) (cut : List Nat) (WW : XK) (n : Nat) (L : XLs) (st : List XV) (M : XM) : yru (xlk (pX8_lorryNow Post)) cut WW (n + 1) 102 L st M = j_ald 0 1 102 L st M (ykk (xlk (pX8_lorryNow Post)) cut WW n) := yf rfl
theorem fX8_lorryNow_103 (Post : XPo) (cut : List Nat) (WW : XK) (n : Nat) (L : XLs) (st : List XV) (M : XM) : yru (xlk (pX8_lorryNow Post)) cut WW (n + 1) 103 L st M = j_c 3 1 103 L st M (ykk (xlk (pX8_lorryNow Post)) cut WW n) := yf rfl
theorem fX8_lorryNow_104 (Post : XPo) (cut : List Nat) (WW : XK) (n : Nat) (L : XLs) (st : List XV) (M : XM) : yru (xlk (pX8_lorryNow Post)) cut WW (n + 1) 104 L st M = j_ild 1 1 104 L st M (ykk (xlk (pX8_lorryNow Post)) cut WW n) := yf rfl
theorem fX8_lorryNow_105 (Post : XPo) (cut : List Nat) (WW : XK) (n : Nat) (L : XLs) (st : List XV) (M : XM) : yru (xlk (pX8_lorryNow Post)) cut WW (n + 1) 105 L st M = j_add 105 L st M (ykk (xlk (pX8_lorryNow Post)) cut WW n) := yf rfl
theorem fX8_lorryNow_106 (Post : XPo) (cut : List Nat) (WW : XK) (n : Nat) (L : XLs) (st : List XV) (M : XM) : yru (xlk (pX8_lorryNow Post)) cut WW (n + 1) 106 L st M = j_ild 2 1 106 L st M (ykk (xlk (pX8_lorryNow Post)) cut WW n) := yf rfl
theorem fX8_lorryNow_107 (Post : XPo) (cut : List Nat) (WW : XK) (n : Nat) (L : XLs) (st : List XV) (M : XM) : yru (xlk (pX8_lorryNow Post)) cut WW (n + 1) 107 L st M = j_c 3 1 107 L st M (ykk (xlk (pX8_lorryNow Post)) cut WW n) := yf rfl
theorem fX8_lorryNow_108 (Post : XPo) (cut : List Nat) (WW : XK) (n : Nat) (L : XLs) (st : List XV) (M : XM) : yru (xlk (pX8_lorryNow Post)) cut WW (n + 1) 108 L st M = j_sub 108 L st M (ykk (xlk (pX8_lorryNow Post)) cut WW n) := yf rfl
theorem fX8_lorryNow_109 (Post : XPo) (cut : List Nat) (WW : XK) (n : Nat) (L : XLs) (st : List XV) (M : XM) : yru (xlk (pX8_lorryNow Post)) cut WW (n + 1) 109 L st M = j_V2 20 sX8_mealsIn 109 L st M (ykk (xlk (pX8_lorryNow Post)) cut WW n) := yf rfl
theorem fX8_lorryNow_112 (Post : XPo) (cut : List Nat) (WW : XK) (n : Nat) (L : XLs) (st : List XV) (M : XM) : yru (xlk (pX8_lorryNow Post)) cut WW (n + 1) 112 L st M = j_iret Post 112 L st M (ykk (xlk (pX8_lorryNow Post)) cut WW n) := yf rfl
theorem fX8_lorryNow_113 (Post : XPo) (cut : List Nat) (WW : XK) (n : Nat) (L : XLs) (st : List XV) (M : XM) : yru (xlk (pX8_lorryNow Post)) cut WW (n + 1) 113 L st M = j_ald 0 1 113 L st M (ykk (xlk (pX8_lorryNow Post)) cut WW n) := yf rfl
theorem fX8_lorryNow_114 (Post : XPo) (cut : List Nat) (WW : XK) (n : Nat) (L : XLs) (st : List XV) (M : XM) : yru (xlk (pX8_lorryNow Post)) cut WW (n + 1) 114 L st M = j_c 3 1 114 L st M (ykk (xlk (pX8_lorryNow Post)) cut WW n) := yf rfl
theorem fX8_lorryNow_115 (Post : XPo) (cut : List Nat) (WW : XK) (n : Nat) (L : XLs) (st : List XV) (M : XM) : yru (xlk (pX8_lorryNow Post)) cut WW (n + 1) 115 L st M = j_ild 1 1 115 L st M (ykk (xlk (pX8_lorryNow Post)) cut WW n) := yf rfl
theorem fX8_lorryNow_116 (Post : XPo) (cut : List Nat) (WW : XK) (n : Nat) (L : XLs) (st : List XV) (M : XM) : yru (xlk (pX8_lorryNow Post)) cut WW (n + 1) 116 L st M = j_add 116 L st M (ykk (xlk (pX8_lorryNow Post)) cut WW n) := yf rfl
theorem fX8_lorryNow_117 (Post : XPo) (cut : List Nat) (WW : XK) (n : Nat) (L : XLs) (st : List XV) (M : XM) : yru (xlk (pX8_lorryNow Post)) cut WW (n + 1) 117 L st M = j_V1 20 sX8_oldestIn 117 L st M (ykk (xlk (pX8_lorryNow Post)) cut WW n) := yf rfl
theorem fX8_lorryNow_120 (Post : XPo) (cut : List Nat) (WW : XK) (n : Nat) (L : XLs) (st : List XV) (M : XM) : yru (xlk (pX8_lorryNow Post)) cut WW (n + 1) 120 L st M = j_iret Post 120 L st M (ykk (xlk (pX8_lorryNow Post)) cut WW n) := yf rfl
theorem fX8_lorryNow_121 (Post : XPo) (cut : List Nat) (WW : XK) (n : Nat) (L : XLs) (st : List XV) (M : XM) : yru (xlk (pX8_lorryNow Post)) cut WW (n + 1) 121 L st M = j_ald 0 1 121 L st M (ykk (xlk (pX8_lorryNow Post)) cut WW n) := yf rfl
theorem fX8_lorryNow_122 (Post : XPo) (cut : List Nat) (WW : XK) (n : Nat) (L : XLs) (st : List XV) (M : XM) : yru (xlk (pX8_lorryNow Post)) cut WW (n + 1) 122 L st M = j_gR 20 (fun i k => (21, 0, 0)) 122 L st M (ykk (xlk (pX8_lorryNow Post)) cut WW n) := yf rfl
theorem fX8_lorryNow_125 (Post : XPo) (cut : List Nat) (WW : XK) (n : Nat) (L : XLs) (st : List XV) (M : XM) : yru (xlk (pX8_lorryNow Post)) cut WW (n + 1) 125 L st M = j_c 65 2 125 L st M (ykk (xlk (pX8_lorryNow Post)) cut WW n) := yf rfl
theorem fX8_lorryNow_127 (Post : XPo) (cut : List Nat) (WW : XK) (n : Nat) (L : XLs) (st : List XV) (M : XM) : yru (xlk (pX8_lorryNow Post)) cut WW (n + 1) 127 L st M = j_ild 1 1 127 L st M (ykk (xlk (pX8_lorryNow Post)) cut WW n) := yf rfl
theorem fX8_lorryNow_128 (Post : XPo) (cut : List Nat) (WW : XK) (n : Nat) (L : XLs) (st : List XV) (M : XM) : yru (xlk (pX8_lorryNow Post)) cut WW (n + 1) 128 L st M = j_add 128 L st M (ykk (xlk (pX8_lorryNow Post)) cut WW n) := yf rfl
theorem fX8_lorryNow_129 (Post : XPo) (cut : List Nat) (WW : XK) (n : Nat) (L : XLs) (st : List XV) (M : XM) : yru (xlk (pX8_lorryNow Post)) cut WW (n + 1) 129 L st M = j_iald 129 L st M (ykk (xlk (pX8_lorryNow Post)) cut WW n) := yf rfl
theorem fX8_lorryNow_130 (Post : XPo) (cut : List Nat) (WW : XK) (n : Nat) (L : XLs) (st : List XV) (M : XM) : yru (xlk (pX8_lorryNow Post)) cut WW (n + 1) 130 L st M = j_iret Post 130 L st M (ykk (xlk (pX8_lorryNow Post)) cut WW n) := yf rfl
theorem fX8_lorryNow_131 (Post : XPo) (cut : List Nat) (WW : XK) (n : Nat) (L : XLs) (st : List XV) (M : XM) : yru (xlk (pX8_lorryNow Post)) cut WW (n + 1) 131 L st M = j_ald 0 1 131 L st M (ykk (xlk (pX8_lorryNow Post)) cut WW n) := yf rfl
theorem fX8_lorryNow_132 (Post : XPo) (cut : List Nat) (WW : XK) (n : Nat) (L : XLs) (st : List XV) (M : XM) : yru (xlk (pX8_lorryNow Post)) cut WW (n + 1) 132 L st M = j_gR 20 (fun i k => (21, 0, 0)) 132 L st M (ykk (xlk (pX8_lorryNow Post)) cut WW n) := yf rfl
theorem fX8_lorryNow_135 (Post : XPo) (cut : List Nat) (WW : XK) (n : Nat) (L : XLs) (st : List XV) (M : XM) : yru (xlk (pX8_lorryNow Post)) cut WW (n + 1) 135 L st M = j_c 69 2 135 L st M (ykk (xlk (pX8_lorryNow Post)) cut WW n) := yf rfl
theorem fX8_lorryNow_137 (Post : XPo) (cut : List Nat) (WW : XK) (n : Nat) (L : XLs) (st : List XV) (M : XM) : yru (xlk (pX8_lorryNow Post)) cut WW (n + 1) 137 L st M = j_ild 1 1 137 L st M (ykk (xlk (pX8_lorryNow Post)) cut WW n) := yf rfl
theorem fX8_lorryNow_138 (Post : XPo) (cut : List Nat) (WW : XK) (n : Nat) (L : XLs) (st : List XV) (M : XM) : yru (xlk (pX8_lorryNow Post)) cut WW (n + 1) 138 L st M = j_add 138 L st M (ykk (xlk (pX8_lorryNow Post)) cut WW n) := yf rfl
theorem fX8_lorryNow_139 (Post : XPo) (cut : List Nat) (WW : XK) (n : Nat) (L : XLs) (st : List XV) (M : XM) : yru (xlk (pX8_lorryNow Post)) cut WW (n + 1) 139 L st M = j_iald 139 L st M (ykk (xlk (pX8_lorryNow Post)) cut WW n) := yf rfl
theorem fX8_lorryNow_140 (Post : XPo) (cut : List Nat) (WW : XK) (n : Nat) (L : XLs) (st : List XV) (M : XM) : yru (xlk (pX8_lorryNow Post)) cut WW (n + 1) 140 L st M = j_iret Post 140 L st M (ykk (xlk (pX8_lorryNow Post)) cut WW n) := yf rfl
def sX8_lorryNow : XSp := xq2 20 (fun _ _ l w M Q => ∃ (F : XM) (f : Int), GG F f M ∧ ((0 ≤ l ∧ l < F 1 f 0 8) ∧ 0 ≤ w ∧ w ≤ 8) ∧ Q [xI (lProp F f l w (F 1 f 0 0))] M)
theorem xg_lorryNow {F : XM} {f : Int} {M : XM} {Q : XPo} {l w : Int} (hG : GG F f M) (hc : (0 ≤ l ∧ l < F 1 f 0 8) ∧ 0 ≤ w ∧ w ≤ 8) (h : Q [xI (lProp F f l w (F 1 f 0 0))] M) : sX8_lorryNow [xR 20 0 0, xI l, xI w] M Q := @id ((20 = 20 ∧ xval 20 0 0) ∧ ∃ (F : XM) (f : Int), GG F f M ∧ ((0 ≤ l ∧ l < F 1 f 0 8) ∧ 0 ≤ w ∧ w ≤ 8) ∧ Q [xI (lProp F f l w (F 1 f 0 0))] M) ⟨⟨rfl, xvz_20⟩, F, f, hG, hc, h⟩
set_option maxRecDepth 100000 in
theorem kX8_lorryNow : XCn yX8_lorryNow wX8_lorryNow rX8_lorryNow sX8_lorryNow := XC2 pX8_lorryNow rfl rfl aX8_lorryNow (by decide) (fun i0 k0 l w M Post hv h WW hC => by
  obtain ⟨rfl, rfl⟩ := xk20 hv
  obtain ⟨F, f, hG, hc, h⟩ := h
  have hI := hG.1.1
  have hB := GG_B hG
  have c8 := hG.2.1.2.2.1
  have l4 : l < 4 := by omega
  have hL := GG_l hG hc.1.1 l4
  have hst := GG_st hG hc.1.1 hc.1.2
  obtain ⟨l2, l4', l5, -, -⟩ := hL
  have j0 : 0 ≤ l + 3 := by omega
  have j7 : l + 3 < 7 := by omega
  have hS := GG_sOK hG j0 j7
  have ho := GG_old hG j0 j7
  have hd := fun d => GZ_dish (d := d) hG.1 hG.2.2.1 j0 j7
  have r1 : XInR w := ⟨by omega, by omega⟩
  have e3 : 3 + l = l + 3 := by omega
  show WW 0 [some (xR 20 0 0), some (xI l), some (xI w)] [] M
  refine yru_ok hC [] 60 _ _ _ _ ?_
  simp only [ykk_ap, Int.reduceEq, Int.reduceLT, Int.reduceLE, Int.reduceNeg, Int.reduceAdd, Int.reduceSub, Int.reduceMul, and_self, false_and, and_false, not_true_eq_false, not_false_eq_true, true_implies, false_implies, xq0, xq1, xq2, xq3, xq4, xq5, xqR, xq1R, xq3R, xt1, xt2, xt3, List.mem_cons, List.not_mem_nil, or_false, false_or, or_self, if_false, if_true, reduceIte, reduceCtorEq, xent, xen, List.length_cons, List.length_nil, List.replicate, j_c, j_cJ, j_ild, j_ald, j_lld, j_ist, j_ast, j_lst, j_inc, j_add, j_sub, j_mul, j_neg, j_div, j_rem, j_and, j_shr, j_shl1, j_or, j_ladd, j_lsub, j_lmul, j_i2l, j_lcmp, j_i2c, j_dup, j_dup2, j_pop, j_goto, j_ieq, j_ine, j_ilt, j_ige, j_igt, j_ile, j_eq, j_ne, j_lt, j_ge, j_gt, j_le, xsw, j_tsw, j_lsw2, j_gI, j_gJ, j_gR, j_pI, j_pJ, j_gs, j_iald, j_iast, j_cald, j_cast, j_lald, j_last, j_aald, j_cpy, j_min, j_max, j_abs, j_iret, j_zret, j_lret, j_dret, j_ret0, j_V0, j_V1, j_V2, j_V3, j_V4, j_V5, j_S1, j_S2, j_S3, xget, xset, xset2, xclr, xc1, xcat, Nat.reduceAdd, Nat.reduceEqDiff, Nat.reduceLT, Nat.reduceLeDiff, Nat.reduceMul, List.cons_append, List.nil_append, true_and, and_true, List.singleton_append, fX8_lorryNow_0, fX8_lorryNow_1, fX8_lorryNow_48, fX8_lorryNow_49, fX8_lorryNow_50, fX8_lorryNow_53, fX8_lorryNow_56, fX8_lorryNow_57, fX8_lorryNow_60, fX8_lorryNow_62, fX8_lorryNow_63, fX8_lorryNow_64, fX8_lorryNow_65, fX8_lorryNow_68, fX8_lorryNow_69, fX8_lorryNow_70, fX8_lorryNow_71, fX8_lorryNow_72, fX8_lorryNow_75, fX8_lorryNow_78, fX8_lorryNow_79, fX8_lorryNow_82, fX8_lorryNow_83, fX8_lorryNow_86, fX8_lorryNow_88, fX8_lorryNow_89, fX8_lorryNow_90, fX8_lorryNow_91, fX8_lorryNow_92, fX8_lorryNow_93, fX8_lorryNow_96, fX8_lorryNow_98, fX8_lorryNow_99, fX8_lorryNow_100, fX8_lorryNow_101, fX8_lorryNow_102, fX8_lorryNow_103, fX8_lorryNow_104, fX8_lorryNow_105, fX8_lorryNow_106, fX8_lorryNow_107, fX8_lorryNow_108, fX8_lorryNow_109, fX8_lorryNow_112, fX8_lorryNow_113, fX8_lorryNow_114, fX8_lorryNow_115, fX8_lorryNow_116, fX8_lorryNow_117, fX8_lorryNow_120, fX8_lorryNow_121, fX8_lorryNow_122, fX8_lorryNow_125, fX8_lorryNow_127, fX8_lorryNow_128, fX8_lorryNow_129, fX8_lorryNow_130, fX8_lorryNow_131, fX8_lorryNow_132, fX8_lorryNow_135, fX8_lorryNow_137, fX8_lorryNow_138, fX8_lorryNow_139, fX8_lorryNow_140, sX8_stands, sX8_mealsIn, sX8_oldestIn, xvz_20, xvz_21, xrz_21, xdz_21, xlen, xcat, xc1, Nat.zero_le, Nat.reduceLeDiff, hI, hB, hS, r1, hc, l4, e3, j0, j7, xr_c (n := 0) rfl, xr_c (n := 1) rfl]
  have e : ∀ v : Int, lProp F f l w (F 1 f 0 0) = v → Post [xI v] M := fun v hv => hv ▸ h
  have eo : (M 21 0 0 10 + 1 - zFst (M 21 0 0 10)).toNat = zAg (M 21 0 0 10) := rfl
  refine ⟨⟨fun z => ?_, fun z => ?_, fun z => ?_, fun z => ?_, fun z => ?_, fun z => ?_, fun z => ?_, fun z => ?_⟩, fun z => ?_⟩
  · subst z
    refine ⟨fun g => ⟨⟨by omega, by omega⟩, e _ ?_⟩, fun g => e _ ?_⟩
    · simp only [lProp]
      rw [if_pos (by decide)]
      omega
    · simp only [lProp]
      rw [if_pos (by decide)]
      omega
  · subst z
    refine ⟨fun g => e _ ?_, fun g => ⟨⟨by omega, by omega⟩, e _ ?_⟩⟩
    · simp only [lProp]
      rw [if_pos (by decide)]
      omega
    · simp only [lProp]
      rw [if_pos (by decide)]
      omega
  · subst z
    exact ⟨⟨by omega, by omega⟩, e _ (by rw [l2]; simp [lProp])⟩
  · subst z
    exact ⟨by decide, e _ (by rw [hd _ (by decide) (by decide)]; simp [lProp])⟩
  · subst z
    exact ⟨by decide, e _ (by rw [hd _ (by decide) (by decide)]; simp [lProp])⟩
  · subst z
    exact ⟨by decide, e _ (by rw [hd _ (by decide) (by decide)]; simp [lProp])⟩
  · subst z
    exact e _ (by rw [eo, ho]; simp [lProp])
  · subst z
    exact ⟨⟨by omega, by omega⟩, e _ (by rw [l4']; simp [lProp])⟩
  · have : w = 8 := by omega
    subst this
    exact ⟨⟨by omega, by omega⟩, e _ (by rw [l5]; simp [lProp])⟩)
def soT (F : XM) (f w : Int) : Int → Int := fun u => if w = 0 then nworkingUnits F f u else if w = 1 then npeople F f u else nowed F f u
def soF (F : XM) (f w : Int) : Int := if w = 0 then tX0_workingUnits F f else if w = 1 then tX0_people F f else tX0_owed F f
theorem soF_eq (F : XM) (f w : Int) : sf (soT F f w) 0 (F 1 f 0 10).toNat = soF F f w := by
  unfold soF
  by_cases h0 : w = 0
  · rw [if_pos h0]
    exact sf_congr _ _ fun x _ _ => by unfold soT; rw [if_pos h0]
  · by_cases h1 : w = 1
    · rw [if_neg h0, if_pos h1]
      exact sf_congr _ _ fun x _ _ => by unfold soT; rw [if_neg h0, if_pos h1]
    · rw [if_neg h0, if_neg h1]
      exact sf_congr _ _ fun x _ _ => by unfold soT; rw [if_neg h0, if_neg h1]
/-- UnitKitchensModel.sumOf(I)I -/
abbrev wX8_sumOf : List Cond := Cond.code yX8_sumOf cX8_sumOf 4 (some .int) :: xT
abbrev rX8_sumOf : Room := { frames := 2, cells := 0, slots := 0, locals := 43 }
def pX8_sumOf (Post : XPo) : List (Nat × XStp) := [(0, j_c 0 1), (1, j_ist 2 1), (2, j_c 0 1), (3, j_ist 3 1), (4, j_ild 3 1), (5, j_ald 0 1), (6, j_gR 20 (fun i k => (21, 0, 0))), (9, j_c 9 2), (11, j_iald), (12, j_ige 59), (15, j_ald 0 1), (16, j_ild 3 1), (17, j_V1 20 sX8_works), (20, j_eq 53), (23, j_ild 2 1), (24, j_ild 1 1), (25, j_ne 32), (28, j_c 1 1), (29, j_goto 51), (32, j_ild 1 1), (33, j_c 1 1), (34, j_ine 46), (37, j_ald 0 1), (38, j_ild 3 1), (39, j_c 2 1), (40, j_V2 20 sX8_ofUnit), (43, j_goto 51), (46, j_ald 0 1), (47, j_ild 3 1), (48, j_V1 20 sX8_owedTo), (51, j_add), (52, j_ist 2 1), (53, j_inc 3 1), (56, j_goto 4), (59, j_ild 2 1), (60, j_iret Post)]
set_option maxRecDepth 100000 in
theorem aX8_sumOf (Post : XPo) : XAll rX8_sumOf cX8_sumOf 4 RX8 wX8_sumOf (some .int) Post (pX8_sumOf Post) := XAll.cons (xs_iconst dX8_sumOf_0) (XAll.cons (xs_istore_n dX8_sumOf_1 rfl (by decide)) (XAll.cons (xs_iconst dX8_sumOf_2) (XAll.cons (xs_istore_n dX8_sumOf_3 rfl (by decide)) (XAll.cons (xs_iload_n dX8_sumOf_4 rfl) (XAll.cons (xs_aload_n dX8_sumOf_5 rfl) (XAll.cons (fgX8_0 tw_1048 dX8_sumOf_6) (XAll.cons (xs_bipush dX8_sumOf_9 rfl) (XAll.cons (xs_iald dX8_sumOf_11) (XAll.cons (xs_icmp_ge dX8_sumOf_12 (by decide)) (XAll.cons (xs_aload_n dX8_sumOf_15 rfl) (XAll.cons (xs_iload_n dX8_sumOf_16 rfl) (XAll.cons (xs_V1 kX8_works ⟨⟨rfl, rfl, by decide, by decide⟩, ⟨by decide, by decide, by decide +kernel⟩, ⟨tw_1228, tw_1230, tp_27, tw_9, tw_1231⟩, 8, TX8, _, rfl, fun G ρ f i k => ⟨_, rfl⟩⟩ dX8_sumOf_17) (XAll.cons (xs_if_eq dX8_sumOf_20 (by decide)) (XAll.cons (xs_iload_n dX8_sumOf_23 rfl) (XAll.cons (xs_iload_n dX8_sumOf_24 rfl) (XAll.cons (xs_if_ne dX8_sumOf_25 (by decide)) (XAll.cons (xs_iconst dX8_sumOf_28) (XAll.cons (xs_goto dX8_sumOf_29 (by decide)) (XAll.cons (xs_iload_n dX8_sumOf_32 rfl) (XAll.cons (xs_iconst dX8_sumOf_33) (XAll.cons (xs_icmp_ne dX8_sumOf_34 (by decide)) (XAll.cons (xs_aload_n dX8_sumOf_37 rfl) (XAll.cons (xs_iload_n dX8_sumOf_38 rfl) (XAll.cons (xs_iconst dX8_sumOf_39) (XAll.cons (xs_V2 kX8_ofUnit ⟨⟨rfl, rfl, by decide, by decide⟩, ⟨by decide, by decide, by decide +kernel⟩, ⟨tw_1224, tw_1226, tp_26, tw_9, tw_1227⟩, 8, TX8, _, rfl, fun G ρ f i k => ⟨_, rfl⟩⟩ dX8_sumOf_40) (XAll.cons (xs_goto dX8_sumOf_43 (by decide)) (XAll.cons (xs_aload_n dX8_sumOf_46 rfl) (XAll.cons (xs_iload_n dX8_sumOf_47 rfl) (XAll.cons (xs_V1 kX8_owedTo ⟨⟨rfl, rfl, by decide, by decide⟩, ⟨by decide, by decide, by decide +kernel⟩, ⟨tw_1252, tw_1254, tp_30, tw_9, tw_1255⟩, 8, TX8, _, rfl, fun G ρ f i k => ⟨_, rfl⟩⟩ dX8_sumOf_48) (XAll.cons (xs_iadd dX8_sumOf_51) (XAll.cons (xs_istore_n dX8_sumOf_52 rfl (by decide)) (XAll.cons (xs_iinc dX8_sumOf_53 (by decide)) (XAll.cons (xs_goto dX8_sumOf_56 (by decide)) (XAll.cons (xs_iload_n dX8_sumOf_59 rfl) (XAll.cons (xs_iret rfl dX8_sumOf_60) (XAll.nil))))))))))))))))))))))))))))))))))))
theorem fX8_sumOf_0 (Post : XPo) (cut : List Nat) (WW : XK) (n : Nat) (L : XLs) (st : List XV) (M : XM) : yru (xlk (pX8_sumOf Post)) cut WW (n + 1) 0 L st M = j_c 0 1 0 L st M (ykk (xlk (pX8_sumOf Post)) cut WW n) := yf rfl
theorem fX8_sumOf_1 (Post : XPo) (cut : List Nat) (WW : XK) (n : Nat) (L : XLs) (st : List XV) (M : XM) : yru (xlk (pX8_sumOf Post)) cut WW (n + 1) 1 L st M = j_ist 2 1 1 L st M (ykk (xlk (pX8_sumOf Post)) cut WW n) := yf rfl
theorem fX8_sumOf_2 (Post : XPo) (cut : List Nat) (WW : XK) (n : Nat) (L : XLs) (st : List XV) (M : XM) : yru (xlk (pX8_sumOf Post)) cut WW (n + 1) 2 L st M = j_c 0 1 2 L st M (ykk (xlk (pX8_sumOf Post)) cut WW n) := yf rfl
theorem fX8_sumOf_3 (Post : XPo) (cut : List Nat) (WW : XK) (n : Nat) (L : XLs) (st : List XV) (M : XM) : yru (xlk (pX8_sumOf Post)) cut WW (n + 1) 3 L st M = j_ist 3 1 3 L st M (ykk (xlk (pX8_sumOf Post)) cut WW n) := yf rfl
theorem fX8_sumOf_4 (Post : XPo) (cut : List Nat) (WW : XK) (n : Nat) (L : XLs) (st : List XV) (M : XM) : yru (xlk (pX8_sumOf Post)) cut WW (n + 1) 4 L st M = j_ild 3 1 4 L st M (ykk (xlk (pX8_sumOf Post)) cut WW n) := yf rfl
theorem fX8_sumOf_5 (Post : XPo) (cut : List Nat) (WW : XK) (n : Nat) (L : XLs) (st : List XV) (M : XM) : yru (xlk (pX8_sumOf Post)) cut WW (n + 1) 5 L st M = j_ald 0 1 5 L st M (ykk (xlk (pX8_sumOf Post)) cut WW n) := yf rfl
theorem fX8_sumOf_6 (Post : XPo) (cut : List Nat) (WW : XK) (n : Nat) (L : XLs) (st : List XV) (M : XM) : yru (xlk (pX8_sumOf Post)) cut WW (n + 1) 6 L st M = j_gR 20 (fun i k => (21, 0, 0)) 6 L st M (ykk (xlk (pX8_sumOf Post)) cut WW n) := yf rfl
theorem fX8_sumOf_9 (Post : XPo) (cut : List Nat) (WW : XK) (n : Nat) (L : XLs) (st : List XV) (M : XM) : yru (xlk (pX8_sumOf Post)) cut WW (n + 1) 9 L st M = j_c 9 2 9 L st M (ykk (xlk (pX8_sumOf Post)) cut WW n) := yf rfl
theorem fX8_sumOf_11 (Post : XPo) (cut : List Nat) (WW : XK) (n : Nat) (L : XLs) (st : List XV) (M : XM) : yru (xlk (pX8_sumOf Post)) cut WW (n + 1) 11 L st M = j_iald 11 L st M (ykk (xlk (pX8_sumOf Post)) cut WW n) := yf rfl
theorem fX8_sumOf_12 (Post : XPo) (cut : List Nat) (WW : XK) (n : Nat) (L : XLs) (st : List XV) (M : XM) : yru (xlk (pX8_sumOf Post)) cut WW (n + 1) 12 L st M = j_ige 59 12 L st M (ykk (xlk (pX8_sumOf Post)) cut WW n) := yf rfl
theorem fX8_sumOf_15 (Post : XPo) (cut : List Nat) (WW : XK) (n : Nat) (L : XLs) (st : List XV) (M : XM) : yru (xlk (pX8_sumOf Post)) cut WW (n + 1) 15 L st M = j_ald 0 1 15 L st M (ykk (xlk (pX8_sumOf Post)) cut WW n) := yf rfl
theorem fX8_sumOf_16 (Post : XPo) (cut : List Nat) (WW : XK) (n : Nat) (L : XLs) (st : List XV) (M : XM) : yru (xlk (pX8_sumOf Post)) cut WW (n + 1) 16 L st M = j_ild 3 1 16 L st M (ykk (xlk (pX8_sumOf Post)) cut WW n) := yf rfl
theorem fX8_sumOf_17 (Post : XPo) (cut : List Nat) (WW : XK) (n : Nat) (L : XLs) (st : List XV) (M : XM) : yru (xlk (pX8_sumOf Post)) cut WW (n + 1) 17 L st M = j_V1 20 sX8_works 17 L st M (ykk (xlk (pX8_sumOf Post)) cut WW n) := yf rfl
theorem fX8_sumOf_20 (Post : XPo) (cut : List Nat) (WW : XK) (n : Nat) (L : XLs) (st : List XV) (M : XM) : yru (xlk (pX8_sumOf Post)) cut WW (n + 1) 20 L st M = j_eq 53 20 L st M (ykk (xlk (pX8_sumOf Post)) cut WW n) := yf rfl
theorem fX8_sumOf_23 (Post : XPo) (cut : List Nat) (WW : XK) (n : Nat) (L : XLs) (st : List XV) (M : XM) : yru (xlk (pX8_sumOf Post)) cut WW (n + 1) 23 L st M = j_ild 2 1 23 L st M (ykk (xlk (pX8_sumOf Post)) cut WW n) := yf rfl
theorem fX8_sumOf_24 (Post : XPo) (cut : List Nat) (WW : XK) (n : Nat) (L : XLs) (st : List XV) (M : XM) : yru (xlk (pX8_sumOf Post)) cut WW (n + 1) 24 L st M = j_ild 1 1 24 L st M (ykk (xlk (pX8_sumOf Post)) cut WW n) := yf rfl
theorem fX8_sumOf_25 (Post : XPo) (cut : List Nat) (WW : XK) (n : Nat) (L : XLs) (st : List XV) (M : XM) : yru (xlk (pX8_sumOf Post)) cut WW (n + 1) 25 L st M = j_ne 32 25 L st M (ykk (xlk (pX8_sumOf Post)) cut WW n) := yf rfl
theorem fX8_sumOf_28 (Post : XPo) (cut : List Nat) (WW : XK) (n : Nat) (L : XLs) (st : List XV) (M : XM) : yru (xlk (pX8_sumOf Post)) cut WW (n + 1) 28 L st M = j_c 1 1 28 L st M (ykk (xlk (pX8_sumOf Post)) cut WW n) := yf rfl
theorem fX8_sumOf_29 (Post : XPo) (cut : List Nat) (WW : XK) (n : Nat) (L : XLs) (st : List XV) (M : XM) : yru (xlk (pX8_sumOf Post)) cut WW (n + 1) 29 L st M = j_goto 51 29 L st M (ykk (xlk (pX8_sumOf Post)) cut WW n) := yf rfl
theorem fX8_sumOf_32 (Post : XPo) (cut : List Nat) (WW : XK) (n : Nat) (L : XLs) (st : List XV) (M : XM) : yru (xlk (pX8_sumOf Post)) cut WW (n + 1) 32 L st M = j_ild 1 1 32 L st M (ykk (xlk (pX8_sumOf Post)) cut WW n) := yf rfl
theorem fX8_sumOf_33 (Post : XPo) (cut : List Nat) (WW : XK) (n : Nat) (L : XLs) (st : List XV) (M : XM) : yru (xlk (pX8_sumOf Post)) cut WW (n + 1) 33 L st M = j_c 1 1 33 L st M (ykk (xlk (pX8_sumOf Post)) cut WW n) := yf rfl
theorem fX8_sumOf_34 (Post : XPo) (cut : List Nat) (WW : XK) (n : Nat) (L : XLs) (st : List XV) (M : XM) : yru (xlk (pX8_sumOf Post)) cut WW (n + 1) 34 L st M = j_ine 46 34 L st M (ykk (xlk (pX8_sumOf Post)) cut WW n) := yf rfl
theorem fX8_sumOf_37 (Post : XPo) (cut : List Nat) (WW : XK) (n : Nat) (L : XLs) (st : List XV) (M : XM) : yru (xlk (pX8_sumOf Post)) cut WW (n + 1) 37 L st M = j_ald 0 1 37 L st M (ykk (xlk (pX8_sumOf Post)) cut WW n) := yf rfl
theorem fX8_sumOf_38 (Post : XPo) (cut : List Nat) (WW : XK) (n : Nat) (L : XLs) (st : List XV) (M : XM) : yru (xlk (pX8_sumOf Post)) cut WW (n + 1) 38 L st M = j_ild 3 1 38 L st M (ykk (xlk (pX8_sumOf Post)) cut WW n) := yf rfl
theorem fX8_sumOf_39 (Post : XPo) (cut : List Nat) (WW : XK) (n : Nat) (L : XLs) (st : List XV) (M : XM) : yru (xlk (pX8_sumOf Post)) cut WW (n + 1) 39 L st M = j_c 2 1 39 L st M (ykk (xlk (pX8_sumOf Post)) cut WW n) := yf rfl
theorem fX8_sumOf_40 (Post : XPo) (cut : List Nat) (WW : XK) (n : Nat) (L : XLs) (st : List XV) (M : XM) : yru (xlk (pX8_sumOf Post)) cut WW (n + 1) 40 L st M = j_V2 20 sX8_ofUnit 40 L st M (ykk (xlk (pX8_sumOf Post)) cut WW n) := yf rfl
theorem fX8_sumOf_43 (Post : XPo) (cut : List Nat) (WW : XK) (n : Nat) (L : XLs) (st : List XV) (M : XM) : yru (xlk (pX8_sumOf Post)) cut WW (n + 1) 43 L st M = j_goto 51 43 L st M (ykk (xlk (pX8_sumOf Post)) cut WW n) := yf rfl
theorem fX8_sumOf_46 (Post : XPo) (cut : List Nat) (WW : XK) (n : Nat) (L : XLs) (st : List XV) (M : XM) : yru (xlk (pX8_sumOf Post)) cut WW (n + 1) 46 L st M = j_ald 0 1 46 L st M (ykk (xlk (pX8_sumOf Post)) cut WW n) := yf rfl
theorem fX8_sumOf_47 (Post : XPo) (cut : List Nat) (WW : XK) (n : Nat) (L : XLs) (st : List XV) (M : XM) : yru (xlk (pX8_sumOf Post)) cut WW (n + 1) 47 L st M = j_ild 3 1 47 L st M (ykk (xlk (pX8_sumOf Post)) cut WW n) := yf rfl
theorem fX8_sumOf_48 (Post : XPo) (cut : List Nat) (WW : XK) (n : Nat) (L : XLs) (st : List XV) (M : XM) : yru (xlk (pX8_sumOf Post)) cut WW (n + 1) 48 L st M = j_V1 20 sX8_owedTo 48 L st M (ykk (xlk (pX8_sumOf Post)) cut WW n) := yf rfl
theorem fX8_sumOf_51 (Post : XPo) (cut : List Nat) (WW : XK) (n : Nat) (L : XLs) (st : List XV) (M : XM) : yru (xlk (pX8_sumOf Post)) cut WW (n + 1) 51 L st M = j_add 51 L st M (ykk (xlk (pX8_sumOf Post)) cut WW n) := yf rfl
theorem fX8_sumOf_52 (Post : XPo) (cut : List Nat) (WW : XK) (n : Nat) (L : XLs) (st : List XV) (M : XM) : yru (xlk (pX8_sumOf Post)) cut WW (n + 1) 52 L st M = j_ist 2 1 52 L st M (ykk (xlk (pX8_sumOf Post)) cut WW n) := yf rfl
theorem fX8_sumOf_53 (Post : XPo) (cut : List Nat) (WW : XK) (n : Nat) (L : XLs) (st : List XV) (M : XM) : yru (xlk (pX8_sumOf Post)) cut WW (n + 1) 53 L st M = j_inc 3 1 53 L st M (ykk (xlk (pX8_sumOf Post)) cut WW n) := yf rfl
theorem fX8_sumOf_56 (Post : XPo) (cut : List Nat) (WW : XK) (n : Nat) (L : XLs) (st : List XV) (M : XM) : yru (xlk (pX8_sumOf Post)) cut WW (n + 1) 56 L st M = j_goto 4 56 L st M (ykk (xlk (pX8_sumOf Post)) cut WW n) := yf rfl
theorem fX8_sumOf_59 (Post : XPo) (cut : List Nat) (WW : XK) (n : Nat) (L : XLs) (st : List XV) (M : XM) : yru (xlk (pX8_sumOf Post)) cut WW (n + 1) 59 L st M = j_ild 2 1 59 L st M (ykk (xlk (pX8_sumOf Post)) cut WW n) := yf rfl
theorem fX8_sumOf_60 (Post : XPo) (cut : List Nat) (WW : XK) (n : Nat) (L : XLs) (st : List XV) (M : XM) : yru (xlk (pX8_sumOf Post)) cut WW (n + 1) 60 L st M = j_iret Post 60 L st M (ykk (xlk (pX8_sumOf Post)) cut WW n) := yf rfl
set_option maxRecDepth 100000 in
theorem kX8_sumOf_loop {Post : XPo} {WW : XK} (hC : XCl (xlk (pX8_sumOf Post)) WW) {F M : XM} {f w : Int} (hG : GG F f M) (hw : 0 ≤ w ∧ w ≤ 2) : ∀ (n : Nat) (u sum : Int), 0 ≤ u → u + n = F 1 f 0 10 → Post [xI (sum + sf (soT F f w) u n)] M → WW 4 [some (xR 20 0 0), some (xI w), some (xI sum), some (xI u)] [] M := by
  have hI := hG.1.1
  have e9 := GG_9 hG
  have c10 := hG.2.1.2.2.2.1
  have r9 : XInR (F 1 f 0 10) := ⟨by omega, by omega⟩
  intro n
  induction n with
  | zero =>
    intro u sum h0 h1 h
    have eu : u = F 1 f 0 10 := by omega
    simp only [sf, Int.add_zero] at h
    subst eu
    refine yru_ok hC [4] 8 _ _ _ _ ?_
    simp only [ykk_ap, Int.reduceEq, Int.reduceLT, Int.reduceLE, Int.reduceNeg, Int.reduceAdd, Int.reduceSub, Int.reduceMul, and_self, false_and, and_false, not_true_eq_false, not_false_eq_true, true_implies, false_implies, xq0, xq1, xq2, xq3, xq4, xq5, xqR, xq1R, xq3R, xt1, xt2, xt3, List.mem_cons, List.not_mem_nil, or_false, false_or, or_self, if_false, if_true, reduceIte, reduceCtorEq, xent, xen, List.length_cons, List.length_nil, List.replicate, j_c, j_cJ, j_ild, j_ald, j_lld, j_ist, j_ast, j_lst, j_inc, j_add, j_sub, j_mul, j_neg, j_div, j_rem, j_and, j_shr, j_shl1, j_or, j_ladd, j_lsub, j_lmul, j_i2l, j_lcmp, j_i2c, j_dup, j_dup2, j_pop, j_goto, j_ieq, j_ine, j_ilt, j_ige, j_igt, j_ile, j_eq, j_ne, j_lt, j_ge, j_gt, j_le, xsw, j_tsw, j_lsw2, j_gI, j_gJ, j_gR, j_pI, j_pJ, j_gs, j_iald, j_iast, j_cald, j_cast, j_lald, j_last, j_aald, j_cpy, j_min, j_max, j_abs, j_iret, j_zret, j_lret, j_dret, j_ret0, j_V0, j_V1, j_V2, j_V3, j_V4, j_V5, j_S1, j_S2, j_S3, xget, xset, xset2, xclr, xc1, xcat, Nat.reduceAdd, Nat.reduceEqDiff, Nat.reduceLT, Nat.reduceLeDiff, Nat.reduceMul, List.cons_append, List.nil_append, true_and, and_true, List.singleton_append, fX8_sumOf_0, fX8_sumOf_1, fX8_sumOf_2, fX8_sumOf_3, fX8_sumOf_4, fX8_sumOf_5, fX8_sumOf_6, fX8_sumOf_9, fX8_sumOf_11, fX8_sumOf_12, fX8_sumOf_15, fX8_sumOf_16, fX8_sumOf_17, fX8_sumOf_20, fX8_sumOf_23, fX8_sumOf_24, fX8_sumOf_25, fX8_sumOf_28, fX8_sumOf_29, fX8_sumOf_32, fX8_sumOf_33, fX8_sumOf_34, fX8_sumOf_37, fX8_sumOf_38, fX8_sumOf_39, fX8_sumOf_40, fX8_sumOf_43, fX8_sumOf_46, fX8_sumOf_47, fX8_sumOf_48, fX8_sumOf_51, fX8_sumOf_52, fX8_sumOf_53, fX8_sumOf_56, fX8_sumOf_59, fX8_sumOf_60, sX8_works, sX8_ofUnit, sX8_owedTo, xvz_20, xvz_21, xrz_21, xdz_21, xlen, xcat, xc1, Nat.zero_le, Nat.reduceLeDiff, e9, r9, Int.le_refl]
    exact h
  | succ n ih =>
    intro u sum h0 h1 h
    have g1 : ¬ F 1 f 0 10 ≤ u := by omega
    have u12 : u < 12 := by omega
    have r1 : XInR u := ⟨by omega, by omega⟩
    have hW := GG_u hG h0 (by omega)
    unfold gW1 at hW
    obtain ⟨e0, e1, q9, q10, q11, -, hw1, hw0⟩ := hW
    have r0 : XInR (F 14 f u 0) := by rw [← e0]; exact hI _ (by unfold zJ; omega)
    simp only [sf] at h
    rw [← Int.add_assoc] at h
    have hb := ih (u + 1) (sum + soT F f w u) (by omega) (by omega) h
    unfold soT nworkingUnits npeople nowed at hb
    by_cases hs : F 14 f u 0 = 0
    · have e2 := (hw1 hs).1 2 (by decide) (by decide)
      have e6 := (hw1 hs).1 6 (by decide) (by decide)
      have e7 := (hw1 hs).1 7 (by decide) (by decide)
      have rw' : XInR w := ⟨by omega, by omega⟩
      have h51 : ∀ v : Int, v = (if w = 0 then (if F 14 f u 0 = 0 then 1 else 0) else if w = 1 then F 14 f u 2 else F 14 f u 6 + F 14 f u 7) → WW 51 [some (xR 20 0 0), some (xI w), some (xI sum), some (xI u)] [xI v, xI sum] M := by
        intro v hv
        rw [← hv] at hb
        refine yru_ok hC [4] 5 _ _ _ _ ?_
        simp only [ykk_ap, Int.reduceEq, Int.reduceLT, Int.reduceLE, Int.reduceNeg, Int.reduceAdd, Int.reduceSub, Int.reduceMul, and_self, false_and, and_false, not_true_eq_false, not_false_eq_true, true_implies, false_implies, xq0, xq1, xq2, xq3, xq4, xq5, xqR, xq1R, xq3R, xt1, xt2, xt3, List.mem_cons, List.not_mem_nil, or_false, false_or, or_self, if_false, if_true, reduceIte, reduceCtorEq, xent, xen, List.length_cons, List.length_nil, List.replicate, j_c, j_cJ, j_ild, j_ald, j_lld, j_ist, j_ast, j_lst, j_inc, j_add, j_sub, j_mul, j_neg, j_div, j_rem, j_and, j_shr, j_shl1, j_or, j_ladd, j_lsub, j_lmul, j_i2l, j_lcmp, j_i2c, j_dup, j_dup2, j_pop, j_goto, j_ieq, j_ine, j_ilt, j_ige, j_igt, j_ile, j_eq, j_ne, j_lt, j_ge, j_gt, j_le, xsw, j_tsw, j_lsw2, j_gI, j_gJ, j_gR, j_pI, j_pJ, j_gs, j_iald, j_iast, j_cald, j_cast, j_lald, j_last, j_aald, j_cpy, j_min, j_max, j_abs, j_iret, j_zret, j_lret, j_dret, j_ret0, j_V0, j_V1, j_V2, j_V3, j_V4, j_V5, j_S1, j_S2, j_S3, xget, xset, xset2, xclr, xc1, xcat, Nat.reduceAdd, Nat.reduceEqDiff, Nat.reduceLT, Nat.reduceLeDiff, Nat.reduceMul, List.cons_append, List.nil_append, true_and, and_true, List.singleton_append, fX8_sumOf_0, fX8_sumOf_1, fX8_sumOf_2, fX8_sumOf_3, fX8_sumOf_4, fX8_sumOf_5, fX8_sumOf_6, fX8_sumOf_9, fX8_sumOf_11, fX8_sumOf_12, fX8_sumOf_15, fX8_sumOf_16, fX8_sumOf_17, fX8_sumOf_20, fX8_sumOf_23, fX8_sumOf_24, fX8_sumOf_25, fX8_sumOf_28, fX8_sumOf_29, fX8_sumOf_32, fX8_sumOf_33, fX8_sumOf_34, fX8_sumOf_37, fX8_sumOf_38, fX8_sumOf_39, fX8_sumOf_40, fX8_sumOf_43, fX8_sumOf_46, fX8_sumOf_47, fX8_sumOf_48, fX8_sumOf_51, fX8_sumOf_52, fX8_sumOf_53, fX8_sumOf_56, fX8_sumOf_59, fX8_sumOf_60, sX8_works, sX8_ofUnit, sX8_owedTo, xvz_20, xvz_21, xrz_21, xdz_21, xlen, xcat, xc1, Nat.zero_le, Nat.reduceLeDiff]
        exact hb
      refine yru_ok hC [4, 23] 10 _ _ _ _ ?_
      simp only [ykk_ap, Int.reduceEq, Int.reduceLT, Int.reduceLE, Int.reduceNeg, Int.reduceAdd, Int.reduceSub, Int.reduceMul, and_self, false_and, and_false, not_true_eq_false, not_false_eq_true, true_implies, false_implies, xq0, xq1, xq2, xq3, xq4, xq5, xqR, xq1R, xq3R, xt1, xt2, xt3, List.mem_cons, List.not_mem_nil, or_false, false_or, or_self, if_false, if_true, reduceIte, reduceCtorEq, xent, xen, List.length_cons, List.length_nil, List.replicate, j_c, j_cJ, j_ild, j_ald, j_lld, j_ist, j_ast, j_lst, j_inc, j_add, j_sub, j_mul, j_neg, j_div, j_rem, j_and, j_shr, j_shl1, j_or, j_ladd, j_lsub, j_lmul, j_i2l, j_lcmp, j_i2c, j_dup, j_dup2, j_pop, j_goto, j_ieq, j_ine, j_ilt, j_ige, j_igt, j_ile, j_eq, j_ne, j_lt, j_ge, j_gt, j_le, xsw, j_tsw, j_lsw2, j_gI, j_gJ, j_gR, j_pI, j_pJ, j_gs, j_iald, j_iast, j_cald, j_cast, j_lald, j_last, j_aald, j_cpy, j_min, j_max, j_abs, j_iret, j_zret, j_lret, j_dret, j_ret0, j_V0, j_V1, j_V2, j_V3, j_V4, j_V5, j_S1, j_S2, j_S3, xget, xset, xset2, xclr, xc1, xcat, Nat.reduceAdd, Nat.reduceEqDiff, Nat.reduceLT, Nat.reduceLeDiff, Nat.reduceMul, List.cons_append, List.nil_append, true_and, and_true, List.singleton_append, fX8_sumOf_0, fX8_sumOf_1, fX8_sumOf_2, fX8_sumOf_3, fX8_sumOf_4, fX8_sumOf_5, fX8_sumOf_6, fX8_sumOf_9, fX8_sumOf_11, fX8_sumOf_12, fX8_sumOf_15, fX8_sumOf_16, fX8_sumOf_17, fX8_sumOf_20, fX8_sumOf_23, fX8_sumOf_24, fX8_sumOf_25, fX8_sumOf_28, fX8_sumOf_29, fX8_sumOf_32, fX8_sumOf_33, fX8_sumOf_34, fX8_sumOf_37, fX8_sumOf_38, fX8_sumOf_39, fX8_sumOf_40, fX8_sumOf_43, fX8_sumOf_46, fX8_sumOf_47, fX8_sumOf_48, fX8_sumOf_51, fX8_sumOf_52, fX8_sumOf_53, fX8_sumOf_56, fX8_sumOf_59, fX8_sumOf_60, sX8_works, sX8_ofUnit, sX8_owedTo, xvz_20, xvz_21, xrz_21, xdz_21, xlen, xcat, xc1, Nat.zero_le, Nat.reduceLeDiff, e9, r9, r1, g1, h0, u12, e0, r0, hs, xr_c (n := 0) rfl, xr_c (n := 1) rfl]
      by_cases w0 : w = 0
      · have q := h51 1 (by rw [if_pos w0, if_pos hs])
        refine yru_ok hC [51] 6 _ _ _ _ ?_
        simp only [ykk_ap, Int.reduceEq, Int.reduceLT, Int.reduceLE, Int.reduceNeg, Int.reduceAdd, Int.reduceSub, Int.reduceMul, and_self, false_and, and_false, not_true_eq_false, not_false_eq_true, true_implies, false_implies, xq0, xq1, xq2, xq3, xq4, xq5, xqR, xq1R, xq3R, xt1, xt2, xt3, List.mem_cons, List.not_mem_nil, or_false, false_or, or_self, if_false, if_true, reduceIte, reduceCtorEq, xent, xen, List.length_cons, List.length_nil, List.replicate, j_c, j_cJ, j_ild, j_ald, j_lld, j_ist, j_ast, j_lst, j_inc, j_add, j_sub, j_mul, j_neg, j_div, j_rem, j_and, j_shr, j_shl1, j_or, j_ladd, j_lsub, j_lmul, j_i2l, j_lcmp, j_i2c, j_dup, j_dup2, j_pop, j_goto, j_ieq, j_ine, j_ilt, j_ige, j_igt, j_ile, j_eq, j_ne, j_lt, j_ge, j_gt, j_le, xsw, j_tsw, j_lsw2, j_gI, j_gJ, j_gR, j_pI, j_pJ, j_gs, j_iald, j_iast, j_cald, j_cast, j_lald, j_last, j_aald, j_cpy, j_min, j_max, j_abs, j_iret, j_zret, j_lret, j_dret, j_ret0, j_V0, j_V1, j_V2, j_V3, j_V4, j_V5, j_S1, j_S2, j_S3, xget, xset, xset2, xclr, xc1, xcat, Nat.reduceAdd, Nat.reduceEqDiff, Nat.reduceLT, Nat.reduceLeDiff, Nat.reduceMul, List.cons_append, List.nil_append, true_and, and_true, List.singleton_append, fX8_sumOf_0, fX8_sumOf_1, fX8_sumOf_2, fX8_sumOf_3, fX8_sumOf_4, fX8_sumOf_5, fX8_sumOf_6, fX8_sumOf_9, fX8_sumOf_11, fX8_sumOf_12, fX8_sumOf_15, fX8_sumOf_16, fX8_sumOf_17, fX8_sumOf_20, fX8_sumOf_23, fX8_sumOf_24, fX8_sumOf_25, fX8_sumOf_28, fX8_sumOf_29, fX8_sumOf_32, fX8_sumOf_33, fX8_sumOf_34, fX8_sumOf_37, fX8_sumOf_38, fX8_sumOf_39, fX8_sumOf_40, fX8_sumOf_43, fX8_sumOf_46, fX8_sumOf_47, fX8_sumOf_48, fX8_sumOf_51, fX8_sumOf_52, fX8_sumOf_53, fX8_sumOf_56, fX8_sumOf_59, fX8_sumOf_60, sX8_works, sX8_ofUnit, sX8_owedTo, xvz_20, xvz_21, xrz_21, xdz_21, xlen, xcat, xc1, Nat.zero_le, Nat.reduceLeDiff, rw', w0, xr_c (n := 0) rfl]
        rw [w0] at q
        exact q
      · by_cases w1 : w = 1
        · have q := h51 (F 14 f u 2) (by rw [if_neg w0, if_pos w1])
          refine yru_ok hC [51] 11 _ _ _ _ ?_
          simp only [ykk_ap, Int.reduceEq, Int.reduceLT, Int.reduceLE, Int.reduceNeg, Int.reduceAdd, Int.reduceSub, Int.reduceMul, and_self, false_and, and_false, not_true_eq_false, not_false_eq_true, true_implies, false_implies, xq0, xq1, xq2, xq3, xq4, xq5, xqR, xq1R, xq3R, xt1, xt2, xt3, List.mem_cons, List.not_mem_nil, or_false, false_or, or_self, if_false, if_true, reduceIte, reduceCtorEq, xent, xen, List.length_cons, List.length_nil, List.replicate, j_c, j_cJ, j_ild, j_ald, j_lld, j_ist, j_ast, j_lst, j_inc, j_add, j_sub, j_mul, j_neg, j_div, j_rem, j_and, j_shr, j_shl1, j_or, j_ladd, j_lsub, j_lmul, j_i2l, j_lcmp, j_i2c, j_dup, j_dup2, j_pop, j_goto, j_ieq, j_ine, j_ilt, j_ige, j_igt, j_ile, j_eq, j_ne, j_lt, j_ge, j_gt, j_le, xsw, j_tsw, j_lsw2, j_gI, j_gJ, j_gR, j_pI, j_pJ, j_gs, j_iald, j_iast, j_cald, j_cast, j_lald, j_last, j_aald, j_cpy, j_min, j_max, j_abs, j_iret, j_zret, j_lret, j_dret, j_ret0, j_V0, j_V1, j_V2, j_V3, j_V4, j_V5, j_S1, j_S2, j_S3, xget, xset, xset2, xclr, xc1, xcat, Nat.reduceAdd, Nat.reduceEqDiff, Nat.reduceLT, Nat.reduceLeDiff, Nat.reduceMul, List.cons_append, List.nil_append, true_and, and_true, List.singleton_append, fX8_sumOf_0, fX8_sumOf_1, fX8_sumOf_2, fX8_sumOf_3, fX8_sumOf_4, fX8_sumOf_5, fX8_sumOf_6, fX8_sumOf_9, fX8_sumOf_11, fX8_sumOf_12, fX8_sumOf_15, fX8_sumOf_16, fX8_sumOf_17, fX8_sumOf_20, fX8_sumOf_23, fX8_sumOf_24, fX8_sumOf_25, fX8_sumOf_28, fX8_sumOf_29, fX8_sumOf_32, fX8_sumOf_33, fX8_sumOf_34, fX8_sumOf_37, fX8_sumOf_38, fX8_sumOf_39, fX8_sumOf_40, fX8_sumOf_43, fX8_sumOf_46, fX8_sumOf_47, fX8_sumOf_48, fX8_sumOf_51, fX8_sumOf_52, fX8_sumOf_53, fX8_sumOf_56, fX8_sumOf_59, fX8_sumOf_60, sX8_works, sX8_ofUnit, sX8_owedTo, xvz_20, xvz_21, xrz_21, xdz_21, xlen, xcat, xc1, Nat.zero_le, Nat.reduceLeDiff, rw', w0, w1, h0, u12, e2, xr_c (n := 0) rfl, xr_c (n := 1) rfl]
          rw [w1] at q
          exact q
        · have q := h51 (F 14 f u 6 + F 14 f u 7) (by rw [if_neg w0, if_neg w1])
          refine yru_ok hC [51] 11 _ _ _ _ ?_
          simp only [ykk_ap, Int.reduceEq, Int.reduceLT, Int.reduceLE, Int.reduceNeg, Int.reduceAdd, Int.reduceSub, Int.reduceMul, and_self, false_and, and_false, not_true_eq_false, not_false_eq_true, true_implies, false_implies, xq0, xq1, xq2, xq3, xq4, xq5, xqR, xq1R, xq3R, xt1, xt2, xt3, List.mem_cons, List.not_mem_nil, or_false, false_or, or_self, if_false, if_true, reduceIte, reduceCtorEq, xent, xen, List.length_cons, List.length_nil, List.replicate, j_c, j_cJ, j_ild, j_ald, j_lld, j_ist, j_ast, j_lst, j_inc, j_add, j_sub, j_mul, j_neg, j_div, j_rem, j_and, j_shr, j_shl1, j_or, j_ladd, j_lsub, j_lmul, j_i2l, j_lcmp, j_i2c, j_dup, j_dup2, j_pop, j_goto, j_ieq, j_ine, j_ilt, j_ige, j_igt, j_ile, j_eq, j_ne, j_lt, j_ge, j_gt, j_le, xsw, j_tsw, j_lsw2, j_gI, j_gJ, j_gR, j_pI, j_pJ, j_gs, j_iald, j_iast, j_cald, j_cast, j_lald, j_last, j_aald, j_cpy, j_min, j_max, j_abs, j_iret, j_zret, j_lret, j_dret, j_ret0, j_V0, j_V1, j_V2, j_V3, j_V4, j_V5, j_S1, j_S2, j_S3, xget, xset, xset2, xclr, xc1, xcat, Nat.reduceAdd, Nat.reduceEqDiff, Nat.reduceLT, Nat.reduceLeDiff, Nat.reduceMul, List.cons_append, List.nil_append, true_and, and_true, List.singleton_append, fX8_sumOf_0, fX8_sumOf_1, fX8_sumOf_2, fX8_sumOf_3, fX8_sumOf_4, fX8_sumOf_5, fX8_sumOf_6, fX8_sumOf_9, fX8_sumOf_11, fX8_sumOf_12, fX8_sumOf_15, fX8_sumOf_16, fX8_sumOf_17, fX8_sumOf_20, fX8_sumOf_23, fX8_sumOf_24, fX8_sumOf_25, fX8_sumOf_28, fX8_sumOf_29, fX8_sumOf_32, fX8_sumOf_33, fX8_sumOf_34, fX8_sumOf_37, fX8_sumOf_38, fX8_sumOf_39, fX8_sumOf_40, fX8_sumOf_43, fX8_sumOf_46, fX8_sumOf_47, fX8_sumOf_48, fX8_sumOf_51, fX8_sumOf_52, fX8_sumOf_53, fX8_sumOf_56, fX8_sumOf_59, fX8_sumOf_60, sX8_works, sX8_ofUnit, sX8_owedTo, xvz_20, xvz_21, xrz_21, xdz_21, xlen, xcat, xc1, Nat.zero_le, Nat.reduceLeDiff, rw', w0, w1, h0, u12, e6, e7, xr_c (n := 0) rfl, xr_c (n := 1) rfl]
          exact q
    · obtain ⟨p2, p3, p6, p7, p8⟩ := hw0 hs
      have hb' : WW 4 [some (xR 20 0 0), some (xI w), some (xI sum), some (xI (u + 1))] [] M := by
        rcases (show w = 0 ∨ w = 1 ∨ w = 2 by omega) with rfl | rfl | rfl
        all_goals
          simp only [hs, p2, p6, p7, if_true, if_false, Int.reduceEq, Int.add_zero] at hb
          exact hb
      refine yru_ok hC [4, 23] 60 _ _ _ _ ?_
      simp only [ykk_ap, Int.reduceEq, Int.reduceLT, Int.reduceLE, Int.reduceNeg, Int.reduceAdd, Int.reduceSub, Int.reduceMul, and_self, false_and, and_false, not_true_eq_false, not_false_eq_true, true_implies, false_implies, xq0, xq1, xq2, xq3, xq4, xq5, xqR, xq1R, xq3R, xt1, xt2, xt3, List.mem_cons, List.not_mem_nil, or_false, false_or, or_self, if_false, if_true, reduceIte, reduceCtorEq, xent, xen, List.length_cons, List.length_nil, List.replicate, j_c, j_cJ, j_ild, j_ald, j_lld, j_ist, j_ast, j_lst, j_inc, j_add, j_sub, j_mul, j_neg, j_div, j_rem, j_and, j_shr, j_shl1, j_or, j_ladd, j_lsub, j_lmul, j_i2l, j_lcmp, j_i2c, j_dup, j_dup2, j_pop, j_goto, j_ieq, j_ine, j_ilt, j_ige, j_igt, j_ile, j_eq, j_ne, j_lt, j_ge, j_gt, j_le, xsw, j_tsw, j_lsw2, j_gI, j_gJ, j_gR, j_pI, j_pJ, j_gs, j_iald, j_iast, j_cald, j_cast, j_lald, j_last, j_aald, j_cpy, j_min, j_max, j_abs, j_iret, j_zret, j_lret, j_dret, j_ret0, j_V0, j_V1, j_V2, j_V3, j_V4, j_V5, j_S1, j_S2, j_S3, xget, xset, xset2, xclr, xc1, xcat, Nat.reduceAdd, Nat.reduceEqDiff, Nat.reduceLT, Nat.reduceLeDiff, Nat.reduceMul, List.cons_append, List.nil_append, true_and, and_true, List.singleton_append, fX8_sumOf_0, fX8_sumOf_1, fX8_sumOf_2, fX8_sumOf_3, fX8_sumOf_4, fX8_sumOf_5, fX8_sumOf_6, fX8_sumOf_9, fX8_sumOf_11, fX8_sumOf_12, fX8_sumOf_15, fX8_sumOf_16, fX8_sumOf_17, fX8_sumOf_20, fX8_sumOf_23, fX8_sumOf_24, fX8_sumOf_25, fX8_sumOf_28, fX8_sumOf_29, fX8_sumOf_32, fX8_sumOf_33, fX8_sumOf_34, fX8_sumOf_37, fX8_sumOf_38, fX8_sumOf_39, fX8_sumOf_40, fX8_sumOf_43, fX8_sumOf_46, fX8_sumOf_47, fX8_sumOf_48, fX8_sumOf_51, fX8_sumOf_52, fX8_sumOf_53, fX8_sumOf_56, fX8_sumOf_59, fX8_sumOf_60, sX8_works, sX8_ofUnit, sX8_owedTo, xvz_20, xvz_21, xrz_21, xdz_21, xlen, xcat, xc1, Nat.zero_le, Nat.reduceLeDiff, e9, r9, r1, g1, h0, u12, e0, r0, hs, xr_c (n := 0) rfl, xr_c (n := 1) rfl, xr_c (n := 2) rfl]
      exact hb'
def sX8_sumOf : XSp := xq1 20 (fun _ _ w M Q => ∃ (F : XM) (f : Int), GG F f M ∧ (0 ≤ w ∧ w ≤ 2) ∧ Q [xI (soF F f w)] M)
theorem xg_sumOf {F : XM} {f : Int} {M : XM} {Q : XPo} {w : Int} (hG : GG F f M) (hc : 0 ≤ w ∧ w ≤ 2) (h : Q [xI (soF F f w)] M) : sX8_sumOf [xR 20 0 0, xI w] M Q := @id ((20 = 20 ∧ xval 20 0 0) ∧ ∃ (F : XM) (f : Int), GG F f M ∧ (0 ≤ w ∧ w ≤ 2) ∧ Q [xI (soF F f w)] M) ⟨⟨rfl, xvz_20⟩, F, f, hG, hc, h⟩
set_option maxRecDepth 100000 in
theorem kX8_sumOf : XCn yX8_sumOf wX8_sumOf rX8_sumOf sX8_sumOf := XC1 pX8_sumOf rfl rfl aX8_sumOf (by decide) (fun i0 k0 w M Post hv h WW hC => by
  obtain ⟨rfl, rfl⟩ := xk20 hv
  obtain ⟨F, f, hG, hc, h⟩ := h
  have c10 := hG.2.1.2.2.2.1
  have hk := kX8_sumOf_loop hC hG hc (F 1 f 0 10).toNat 0 0 (by decide) (by omega) (by rw [Int.zero_add, soF_eq]; exact h)
  show WW 0 [some (xR 20 0 0), some (xI w), none, none] [] M
  refine yru_ok hC [4] 5 _ _ _ _ ?_
  simp only [ykk_ap, Int.reduceEq, Int.reduceLT, Int.reduceLE, Int.reduceNeg, Int.reduceAdd, Int.reduceSub, Int.reduceMul, and_self, false_and, and_false, not_true_eq_false, not_false_eq_true, true_implies, false_implies, xq0, xq1, xq2, xq3, xq4, xq5, xqR, xq1R, xq3R, xt1, xt2, xt3, List.mem_cons, List.not_mem_nil, or_false, false_or, or_self, if_false, if_true, reduceIte, reduceCtorEq, xent, xen, List.length_cons, List.length_nil, List.replicate, j_c, j_cJ, j_ild, j_ald, j_lld, j_ist, j_ast, j_lst, j_inc, j_add, j_sub, j_mul, j_neg, j_div, j_rem, j_and, j_shr, j_shl1, j_or, j_ladd, j_lsub, j_lmul, j_i2l, j_lcmp, j_i2c, j_dup, j_dup2, j_pop, j_goto, j_ieq, j_ine, j_ilt, j_ige, j_igt, j_ile, j_eq, j_ne, j_lt, j_ge, j_gt, j_le, xsw, j_tsw, j_lsw2, j_gI, j_gJ, j_gR, j_pI, j_pJ, j_gs, j_iald, j_iast, j_cald, j_cast, j_lald, j_last, j_aald, j_cpy, j_min, j_max, j_abs, j_iret, j_zret, j_lret, j_dret, j_ret0, j_V0, j_V1, j_V2, j_V3, j_V4, j_V5, j_S1, j_S2, j_S3, xget, xset, xset2, xclr, xc1, xcat, Nat.reduceAdd, Nat.reduceEqDiff, Nat.reduceLT, Nat.reduceLeDiff, Nat.reduceMul, List.cons_append, List.nil_append, true_and, and_true, List.singleton_append, fX8_sumOf_0, fX8_sumOf_1, fX8_sumOf_2, fX8_sumOf_3, fX8_sumOf_4, fX8_sumOf_5, fX8_sumOf_6, fX8_sumOf_9, fX8_sumOf_11, fX8_sumOf_12, fX8_sumOf_15, fX8_sumOf_16, fX8_sumOf_17, fX8_sumOf_20, fX8_sumOf_23, fX8_sumOf_24, fX8_sumOf_25, fX8_sumOf_28, fX8_sumOf_29, fX8_sumOf_32, fX8_sumOf_33, fX8_sumOf_34, fX8_sumOf_37, fX8_sumOf_38, fX8_sumOf_39, fX8_sumOf_40, fX8_sumOf_43, fX8_sumOf_46, fX8_sumOf_47, fX8_sumOf_48, fX8_sumOf_51, fX8_sumOf_52, fX8_sumOf_53, fX8_sumOf_56, fX8_sumOf_59, fX8_sumOf_60, sX8_works, sX8_ofUnit, sX8_owedTo, xvz_20, xvz_21, xrz_21, xdz_21, xlen, xcat, xc1, Nat.zero_le, Nat.reduceLeDiff]
  exact hk)
/-- UnitKitchensModel.mealsFrom(II)I -/
abbrev wX8_mealsFrom : List Cond := Cond.code yX8_mealsFrom cX8_mealsFrom 5 (some .int) :: xT
abbrev rX8_mealsFrom : Room := { frames := 2, cells := 0, slots := 0, locals := 45 }
def pX8_mealsFrom (Post : XPo) : List (Nat × XStp) := [(0, j_c 0 1), (1, j_ist 3 1), (2, j_ild 1 1), (3, j_ist 4 2), (5, j_ild 4 2), (7, j_ild 2 1), (8, j_ige 26), (11, j_ild 3 1), (12, j_ald 0 1), (13, j_ild 4 2), (15, j_V1 20 sX8_allIn), (18, j_add), (19, j_ist 3 1), (20, j_inc 4 1), (23, j_goto 5), (26, j_ild 3 1), (27, j_iret Post)]
set_option maxRecDepth 100000 in
theorem aX8_mealsFrom (Post : XPo) : XAll rX8_mealsFrom cX8_mealsFrom 5 RX8 wX8_mealsFrom (some .int) Post (pX8_mealsFrom Post) := XAll.cons (xs_iconst dX8_mealsFrom_0) (XAll.cons (xs_istore_n dX8_mealsFrom_1 rfl (by decide)) (XAll.cons (xs_iload_n dX8_mealsFrom_2 rfl) (XAll.cons (xs_istore dX8_mealsFrom_3 (by decide)) (XAll.cons (xs_iload dX8_mealsFrom_5) (XAll.cons (xs_iload_n dX8_mealsFrom_7 rfl) (XAll.cons (xs_icmp_ge dX8_mealsFrom_8 (by decide)) (XAll.cons (xs_iload_n dX8_mealsFrom_11 rfl) (XAll.cons (xs_aload_n dX8_mealsFrom_12 rfl) (XAll.cons (xs_iload dX8_mealsFrom_13) (XAll.cons (xs_V1 kX8_allIn ⟨⟨rfl, rfl, by decide, by decide⟩, ⟨by decide, by decide, by decide +kernel⟩, ⟨tw_1170, tw_1172, tp_18, tw_9, tw_1173⟩, 8, TX8, _, rfl, fun G ρ f i k => ⟨_, rfl⟩⟩ dX8_mealsFrom_15) (XAll.cons (xs_iadd dX8_mealsFrom_18) (XAll.cons (xs_istore_n dX8_mealsFrom_19 rfl (by decide)) (XAll.cons (xs_iinc dX8_mealsFrom_20 (by decide)) (XAll.cons (xs_goto dX8_mealsFrom_23 (by decide)) (XAll.cons (xs_iload_n dX8_mealsFrom_26 rfl) (XAll.cons (xs_iret rfl dX8_mealsFrom_27) (XAll.nil)))))))))))))))))
theorem fX8_mealsFrom_0 (Post : XPo) (cut : List Nat) (WW : XK) (n : Nat) (L : XLs) (st : List XV) (M : XM) : yru (xlk (pX8_mealsFrom Post)) cut WW (n + 1) 0 L st M = j_c 0 1 0 L st M (ykk (xlk (pX8_mealsFrom Post)) cut WW n) := yf rfl
theorem fX8_mealsFrom_1 (Post : XPo) (cut : List Nat) (WW : XK) (n : Nat) (L : XLs) (st : List XV) (M : XM) : yru (xlk (pX8_mealsFrom Post)) cut WW (n + 1) 1 L st M = j_ist 3 1 1 L st M (ykk (xlk (pX8_mealsFrom Post)) cut WW n) := yf rfl
theorem fX8_mealsFrom_2 (Post : XPo) (cut : List Nat) (WW : XK) (n : Nat) (L : XLs) (st : List XV) (M : XM) : yru (xlk (pX8_mealsFrom Post)) cut WW (n + 1) 2 L st M = j_ild 1 1 2 L st M (ykk (xlk (pX8_mealsFrom Post)) cut WW n) := yf rfl
theorem fX8_mealsFrom_3 (Post : XPo) (cut : List Nat) (WW : XK) (n : Nat) (L : XLs) (st : List XV) (M : XM) : yru (xlk (pX8_mealsFrom Post)) cut WW (n + 1) 3 L st M = j_ist 4 2 3 L st M (ykk (xlk (pX8_mealsFrom Post)) cut WW n) := yf rfl
theorem fX8_mealsFrom_5 (Post : XPo) (cut : List Nat) (WW : XK) (n : Nat) (L : XLs) (st : List XV) (M : XM) : yru (xlk (pX8_mealsFrom Post)) cut WW (n + 1) 5 L st M = j_ild 4 2 5 L st M (ykk (xlk (pX8_mealsFrom Post)) cut WW n) := yf rfl
theorem fX8_mealsFrom_7 (Post : XPo) (cut : List Nat) (WW : XK) (n : Nat) (L : XLs) (st : List XV) (M : XM) : yru (xlk (pX8_mealsFrom Post)) cut WW (n + 1) 7 L st M = j_ild 2 1 7 L st M (ykk (xlk (pX8_mealsFrom Post)) cut WW n) := yf rfl
theorem fX8_mealsFrom_8 (Post : XPo) (cut : List Nat) (WW : XK) (n : Nat) (L : XLs) (st : List XV) (M : XM) : yru (xlk (pX8_mealsFrom Post)) cut WW (n + 1) 8 L st M = j_ige 26 8 L st M (ykk (xlk (pX8_mealsFrom Post)) cut WW n) := yf rfl
theorem fX8_mealsFrom_11 (Post : XPo) (cut : List Nat) (WW : XK) (n : Nat) (L : XLs) (st : List XV) (M : XM) : yru (xlk (pX8_mealsFrom Post)) cut WW (n + 1) 11 L st M = j_ild 3 1 11 L st M (ykk (xlk (pX8_mealsFrom Post)) cut WW n) := yf rfl
theorem fX8_mealsFrom_12 (Post : XPo) (cut : List Nat) (WW : XK) (n : Nat) (L : XLs) (st : List XV) (M : XM) : yru (xlk (pX8_mealsFrom Post)) cut WW (n + 1) 12 L st M = j_ald 0 1 12 L st M (ykk (xlk (pX8_mealsFrom Post)) cut WW n) := yf rfl
theorem fX8_mealsFrom_13 (Post : XPo) (cut : List Nat) (WW : XK) (n : Nat) (L : XLs) (st : List XV) (M : XM) : yru (xlk (pX8_mealsFrom Post)) cut WW (n + 1) 13 L st M = j_ild 4 2 13 L st M (ykk (xlk (pX8_mealsFrom Post)) cut WW n) := yf rfl
theorem fX8_mealsFrom_15 (Post : XPo) (cut : List Nat) (WW : XK) (n : Nat) (L : XLs) (st : List XV) (M : XM) : yru (xlk (pX8_mealsFrom Post)) cut WW (n + 1) 15 L st M = j_V1 20 sX8_allIn 15 L st M (ykk (xlk (pX8_mealsFrom Post)) cut WW n) := yf rfl
theorem fX8_mealsFrom_18 (Post : XPo) (cut : List Nat) (WW : XK) (n : Nat) (L : XLs) (st : List XV) (M : XM) : yru (xlk (pX8_mealsFrom Post)) cut WW (n + 1) 18 L st M = j_add 18 L st M (ykk (xlk (pX8_mealsFrom Post)) cut WW n) := yf rfl
theorem fX8_mealsFrom_19 (Post : XPo) (cut : List Nat) (WW : XK) (n : Nat) (L : XLs) (st : List XV) (M : XM) : yru (xlk (pX8_mealsFrom Post)) cut WW (n + 1) 19 L st M = j_ist 3 1 19 L st M (ykk (xlk (pX8_mealsFrom Post)) cut WW n) := yf rfl
theorem fX8_mealsFrom_20 (Post : XPo) (cut : List Nat) (WW : XK) (n : Nat) (L : XLs) (st : List XV) (M : XM) : yru (xlk (pX8_mealsFrom Post)) cut WW (n + 1) 20 L st M = j_inc 4 1 20 L st M (ykk (xlk (pX8_mealsFrom Post)) cut WW n) := yf rfl
theorem fX8_mealsFrom_23 (Post : XPo) (cut : List Nat) (WW : XK) (n : Nat) (L : XLs) (st : List XV) (M : XM) : yru (xlk (pX8_mealsFrom Post)) cut WW (n + 1) 23 L st M = j_goto 5 23 L st M (ykk (xlk (pX8_mealsFrom Post)) cut WW n) := yf rfl
theorem fX8_mealsFrom_26 (Post : XPo) (cut : List Nat) (WW : XK) (n : Nat) (L : XLs) (st : List XV) (M : XM) : yru (xlk (pX8_mealsFrom Post)) cut WW (n + 1) 26 L st M = j_ild 3 1 26 L st M (ykk (xlk (pX8_mealsFrom Post)) cut WW n) := yf rfl
theorem fX8_mealsFrom_27 (Post : XPo) (cut : List Nat) (WW : XK) (n : Nat) (L : XLs) (st : List XV) (M : XM) : yru (xlk (pX8_mealsFrom Post)) cut WW (n + 1) 27 L st M = j_iret Post 27 L st M (ykk (xlk (pX8_mealsFrom Post)) cut WW n) := yf rfl
set_option maxRecDepth 100000 in
theorem kX8_mealsFrom_loop {Post : XPo} {WW : XK} (hC : XCl (xlk (pX8_mealsFrom Post)) WW) {M : XM} {a b : Int} (hb : b ≤ 7) : ∀ (n : Nat) (j sum : Int), 0 ≤ j → j + n = b → Post [xI (sum + sf (fun j => tot3 (zst M j)) j n)] M → WW 5 [some (xR 20 0 0), some (xI a), some (xI b), some (xI sum), some (xI j)] [] M := by
  intro n
  induction n with
  | zero =>
    intro j sum h0 h1 h
    have ej : j = b := by omega
    have r : XInR b := ⟨by omega, by omega⟩
    simp only [sf, Int.add_zero] at h
    subst ej
    refine yru_ok hC [5] 60 _ _ _ _ ?_
    simp only [ykk_ap, Int.reduceEq, Int.reduceLT, Int.reduceLE, Int.reduceNeg, Int.reduceAdd, Int.reduceSub, Int.reduceMul, and_self, false_and, and_false, not_true_eq_false, not_false_eq_true, true_implies, false_implies, xq0, xq1, xq2, xq3, xq4, xq5, xqR, xq1R, xq3R, xt1, xt2, xt3, List.mem_cons, List.not_mem_nil, or_false, false_or, or_self, if_false, if_true, reduceIte, reduceCtorEq, xent, xen, List.length_cons, List.length_nil, List.replicate, j_c, j_cJ, j_ild, j_ald, j_lld, j_ist, j_ast, j_lst, j_inc, j_add, j_sub, j_mul, j_neg, j_div, j_rem, j_and, j_shr, j_shl1, j_or, j_ladd, j_lsub, j_lmul, j_i2l, j_lcmp, j_i2c, j_dup, j_dup2, j_pop, j_goto, j_ieq, j_ine, j_ilt, j_ige, j_igt, j_ile, j_eq, j_ne, j_lt, j_ge, j_gt, j_le, xsw, j_tsw, j_lsw2, j_gI, j_gJ, j_gR, j_pI, j_pJ, j_gs, j_iald, j_iast, j_cald, j_cast, j_lald, j_last, j_aald, j_cpy, j_min, j_max, j_abs, j_iret, j_zret, j_lret, j_dret, j_ret0, j_V0, j_V1, j_V2, j_V3, j_V4, j_V5, j_S1, j_S2, j_S3, xget, xset, xset2, xclr, xc1, xcat, Nat.reduceAdd, Nat.reduceEqDiff, Nat.reduceLT, Nat.reduceLeDiff, Nat.reduceMul, List.cons_append, List.nil_append, true_and, and_true, List.singleton_append, fX8_mealsFrom_0, fX8_mealsFrom_1, fX8_mealsFrom_2, fX8_mealsFrom_3, fX8_mealsFrom_5, fX8_mealsFrom_7, fX8_mealsFrom_8, fX8_mealsFrom_11, fX8_mealsFrom_12, fX8_mealsFrom_13, fX8_mealsFrom_15, fX8_mealsFrom_18, fX8_mealsFrom_19, fX8_mealsFrom_20, fX8_mealsFrom_23, fX8_mealsFrom_26, fX8_mealsFrom_27, sX8_allIn, xvz_20, xvz_21, xrz_21, xdz_21, xlen, xcat, xc1, Nat.zero_le, Nat.reduceLeDiff, r, Int.le_refl]
    exact h
  | succ n ih =>
    intro j sum h0 h1 h
    have r : XInR b := ⟨by omega, by omega⟩
    have r1 : XInR j := ⟨by omega, by omega⟩
    have g1 : ¬ b ≤ j := by omega
    have j7 : j < 7 := by omega
    simp only [sf] at h
    rw [← Int.add_assoc] at h
    have hk := ih (j + 1) (sum + tot3 (zst M j)) (by omega) (by omega) h
    refine yru_ok hC [5] 60 _ _ _ _ ?_
    simp only [ykk_ap, Int.reduceEq, Int.reduceLT, Int.reduceLE, Int.reduceNeg, Int.reduceAdd, Int.reduceSub, Int.reduceMul, and_self, false_and, and_false, not_true_eq_false, not_false_eq_true, true_implies, false_implies, xq0, xq1, xq2, xq3, xq4, xq5, xqR, xq1R, xq3R, xt1, xt2, xt3, List.mem_cons, List.not_mem_nil, or_false, false_or, or_self, if_false, if_true, reduceIte, reduceCtorEq, xent, xen, List.length_cons, List.length_nil, List.replicate, j_c, j_cJ, j_ild, j_ald, j_lld, j_ist, j_ast, j_lst, j_inc, j_add, j_sub, j_mul, j_neg, j_div, j_rem, j_and, j_shr, j_shl1, j_or, j_ladd, j_lsub, j_lmul, j_i2l, j_lcmp, j_i2c, j_dup, j_dup2, j_pop, j_goto, j_ieq, j_ine, j_ilt, j_ige, j_igt, j_ile, j_eq, j_ne, j_lt, j_ge, j_gt, j_le, xsw, j_tsw, j_lsw2, j_gI, j_gJ, j_gR, j_pI, j_pJ, j_gs, j_iald, j_iast, j_cald, j_cast, j_lald, j_last, j_aald, j_cpy, j_min, j_max, j_abs, j_iret, j_zret, j_lret, j_dret, j_ret0, j_V0, j_V1, j_V2, j_V3, j_V4, j_V5, j_S1, j_S2, j_S3, xget, xset, xset2, xclr, xc1, xcat, Nat.reduceAdd, Nat.reduceEqDiff, Nat.reduceLT, Nat.reduceLeDiff, Nat.reduceMul, List.cons_append, List.nil_append, true_and, and_true, List.singleton_append, fX8_mealsFrom_0, fX8_mealsFrom_1, fX8_mealsFrom_2, fX8_mealsFrom_3, fX8_mealsFrom_5, fX8_mealsFrom_7, fX8_mealsFrom_8, fX8_mealsFrom_11, fX8_mealsFrom_12, fX8_mealsFrom_13, fX8_mealsFrom_15, fX8_mealsFrom_18, fX8_mealsFrom_19, fX8_mealsFrom_20, fX8_mealsFrom_23, fX8_mealsFrom_26, fX8_mealsFrom_27, sX8_allIn, xvz_20, xvz_21, xrz_21, xdz_21, xlen, xcat, xc1, Nat.zero_le, Nat.reduceLeDiff, r, r1, g1, h0, j7]
    exact hk
def sX8_mealsFrom : XSp := xq2 20 (fun i k a b M Q => (0 ≤ a ∧ a ≤ b ∧ b ≤ 7) ∧ Q [xI (sf (fun j => tot3 (zst M j)) a (b - a).toNat)] M)
set_option maxRecDepth 100000 in
theorem kX8_mealsFrom : XCn yX8_mealsFrom wX8_mealsFrom rX8_mealsFrom sX8_mealsFrom := XC2 pX8_mealsFrom rfl rfl aX8_mealsFrom (by decide) (fun i k a b M Post hv h WW hC => by
  obtain ⟨rfl, rfl⟩ := xk20 hv
  obtain ⟨hab, h⟩ := h
  have hk := kX8_mealsFrom_loop hC (M := M) (a := a) hab.2.2 (b - a).toNat a 0 hab.1 (by omega) (by rw [Int.zero_add]; exact h)
  show WW 0 [some (xR 20 0 0), some (xI a), some (xI b), none, none] [] M
  refine yru_ok hC [5] 60 _ _ _ _ ?_
  simp only [ykk_ap, Int.reduceEq, Int.reduceLT, Int.reduceLE, Int.reduceNeg, Int.reduceAdd, Int.reduceSub, Int.reduceMul, and_self, false_and, and_false, not_true_eq_false, not_false_eq_true, true_implies, false_implies, xq0, xq1, xq2, xq3, xq4, xq5, xqR, xq1R, xq3R, xt1, xt2, xt3, List.mem_cons, List.not_mem_nil, or_false, false_or, or_self, if_false, if_true, reduceIte, reduceCtorEq, xent, xen, List.length_cons, List.length_nil, List.replicate, j_c, j_cJ, j_ild, j_ald, j_lld, j_ist, j_ast, j_lst, j_inc, j_add, j_sub, j_mul, j_neg, j_div, j_rem, j_and, j_shr, j_shl1, j_or, j_ladd, j_lsub, j_lmul, j_i2l, j_lcmp, j_i2c, j_dup, j_dup2, j_pop, j_goto, j_ieq, j_ine, j_ilt, j_ige, j_igt, j_ile, j_eq, j_ne, j_lt, j_ge, j_gt, j_le, xsw, j_tsw, j_lsw2, j_gI, j_gJ, j_gR, j_pI, j_pJ, j_gs, j_iald, j_iast, j_cald, j_cast, j_lald, j_last, j_aald, j_cpy, j_min, j_max, j_abs, j_iret, j_zret, j_lret, j_dret, j_ret0, j_V0, j_V1, j_V2, j_V3, j_V4, j_V5, j_S1, j_S2, j_S3, xget, xset, xset2, xclr, xc1, xcat, Nat.reduceAdd, Nat.reduceEqDiff, Nat.reduceLT, Nat.reduceLeDiff, Nat.reduceMul, List.cons_append, List.nil_append, true_and, and_true, List.singleton_append, fX8_mealsFrom_0, fX8_mealsFrom_1, fX8_mealsFrom_2, fX8_mealsFrom_3, fX8_mealsFrom_5, fX8_mealsFrom_7, fX8_mealsFrom_8, fX8_mealsFrom_11, fX8_mealsFrom_12, fX8_mealsFrom_13, fX8_mealsFrom_15, fX8_mealsFrom_18, fX8_mealsFrom_19, fX8_mealsFrom_20, fX8_mealsFrom_23, fX8_mealsFrom_26, fX8_mealsFrom_27, sX8_allIn, xvz_20, xvz_21, xrz_21, xdz_21, xlen, xcat, xc1, Nat.zero_le, Nat.reduceLeDiff]
  exact hk)
theorem sf_app (g : Int → Int) : ∀ (m n : Nat) (a : Int), sf g a (m + n) = sf g a m + sf g (a + m) n
  | 0, n, a => by simp [sf]
  | m + 1, n, a => by
    rw [show m + 1 + n = (m + n) + 1 by omega, sf, sf_app g m n (a + 1), sf]
    rw [show a + 1 + (m : Int) = a + ((m + 1 : Nat) : Int) by omega]
    omega
theorem sf_zero {g : Int → Int} : ∀ (n : Nat) (a : Int), (∀ x : Int, a ≤ x → x < a + n → g x = 0) → sf g a n = 0
  | 0, _, _ => rfl
  | n + 1, a, h => by
    simp only [sf]
    rw [h a (by omega) (by omega), sf_zero n (a + 1) (fun x h0 h1 => h x (by omega) (by omega))]
    rfl
theorem GG_no {F M : XM} {f j : Int} (h : GG F f M) (h0 : 0 ≤ j) (h1 : j < 7) (hn : gNo F f j) : tot3 (zst M j) = 0 := by
  have hm := GG_m h h0 h1
  have e : tot3 (zst M j) = tot3 (fun _ => 0) := tot3_congr fun x g0 g1 => (hm.1 x g0 g1).trans (hm.2.2 hn x g0 g1)
  rw [e]
  rfl
theorem GG_mk {F M : XM} {f : Int} (h : GG F f M) : sf (fun j => tot3 (zst M j)) 0 3 = tX0_mealsInKitchens F f := by
  have c6 := h.2.1.2.1
  have e : (3 : Nat) = (F 1 f 0 6).toNat + (3 - (F 1 f 0 6).toNat) := by omega
  rw [e, sf_app]
  rw [sf_zero (3 - (F 1 f 0 6).toNat) _ (fun x g0 g1 => GG_no h (by omega) (by omega) (by unfold gNo; rw [if_pos (by omega)]; omega)), Int.add_zero]
  exact sf_congr _ _ fun x g0 g1 => GZ_all h.1 h.2.2.1 (by omega) (by omega)
theorem GG_ml {F M : XM} {f : Int} (h : GG F f M) : sf (fun j => tot3 (zst M j)) 3 4 = tX0_mealsInLorries F f := by
  have c8 := h.2.1.2.2.1
  have e : (4 : Nat) = (F 1 f 0 8).toNat + (4 - (F 1 f 0 8).toNat) := by omega
  rw [e, sf_app]
  rw [sf_zero (4 - (F 1 f 0 8).toNat) _ (fun x g0 g1 => GG_no h (by omega) (by omega) (by unfold gNo; rw [if_neg (by omega)]; omega)), Int.add_zero]
  rw [show (3 : Int) = 3 + 0 from rfl, ← sf_shift (fun j => tot3 (zst M j)) _ 3 0]
  exact sf_congr _ _ fun x g0 g1 => by
    rw [GZ_all h.1 h.2.2.1 (by omega) (by omega), Int.add_comm]
    rfl
end XR4

