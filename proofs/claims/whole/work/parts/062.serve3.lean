section XRc
/-- what serving leaves as it was -/
def zf8 (u : Int) (M M' : XM) : Prop := zfr M M' ∧ M' 21 0 0 (73 + 12 * u + 8) = M 21 0 0 (73 + 12 * u + 8)
theorem zf8_refl (u : Int) (M : XM) : zf8 u M M := ⟨zfr_refl M, rfl⟩
theorem zf8_trans {u : Int} {M M' M'' : XM} (h : zf8 u M M') (h' : zf8 u M' M'') : zf8 u M M'' := ⟨zfr_trans h.1 h'.1, h'.2.trans h.2⟩
theorem gst_tag {T : XM} {f u s w q : Int} {t : Nat} (h : ¬ t = 14) : gst T f u s w q t = T t := by unfold gst; rw [xup_tag h, xup_tag h]
theorem gst_s {T : XM} {f u s w q : Int} (hs : s = 6 ∨ s = 7) : gst T f u s w q 14 f u s = w := by unfold gst; rcases hs with rfl | rfl <;> simp only [xup_app, Int.reduceEq, and_false, if_false, and_self, if_true]
theorem gst_9 {T : XM} {f u s w q : Int} : gst T f u s w q 14 f u 9 = q := by unfold gst; simp only [xup_app, and_self, if_true]
theorem GZs_B {u : Int} {F M : XM} {f : Int} (h : GZs u F f (M 21 0 0)) (hC : fC F f) : zB M := by
  obtain ⟨hI, -, ⟨c6, c7, c8, c9, c10⟩, -⟩ := h
  obtain ⟨d3, d6, d8, d10, d0, -⟩ := hC
  exact ⟨hI, by omega, by omega, by omega, by omega, by omega⟩
set_option maxRecDepth 100000 in
theorem kX8_serve_K {Post : XPo} {WW : XK} (hC : XCl (xlk (pX8_serve Post)) WW) {f u s c p meat cc b sv0 w0 : Int} (hs : s = 6 ∨ s = 7) (hcm : (c = 5 ∧ meat = 0) ∨ (c = 2 ∧ meat = 1)) (hu0 : 0 ≤ u) (hu12 : u < 12) (hp : 0 ≤ p ∧ p < 8) (hcc : cc ≤ 80000000) (hb : b ≤ 2000000) (hsv : 0 ≤ sv0 ∧ sv0 + w0 ≤ 80000000) : ∀ (n : Nat) (k k4 w : Int) (T M : XM) (x6 x7 x8 x9 : Option XV), k = k4 + 4 → fI cc b T f → GZs u (gst T f u s w (sv0 + (w0 - w))) f (M 21 0 0) → 0 ≤ k4 → k4 + n = 3 → 0 ≤ w ∧ w ≤ w0 → M 21 0 0 12 ≤ 900000000 - w ∧ 0 ≤ M 21 0 0 12 →
    (∀ (M' : XM), zf8 u M M' → GZs u (gst (tmK f p meat (T 1 f 0 6 - k4).toNat k4 T w).1 f u s (tmK f p meat (T 1 f 0 6 - k4).toNat k4 T w).2 (sv0 + (w0 - (tmK f p meat (T 1 f 0 6 - k4).toNat k4 T w).2))) f (M' 21 0 0) → Post [] M') → WW 11 [some (xR 20 0 0), some (xI u), some (xI s), some (xI c), some (xI p), some (xI k), x6, x7, x8, x9] [] M := by
  intro n
  induction n with
  | zero =>
    intro k k4 w T M x6 x7 x8 x9 ek hG hz h0 h1 hw h12 h
    have e7 : k = 7 := by omega
    have c6 := hG.1.2.1
    have q := h M (zf8_refl u M) (by
      rw [show (T 1 f 0 6 - k4).toNat = 0 by omega]
      exact hz)
    subst e7
    refine yru_ok hC [11] 60 _ _ _ _ ?_
    simp only [ykk_ap, Int.reduceEq, Int.reduceLT, Int.reduceLE, Int.reduceNeg, Int.reduceAdd, Int.reduceSub, Int.reduceMul, and_self, false_and, and_false, not_true_eq_false, not_false_eq_true, true_implies, false_implies, xq0, xq1, xq2, xq3, xq4, xq5, xqR, xq1R, xq3R, xt1, xt2, xt3, List.mem_cons, List.not_mem_nil, or_false, false_or, or_self, if_false, if_true, reduceIte, reduceCtorEq, xent, xen, List.length_cons, List.length_nil, List.replicate, j_c, j_cJ, j_ild, j_ald, j_lld, j_ist, j_ast, j_lst, j_inc, j_add, j_sub, j_mul, j_neg, j_div, j_rem, j_and, j_shr, j_shl1, j_or, j_ladd, j_lsub, j_lmul, j_i2l, j_lcmp, j_i2c, j_dup, j_dup2, j_pop, j_goto, j_ieq, j_ine, j_ilt, j_ige, j_igt, j_ile, j_eq, j_ne, j_lt, j_ge, j_gt, j_le, xsw, j_tsw, j_lsw2, j_gI, j_gJ, j_gR, j_pI, j_pJ, j_gs, j_iald, j_iast, j_cald, j_cast, j_lald, j_last, j_aald, j_cpy, j_min, j_max, j_abs, j_iret, j_zret, j_lret, j_dret, j_ret0, j_V0, j_V1, j_V2, j_V3, j_V4, j_V5, j_S1, j_S2, j_S3, xget, xset, xset2, xclr, xc1, xcat, Nat.reduceAdd, Nat.reduceEqDiff, Nat.reduceLT, Nat.reduceLeDiff, Nat.reduceMul, List.cons_append, List.nil_append, true_and, and_true, List.singleton_append, fX8_serve_0, fX8_serve_1, fX8_serve_2, fX8_serve_3, fX8_serve_6, fX8_serve_8, fX8_serve_9, fX8_serve_11, fX8_serve_13, fX8_serve_15, fX8_serve_18, fX8_serve_20, fX8_serve_21, fX8_serve_24, fX8_serve_25, fX8_serve_28, fX8_serve_29, fX8_serve_31, fX8_serve_33, fX8_serve_36, fX8_serve_37, fX8_serve_39, fX8_serve_40, fX8_serve_43, fX8_serve_45, fX8_serve_46, fX8_serve_47, fX8_serve_49, fX8_serve_51, fX8_serve_54, fX8_serve_55, fX8_serve_57, fX8_serve_60, fX8_serve_63, fX8_serve_64, fX8_serve_66, fX8_serve_68, fX8_serve_71, fX8_serve_74, fX8_serve_75, fX8_serve_78, fX8_serve_79, fX8_serve_82, fX8_serve_83, fX8_serve_85, fX8_serve_88, fX8_serve_91, fX8_serve_92, fX8_serve_95, fX8_serve_97, fX8_serve_99, fX8_serve_100, fX8_serve_101, fX8_serve_103, fX8_serve_106, fX8_serve_107, fX8_serve_110, fX8_serve_111, fX8_serve_113, fX8_serve_115, fX8_serve_118, fX8_serve_119, fX8_serve_121, fX8_serve_122, fX8_serve_123, fX8_serve_124, fX8_serve_125, fX8_serve_128, fX8_serve_131, fX8_serve_134, fX8_serve_135, fX8_serve_137, fX8_serve_138, fX8_serve_139, fX8_serve_140, fX8_serve_142, fX8_serve_143, fX8_serve_146, fX8_serve_147, fX8_serve_148, fX8_serve_150, fX8_serve_152, fX8_serve_155, fX8_serve_156, fX8_serve_159, fX8_serve_161, fX8_serve_162, fX8_serve_163, fX8_serve_165, fX8_serve_166, fX8_serve_167, fX8_serve_169, fX8_serve_172, fX8_serve_173, fX8_serve_176, fX8_serve_178, fX8_serve_180, fX8_serve_181, fX8_serve_182, fX8_serve_183, fX8_serve_185, fX8_serve_186, fX8_serve_187, fX8_serve_190, fX8_serve_193, sX8_ofUnit, sX8_isLorry, sX8_isAt, sX8_isKitchen, sX8_takes, sX8_addTo, xvz_20, xvz_21, xrz_21, xdz_21, xlen, xcat, xc1, Nat.zero_le, Nat.reduceLeDiff, xr_c (n := 7) rfl, Int.le_refl]
    exact q
  | succ n ih =>
    intro k k4 w T M x6 x7 x8 x9 ek hG hz h0 h1 hw h12 h
    have hB := GZs_B hz (by unfold fC; rw [gst_tag (by decide), gst_tag (by decide), gst_tag (by decide), gst_tag (by decide)]; exact hG.1)
    have c6 := hG.1.2.1
    have g1 : ¬ 7 ≤ k := by omega
    have g4 : 4 ≤ k := by omega
    have rk : XInR k := ⟨by omega, by omega⟩
    have rp : XInR p := ⟨by omega, by omega⟩
    have k3 : k4 < 3 := by omega
    have rk4 : XInR k4 := ⟨by omega, by omega⟩
    have e4 : k - 4 = k4 := by omega
    have e7 : M 21 0 0 7 = T 1 f 0 6 := by
      have q := hz.2.2.1.2.1
      rw [gst_tag (by decide)] at q
      exact q
    have ep : M 21 0 0 (33 + k4) = T 8 f k4 0 := by
      have q := (hz.2.2.2.2.2.1 k4 h0 k3).1
      rw [gst_tag (by decide)] at q
      exact q
    have rz : XInR (T 8 f k4 0) := by rw [← ep]; exact hB.1 _ (by unfold zJ; omega)
    have i0 : 0 ≤ 33 + k4 := by omega
    have i1 : 33 + k4 < 1561 := by omega
    have s12 : s < 12 := by omega
    have s0 : 0 ≤ s := by omega
    have ok := (GZs_tk (meat := meat) hz hG.2.1 hb hG.1 (j := k4) h0 (by omega) hw.1).1
    have k7 : k4 < 7 := by omega
    have vs := hz.2.2.2.2.2.2.2.1.2.2.2.1 s s0 s12 (by omega)
    rw [gst_s hs] at vs
    have w9 : w ≤ 1000000000 := by omega
    have hc5 : c = 5 ∨ c = 2 := by omega
    have n12 : ∀ w : Int, 0 ≤ w → ¬ 73 + 12 * u + w = 12 := fun w _ => by omega
    have m12 : ∀ w : Int, 0 ≤ w → ¬ 12 = 73 + 12 * u + w := fun w _ => by omega
    have s9 : ¬ (9 : Int) = s := by omega
    by_cases hh : k4 < T 1 f 0 6 ∧ T 8 f k4 0 = p
    · have hK := GZs_K (meat := meat) (c := cc) hz hs hu0 hu12 hG hcc hb h0 hh.1 ⟨hw.1, by omega⟩ ⟨by omega, by omega⟩ ⟨h12.2, by omega⟩
      have e2 := (GZs_tk (meat := meat) hz hG.2.1 hb hG.1 (j := k4) h0 (by omega) hw.1).2.1
      have hfi := fI_tm1 (meat := meat) h0 k7 hw.1 hG
      rw [e2] at hK
      obtain ⟨v, hv⟩ : ∃ v : Int, v = w - (tmR T f k4 meat w).2 := ⟨_, rfl⟩
      rw [← hv] at hK
      have em : (if c = 5 then (0 : Int) else 1) = meat := by rcases hcm with ⟨rfl, rfl⟩ | ⟨rfl, rfl⟩ <;> rfl
      have ez : w - (zTk M k4 (if c = 5 then 0 else 1) w).2 = v := by rw [em, e2, hv]
      have ex12 : zput M k4 (zTk M k4 (if c = 5 then 0 else 1) w).1 21 0 0 12 = M 21 0 0 12 := zput_out (by omega)
      have exu : ∀ x : Int, 0 ≤ x → x < 12 → zput M k4 (zTk M k4 (if c = 5 then 0 else 1) w).1 21 0 0 (73 + 12 * u + x) = M 21 0 0 (73 + 12 * u + x) := fun x a b => zput_out (by omega)
      refine yru_ok hC [11] 120 _ _ _ _ ?_
      simp only [ykk_ap, Int.reduceEq, Int.reduceLT, Int.reduceLE, Int.reduceNeg, Int.reduceAdd, Int.reduceSub, Int.reduceMul, and_self, false_and, and_false, not_true_eq_false, not_false_eq_true, true_implies, false_implies, xq0, xq1, xq2, xq3, xq4, xq5, xqR, xq1R, xq3R, xt1, xt2, xt3, List.mem_cons, List.not_mem_nil, or_false, false_or, or_self, if_false, if_true, reduceIte, reduceCtorEq, xent, xen, List.length_cons, List.length_nil, List.replicate, j_c, j_cJ, j_ild, j_ald, j_lld, j_ist, j_ast, j_lst, j_inc, j_add, j_sub, j_mul, j_neg, j_div, j_rem, j_and, j_shr, j_shl1, j_or, j_ladd, j_lsub, j_lmul, j_i2l, j_lcmp, j_i2c, j_dup, j_dup2, j_pop, j_goto, j_ieq, j_ine, j_ilt, j_ige, j_igt, j_ile, j_eq, j_ne, j_lt, j_ge, j_gt, j_le, xsw, j_tsw, j_lsw2, j_gI, j_gJ, j_gR, j_pI, j_pJ, j_gs, j_iald, j_iast, j_cald, j_cast, j_lald, j_last, j_aald, j_cpy, j_min, j_max, j_abs, j_iret, j_zret, j_lret, j_dret, j_ret0, j_V0, j_V1, j_V2, j_V3, j_V4, j_V5, j_S1, j_S2, j_S3, xget, xset, xset2, xclr, xc1, xcat, Nat.reduceAdd, Nat.reduceEqDiff, Nat.reduceLT, Nat.reduceLeDiff, Nat.reduceMul, List.cons_append, List.nil_append, true_and, and_true, List.singleton_append, fX8_serve_0, fX8_serve_1, fX8_serve_2, fX8_serve_3, fX8_serve_6, fX8_serve_8, fX8_serve_9, fX8_serve_11, fX8_serve_13, fX8_serve_15, fX8_serve_18, fX8_serve_20, fX8_serve_21, fX8_serve_24, fX8_serve_25, fX8_serve_28, fX8_serve_29, fX8_serve_31, fX8_serve_33, fX8_serve_36, fX8_serve_37, fX8_serve_39, fX8_serve_40, fX8_serve_43, fX8_serve_45, fX8_serve_46, fX8_serve_47, fX8_serve_49, fX8_serve_51, fX8_serve_54, fX8_serve_55, fX8_serve_57, fX8_serve_60, fX8_serve_63, fX8_serve_64, fX8_serve_66, fX8_serve_68, fX8_serve_71, fX8_serve_74, fX8_serve_75, fX8_serve_78, fX8_serve_79, fX8_serve_82, fX8_serve_83, fX8_serve_85, fX8_serve_88, fX8_serve_91, fX8_serve_92, fX8_serve_95, fX8_serve_97, fX8_serve_99, fX8_serve_100, fX8_serve_101, fX8_serve_103, fX8_serve_106, fX8_serve_107, fX8_serve_110, fX8_serve_111, fX8_serve_113, fX8_serve_115, fX8_serve_118, fX8_serve_119, fX8_serve_121, fX8_serve_122, fX8_serve_123, fX8_serve_124, fX8_serve_125, fX8_serve_128, fX8_serve_131, fX8_serve_134, fX8_serve_135, fX8_serve_137, fX8_serve_138, fX8_serve_139, fX8_serve_140, fX8_serve_142, fX8_serve_143, fX8_serve_146, fX8_serve_147, fX8_serve_148, fX8_serve_150, fX8_serve_152, fX8_serve_155, fX8_serve_156, fX8_serve_159, fX8_serve_161, fX8_serve_162, fX8_serve_163, fX8_serve_165, fX8_serve_166, fX8_serve_167, fX8_serve_169, fX8_serve_172, fX8_serve_173, fX8_serve_176, fX8_serve_178, fX8_serve_180, fX8_serve_181, fX8_serve_182, fX8_serve_183, fX8_serve_185, fX8_serve_186, fX8_serve_187, fX8_serve_190, fX8_serve_193, sX8_ofUnit, sX8_isLorry, sX8_isAt, sX8_isKitchen, sX8_takes, sX8_addTo, xvz_20, xvz_21, xrz_21, xdz_21, xlen, xcat, xc1, Nat.zero_le, Nat.reduceLeDiff, hB, rk, rp, rk4, g1, g4, e4, e7, hh, h0, k3, ep, i0, i1, rz, hu0, hu12, s0, s12, vs, ok, k7, hc5, hw, w9, ez, ex12, exu, n12, m12, s9, Int.le_refl, Int.add_right_inj, xup_app, xr_c (n := 0) rfl, xr_c (n := 1) rfl, xr_c (n := 4) rfl, xr_c (n := 7) rfl]
      rw [← vs] at hK
      refine ih (k + 1) (k4 + 1) (tmR T f k4 meat w).2 (mset T f k4 (tmR T f k4 meat w).1) _ _ _ _ _ (by omega) hfi.1 ?_ (by omega) (by omega) ⟨hfi.2.1, by omega⟩ ?_ (fun M' a b => h M' (zf8_trans ⟨fun t ht => by simp only [xup_tag ht, zput_tag ht], by simp only [xup_sup, zput_blk]; rw [sup_ne (by omega), sup_ne (by omega), sup_ne (by omega), blk_out (by omega)]⟩ a) ?_)
      · have e3 : sv0 + (w0 - w) + v = sv0 + (w0 - (tmR T f k4 meat w).2) := by omega
        rw [e3] at hK
        simp only [xup_sup, zput_blk]
        rw [em]
        exact hK
      · simp only [xup_sup]
        rw [sup_eq]
        omega
      · rw [show (T 1 f 0 6 - k4).toNat = (T 1 f 0 6 - (k4 + 1)).toNat + 1 by omega]
        simp only [tmK]
        rw [if_pos hh.2]
        rw [mset_tag (by decide) (by decide)] at b
        exact b
    · have hno : WW 113 [some (xR 20 0 0), some (xI u), some (xI s), some (xI c), some (xI p), some (xI k), some (xI 0), some (xI k4), some (xI 0), x9] [] M := by
        refine yru_ok hC [11] 60 _ _ _ _ ?_
        simp only [ykk_ap, Int.reduceEq, Int.reduceLT, Int.reduceLE, Int.reduceNeg, Int.reduceAdd, Int.reduceSub, Int.reduceMul, and_self, false_and, and_false, not_true_eq_false, not_false_eq_true, true_implies, false_implies, xq0, xq1, xq2, xq3, xq4, xq5, xqR, xq1R, xq3R, xt1, xt2, xt3, List.mem_cons, List.not_mem_nil, or_false, false_or, or_self, if_false, if_true, reduceIte, reduceCtorEq, xent, xen, List.length_cons, List.length_nil, List.replicate, j_c, j_cJ, j_ild, j_ald, j_lld, j_ist, j_ast, j_lst, j_inc, j_add, j_sub, j_mul, j_neg, j_div, j_rem, j_and, j_shr, j_shl1, j_or, j_ladd, j_lsub, j_lmul, j_i2l, j_lcmp, j_i2c, j_dup, j_dup2, j_pop, j_goto, j_ieq, j_ine, j_ilt, j_ige, j_igt, j_ile, j_eq, j_ne, j_lt, j_ge, j_gt, j_le, xsw, j_tsw, j_lsw2, j_gI, j_gJ, j_gR, j_pI, j_pJ, j_gs, j_iald, j_iast, j_cald, j_cast, j_lald, j_last, j_aald, j_cpy, j_min, j_max, j_abs, j_iret, j_zret, j_lret, j_dret, j_ret0, j_V0, j_V1, j_V2, j_V3, j_V4, j_V5, j_S1, j_S2, j_S3, xget, xset, xset2, xclr, xc1, xcat, Nat.reduceAdd, Nat.reduceEqDiff, Nat.reduceLT, Nat.reduceLeDiff, Nat.reduceMul, List.cons_append, List.nil_append, true_and, and_true, List.singleton_append, fX8_serve_0, fX8_serve_1, fX8_serve_2, fX8_serve_3, fX8_serve_6, fX8_serve_8, fX8_serve_9, fX8_serve_11, fX8_serve_13, fX8_serve_15, fX8_serve_18, fX8_serve_20, fX8_serve_21, fX8_serve_24, fX8_serve_25, fX8_serve_28, fX8_serve_29, fX8_serve_31, fX8_serve_33, fX8_serve_36, fX8_serve_37, fX8_serve_39, fX8_serve_40, fX8_serve_43, fX8_serve_45, fX8_serve_46, fX8_serve_47, fX8_serve_49, fX8_serve_51, fX8_serve_54, fX8_serve_55, fX8_serve_57, fX8_serve_60, fX8_serve_63, fX8_serve_64, fX8_serve_66, fX8_serve_68, fX8_serve_71, fX8_serve_74, fX8_serve_75, fX8_serve_78, fX8_serve_79, fX8_serve_82, fX8_serve_83, fX8_serve_85, fX8_serve_88, fX8_serve_91, fX8_serve_92, fX8_serve_95, fX8_serve_97, fX8_serve_99, fX8_serve_100, fX8_serve_101, fX8_serve_103, fX8_serve_106, fX8_serve_107, fX8_serve_110, fX8_serve_111, fX8_serve_113, fX8_serve_115, fX8_serve_118, fX8_serve_119, fX8_serve_121, fX8_serve_122, fX8_serve_123, fX8_serve_124, fX8_serve_125, fX8_serve_128, fX8_serve_131, fX8_serve_134, fX8_serve_135, fX8_serve_137, fX8_serve_138, fX8_serve_139, fX8_serve_140, fX8_serve_142, fX8_serve_143, fX8_serve_146, fX8_serve_147, fX8_serve_148, fX8_serve_150, fX8_serve_152, fX8_serve_155, fX8_serve_156, fX8_serve_159, fX8_serve_161, fX8_serve_162, fX8_serve_163, fX8_serve_165, fX8_serve_166, fX8_serve_167, fX8_serve_169, fX8_serve_172, fX8_serve_173, fX8_serve_176, fX8_serve_178, fX8_serve_180, fX8_serve_181, fX8_serve_182, fX8_serve_183, fX8_serve_185, fX8_serve_186, fX8_serve_187, fX8_serve_190, fX8_serve_193, sX8_ofUnit, sX8_isLorry, sX8_isAt, sX8_isKitchen, sX8_takes, sX8_addTo, xvz_20, xvz_21, xrz_21, xdz_21, xlen, xcat, xc1, Nat.zero_le, Nat.reduceLeDiff, hu0, hu12, s0, s12, vs, n12, m12, s9, Int.neg_zero, Int.add_zero, xup_self, Int.le_refl, xr_c (n := 0) rfl]
        refine ih (k + 1) (k4 + 1) w T M _ _ _ _ (by omega) hG hz (by omega) (by omega) hw h12 (fun M' a b => h M' a ?_)
        by_cases hk : k4 < T 1 f 0 6
        · rw [show (T 1 f 0 6 - k4).toNat = (T 1 f 0 6 - (k4 + 1)).toNat + 1 by omega]
          simp only [tmK]
          rw [if_neg (fun q => hh ⟨hk, q⟩)]
          exact b
        · rw [show (T 1 f 0 6 - k4).toNat = 0 by omega]
          rw [show (T 1 f 0 6 - (k4 + 1)).toNat = 0 by omega] at b
          exact b
      by_cases hk : k4 < T 1 f 0 6
      · have hq : ¬ T 8 f k4 0 = p := fun q => hh ⟨hk, q⟩
        refine yru_ok hC [11, 113] 120 _ _ _ _ ?_
        simp only [ykk_ap, Int.reduceEq, Int.reduceLT, Int.reduceLE, Int.reduceNeg, Int.reduceAdd, Int.reduceSub, Int.reduceMul, and_self, false_and, and_false, not_true_eq_false, not_false_eq_true, true_implies, false_implies, xq0, xq1, xq2, xq3, xq4, xq5, xqR, xq1R, xq3R, xt1, xt2, xt3, List.mem_cons, List.not_mem_nil, or_false, false_or, or_self, if_false, if_true, reduceIte, reduceCtorEq, xent, xen, List.length_cons, List.length_nil, List.replicate, j_c, j_cJ, j_ild, j_ald, j_lld, j_ist, j_ast, j_lst, j_inc, j_add, j_sub, j_mul, j_neg, j_div, j_rem, j_and, j_shr, j_shl1, j_or, j_ladd, j_lsub, j_lmul, j_i2l, j_lcmp, j_i2c, j_dup, j_dup2, j_pop, j_goto, j_ieq, j_ine, j_ilt, j_ige, j_igt, j_ile, j_eq, j_ne, j_lt, j_ge, j_gt, j_le, xsw, j_tsw, j_lsw2, j_gI, j_gJ, j_gR, j_pI, j_pJ, j_gs, j_iald, j_iast, j_cald, j_cast, j_lald, j_last, j_aald, j_cpy, j_min, j_max, j_abs, j_iret, j_zret, j_lret, j_dret, j_ret0, j_V0, j_V1, j_V2, j_V3, j_V4, j_V5, j_S1, j_S2, j_S3, xget, xset, xset2, xclr, xc1, xcat, Nat.reduceAdd, Nat.reduceEqDiff, Nat.reduceLT, Nat.reduceLeDiff, Nat.reduceMul, List.cons_append, List.nil_append, true_and, and_true, List.singleton_append, fX8_serve_0, fX8_serve_1, fX8_serve_2, fX8_serve_3, fX8_serve_6, fX8_serve_8, fX8_serve_9, fX8_serve_11, fX8_serve_13, fX8_serve_15, fX8_serve_18, fX8_serve_20, fX8_serve_21, fX8_serve_24, fX8_serve_25, fX8_serve_28, fX8_serve_29, fX8_serve_31, fX8_serve_33, fX8_serve_36, fX8_serve_37, fX8_serve_39, fX8_serve_40, fX8_serve_43, fX8_serve_45, fX8_serve_46, fX8_serve_47, fX8_serve_49, fX8_serve_51, fX8_serve_54, fX8_serve_55, fX8_serve_57, fX8_serve_60, fX8_serve_63, fX8_serve_64, fX8_serve_66, fX8_serve_68, fX8_serve_71, fX8_serve_74, fX8_serve_75, fX8_serve_78, fX8_serve_79, fX8_serve_82, fX8_serve_83, fX8_serve_85, fX8_serve_88, fX8_serve_91, fX8_serve_92, fX8_serve_95, fX8_serve_97, fX8_serve_99, fX8_serve_100, fX8_serve_101, fX8_serve_103, fX8_serve_106, fX8_serve_107, fX8_serve_110, fX8_serve_111, fX8_serve_113, fX8_serve_115, fX8_serve_118, fX8_serve_119, fX8_serve_121, fX8_serve_122, fX8_serve_123, fX8_serve_124, fX8_serve_125, fX8_serve_128, fX8_serve_131, fX8_serve_134, fX8_serve_135, fX8_serve_137, fX8_serve_138, fX8_serve_139, fX8_serve_140, fX8_serve_142, fX8_serve_143, fX8_serve_146, fX8_serve_147, fX8_serve_148, fX8_serve_150, fX8_serve_152, fX8_serve_155, fX8_serve_156, fX8_serve_159, fX8_serve_161, fX8_serve_162, fX8_serve_163, fX8_serve_165, fX8_serve_166, fX8_serve_167, fX8_serve_169, fX8_serve_172, fX8_serve_173, fX8_serve_176, fX8_serve_178, fX8_serve_180, fX8_serve_181, fX8_serve_182, fX8_serve_183, fX8_serve_185, fX8_serve_186, fX8_serve_187, fX8_serve_190, fX8_serve_193, sX8_ofUnit, sX8_isLorry, sX8_isAt, sX8_isKitchen, sX8_takes, sX8_addTo, xvz_20, xvz_21, xrz_21, xdz_21, xlen, xcat, xc1, Nat.zero_le, Nat.reduceLeDiff, hB, rk, rp, rk4, g1, g4, e4, e7, hk, hq, h0, k3, ep, i0, i1, rz, xr_c (n := 0) rfl, xr_c (n := 1) rfl, xr_c (n := 4) rfl, xr_c (n := 7) rfl]
        exact hno
      · refine yru_ok hC [11, 113] 120 _ _ _ _ ?_
        simp only [ykk_ap, Int.reduceEq, Int.reduceLT, Int.reduceLE, Int.reduceNeg, Int.reduceAdd, Int.reduceSub, Int.reduceMul, and_self, false_and, and_false, not_true_eq_false, not_false_eq_true, true_implies, false_implies, xq0, xq1, xq2, xq3, xq4, xq5, xqR, xq1R, xq3R, xt1, xt2, xt3, List.mem_cons, List.not_mem_nil, or_false, false_or, or_self, if_false, if_true, reduceIte, reduceCtorEq, xent, xen, List.length_cons, List.length_nil, List.replicate, j_c, j_cJ, j_ild, j_ald, j_lld, j_ist, j_ast, j_lst, j_inc, j_add, j_sub, j_mul, j_neg, j_div, j_rem, j_and, j_shr, j_shl1, j_or, j_ladd, j_lsub, j_lmul, j_i2l, j_lcmp, j_i2c, j_dup, j_dup2, j_pop, j_goto, j_ieq, j_ine, j_ilt, j_ige, j_igt, j_ile, j_eq, j_ne, j_lt, j_ge, j_gt, j_le, xsw, j_tsw, j_lsw2, j_gI, j_gJ, j_gR, j_pI, j_pJ, j_gs, j_iald, j_iast, j_cald, j_cast, j_lald, j_last, j_aald, j_cpy, j_min, j_max, j_abs, j_iret, j_zret, j_lret, j_dret, j_ret0, j_V0, j_V1, j_V2, j_V3, j_V4, j_V5, j_S1, j_S2, j_S3, xget, xset, xset2, xclr, xc1, xcat, Nat.reduceAdd, Nat.reduceEqDiff, Nat.reduceLT, Nat.reduceLeDiff, Nat.reduceMul, List.cons_append, List.nil_append, true_and, and_true, List.singleton_append, fX8_serve_0, fX8_serve_1, fX8_serve_2, fX8_serve_3, fX8_serve_6, fX8_serve_8, fX8_serve_9, fX8_serve_11, fX8_serve_13, fX8_serve_15, fX8_serve_18, fX8_serve_20, fX8_serve_21, fX8_serve_24, fX8_serve_25, fX8_serve_28, fX8_serve_29, fX8_serve_31, fX8_serve_33, fX8_serve_36, fX8_serve_37, fX8_serve_39, fX8_serve_40, fX8_serve_43, fX8_serve_45, fX8_serve_46, fX8_serve_47, fX8_serve_49, fX8_serve_51, fX8_serve_54, fX8_serve_55, fX8_serve_57, fX8_serve_60, fX8_serve_63, fX8_serve_64, fX8_serve_66, fX8_serve_68, fX8_serve_71, fX8_serve_74, fX8_serve_75, fX8_serve_78, fX8_serve_79, fX8_serve_82, fX8_serve_83, fX8_serve_85, fX8_serve_88, fX8_serve_91, fX8_serve_92, fX8_serve_95, fX8_serve_97, fX8_serve_99, fX8_serve_100, fX8_serve_101, fX8_serve_103, fX8_serve_106, fX8_serve_107, fX8_serve_110, fX8_serve_111, fX8_serve_113, fX8_serve_115, fX8_serve_118, fX8_serve_119, fX8_serve_121, fX8_serve_122, fX8_serve_123, fX8_serve_124, fX8_serve_125, fX8_serve_128, fX8_serve_131, fX8_serve_134, fX8_serve_135, fX8_serve_137, fX8_serve_138, fX8_serve_139, fX8_serve_140, fX8_serve_142, fX8_serve_143, fX8_serve_146, fX8_serve_147, fX8_serve_148, fX8_serve_150, fX8_serve_152, fX8_serve_155, fX8_serve_156, fX8_serve_159, fX8_serve_161, fX8_serve_162, fX8_serve_163, fX8_serve_165, fX8_serve_166, fX8_serve_167, fX8_serve_169, fX8_serve_172, fX8_serve_173, fX8_serve_176, fX8_serve_178, fX8_serve_180, fX8_serve_181, fX8_serve_182, fX8_serve_183, fX8_serve_185, fX8_serve_186, fX8_serve_187, fX8_serve_190, fX8_serve_193, sX8_ofUnit, sX8_isLorry, sX8_isAt, sX8_isKitchen, sX8_takes, sX8_addTo, xvz_20, xvz_21, xrz_21, xdz_21, xlen, xcat, xc1, Nat.zero_le, Nat.reduceLeDiff, hB, rk, rp, rk4, g1, g4, e4, e7, hk, h0, k3, ep, i0, i1, rz, xr_c (n := 0) rfl, xr_c (n := 1) rfl, xr_c (n := 4) rfl, xr_c (n := 7) rfl]
        exact hno
set_option maxRecDepth 100000 in
theorem kX8_serve_L {Post : XPo} {WW : XK} (hC : XCl (xlk (pX8_serve Post)) WW) {f u s c p meat cc b sv0 w0 : Int} (hs : s = 6 ∨ s = 7) (hcm : (c = 5 ∧ meat = 0) ∨ (c = 2 ∧ meat = 1)) (hu0 : 0 ≤ u) (hu12 : u < 12) (hp : 0 ≤ p ∧ p < 8) (hcc : cc ≤ 80000000) (hb : b ≤ 2000000) (hsv : 0 ≤ sv0 ∧ sv0 + w0 ≤ 80000000) : ∀ (n : Nat) (l w : Int) (T M : XM) (x6 x7 x8 x9 : Option XV), fI cc b T f → GZs u (gst T f u s w (sv0 + (w0 - w))) f (M 21 0 0) → 0 ≤ l → l + n = 4 → 0 ≤ w ∧ w ≤ w0 → M 21 0 0 12 ≤ 900000000 - w ∧ 0 ≤ M 21 0 0 12 →
    (∀ (M' : XM) (T' : XM) (w' : Int), T' = (tmL f p meat (T 1 f 0 8 - l).toNat l T w).1 → w' = (tmL f p meat (T 1 f 0 8 - l).toNat l T w).2 → fI cc b T' f → 0 ≤ w' ∧ w' ≤ w0 → M' 21 0 0 12 ≤ 900000000 - w' ∧ 0 ≤ M' 21 0 0 12 → zf8 u M M' → GZs u (gst T' f u s w' (sv0 + (w0 - w'))) f (M' 21 0 0) → ∀ x6 x7 x8 x9 : Option XV, WW 11 [some (xR 20 0 0), some (xI u), some (xI s), some (xI c), some (xI p), some (xI 4), x6, x7, x8, x9] [] M') → WW 11 [some (xR 20 0 0), some (xI u), some (xI s), some (xI c), some (xI p), some (xI l), x6, x7, x8, x9] [] M := by
  intro n
  induction n with
  | zero =>
    intro l w T M x6 x7 x8 x9 hG hz h0 h1 hw h12 h
    have e4 : l = 4 := by omega
    have c8 := hG.1.2.2.1
    subst e4
    have e0 : (T 1 f 0 8 - 4).toNat = 0 := by omega
    exact h M T w (by rw [e0]; rfl) (by rw [e0]; rfl) hG hw h12 (zf8_refl u M) hz x6 x7 x8 x9
  | succ n ih =>
    intro l w T M x6 x7 x8 x9 hG hz h0 h1 hw h12 h
    have hfc : fC (gst T f u s w (sv0 + (w0 - w))) f := by unfold fC; rw [gst_tag (by decide), gst_tag (by decide), gst_tag (by decide), gst_tag (by decide)]; exact hG.1
    have hB := GZs_B hz hfc
    have c8 := hG.1.2.2.1
    have g1 : ¬ 7 ≤ l := by omega
    have g4 : ¬ 4 ≤ l := by omega
    have rl : XInR l := ⟨by omega, by omega⟩
    have rp : XInR p := ⟨by omega, by omega⟩
    have l4 : l < 4 := by omega
    have e3 : 3 + l = l + 3 := by omega
    have e8 : M 21 0 0 8 = T 1 f 0 8 := by
      have q := hz.2.2.1.2.2.1
      rw [gst_tag (by decide)] at q
      exact q
    have i0 : 0 ≤ 65 + l := by omega
    have i1 : 65 + l < 1561 := by omega
    have s12 : s < 12 := by omega
    have s0 : 0 ≤ s := by omega
    have j0 : 0 ≤ l + 3 := by omega
    have j7 : l + 3 < 7 := by omega
    have ok := (GZs_tk (meat := meat) hz hG.2.1 hb hG.1 (j := l + 3) j0 j7 hw.1).1
    have vs := hz.2.2.2.2.2.2.2.1.2.2.2.1 s s0 s12 (by omega)
    rw [gst_s hs] at vs
    have w9 : w ≤ 1000000000 := by omega
    have hc5 : c = 5 ∨ c = 2 := by omega
    have n12 : ∀ w : Int, 0 ≤ w → ¬ 73 + 12 * u + w = 12 := fun w _ => by omega
    have m12 : ∀ w : Int, 0 ≤ w → ¬ 12 = 73 + 12 * u + w := fun w _ => by omega
    have m65 : ∀ w : Int, 0 ≤ w → ¬ 65 + l = 73 + 12 * u + w := fun w _ => by omega
    have k65 : ¬ 65 + l = 12 := by omega
    have s9 : ¬ (9 : Int) = s := by omega
    have hfl := hG.2.2.2.1 l h0 l4
    have hl1 := hz.2.2.2.2.2.2.1 l h0 l4
    unfold gL1 at hl1
    rw [gst_tag (by decide), gst_tag (by decide)] at hl1
    obtain ⟨l1, l2, l3, ll, l5⟩ := hl1
    by_cases hk : l < T 1 f 0 8
    · have ll' := ll hk
      have ec : (M 21 0 0 (61 + l) = 0 ∧ M 21 0 0 (57 + l) = p) = (T 13 f l 0 = p) := by
        apply propext
        constructor <;> intro g <;> omega
      by_cases hq : T 13 f l 0 = p
      · have hL := GZs_L (meat := meat) (c := cc) hz hs hu0 hu12 hG hcc hb h0 hk ⟨hw.1, by omega⟩ ⟨by omega, by omega⟩ ⟨h12.2, by omega⟩
        have e2 := (GZs_tk (meat := meat) hz hG.2.1 hb hG.1 (j := l + 3) j0 j7 hw.1).2.1
        have hfi := fI_tm1 (meat := meat) j0 j7 hw.1 hG
        rw [e2] at hL
        obtain ⟨v, hv⟩ : ∃ v : Int, v = w - (tmR T f (l + 3) meat w).2 := ⟨_, rfl⟩
        rw [← hv] at hL
        have em : (if c = 5 then (0 : Int) else 1) = meat := by rcases hcm with ⟨rfl, rfl⟩ | ⟨rfl, rfl⟩ <;> rfl
        have ez : w - (zTk M (l + 3) (if c = 5 then 0 else 1) w).2 = v := by rw [em, e2, hv]
        have ex12 : zput M (l + 3) (zTk M (l + 3) (if c = 5 then 0 else 1) w).1 21 0 0 12 = M 21 0 0 12 := zput_out (by omega)
        have ex65 : zput M (l + 3) (zTk M (l + 3) (if c = 5 then 0 else 1) w).1 21 0 0 (65 + l) = M 21 0 0 (65 + l) := zput_out (by omega)
        have exu : ∀ x : Int, 0 ≤ x → x < 12 → zput M (l + 3) (zTk M (l + 3) (if c = 5 then 0 else 1) w).1 21 0 0 (73 + 12 * u + x) = M 21 0 0 (73 + 12 * u + x) := fun x a b => zput_out (by omega)
        refine yru_ok hC [11] 120 _ _ _ _ ?_
        simp only [ykk_ap, Int.reduceEq, Int.reduceLT, Int.reduceLE, Int.reduceNeg, Int.reduceAdd, Int.reduceSub, Int.reduceMul, and_self, false_and, and_false, not_true_eq_false, not_false_eq_true, true_implies, false_implies, xq0, xq1, xq2, xq3, xq4, xq5, xqR, xq1R, xq3R, xt1, xt2, xt3, List.mem_cons, List.not_mem_nil, or_false, false_or, or_self, if_false, if_true, reduceIte, reduceCtorEq, xent, xen, List.length_cons, List.length_nil, List.replicate, j_c, j_cJ, j_ild, j_ald, j_lld, j_ist, j_ast, j_lst, j_inc, j_add, j_sub, j_mul, j_neg, j_div, j_rem, j_and, j_shr, j_shl1, j_or, j_ladd, j_lsub, j_lmul, j_i2l, j_lcmp, j_i2c, j_dup, j_dup2, j_pop, j_goto, j_ieq, j_ine, j_ilt, j_ige, j_igt, j_ile, j_eq, j_ne, j_lt, j_ge, j_gt, j_le, xsw, j_tsw, j_lsw2, j_gI, j_gJ, j_gR, j_pI, j_pJ, j_gs, j_iald, j_iast, j_cald, j_cast, j_lald, j_last, j_aald, j_cpy, j_min, j_max, j_abs, j_iret, j_zret, j_lret, j_dret, j_ret0, j_V0, j_V1, j_V2, j_V3, j_V4, j_V5, j_S1, j_S2, j_S3, xget, xset, xset2, xclr, xc1, xcat, Nat.reduceAdd, Nat.reduceEqDiff, Nat.reduceLT, Nat.reduceLeDiff, Nat.reduceMul, List.cons_append, List.nil_append, true_and, and_true, List.singleton_append, fX8_serve_0, fX8_serve_1, fX8_serve_2, fX8_serve_3, fX8_serve_6, fX8_serve_8, fX8_serve_9, fX8_serve_11, fX8_serve_13, fX8_serve_15, fX8_serve_18, fX8_serve_20, fX8_serve_21, fX8_serve_24, fX8_serve_25, fX8_serve_28, fX8_serve_29, fX8_serve_31, fX8_serve_33, fX8_serve_36, fX8_serve_37, fX8_serve_39, fX8_serve_40, fX8_serve_43, fX8_serve_45, fX8_serve_46, fX8_serve_47, fX8_serve_49, fX8_serve_51, fX8_serve_54, fX8_serve_55, fX8_serve_57, fX8_serve_60, fX8_serve_63, fX8_serve_64, fX8_serve_66, fX8_serve_68, fX8_serve_71, fX8_serve_74, fX8_serve_75, fX8_serve_78, fX8_serve_79, fX8_serve_82, fX8_serve_83, fX8_serve_85, fX8_serve_88, fX8_serve_91, fX8_serve_92, fX8_serve_95, fX8_serve_97, fX8_serve_99, fX8_serve_100, fX8_serve_101, fX8_serve_103, fX8_serve_106, fX8_serve_107, fX8_serve_110, fX8_serve_111, fX8_serve_113, fX8_serve_115, fX8_serve_118, fX8_serve_119, fX8_serve_121, fX8_serve_122, fX8_serve_123, fX8_serve_124, fX8_serve_125, fX8_serve_128, fX8_serve_131, fX8_serve_134, fX8_serve_135, fX8_serve_137, fX8_serve_138, fX8_serve_139, fX8_serve_140, fX8_serve_142, fX8_serve_143, fX8_serve_146, fX8_serve_147, fX8_serve_148, fX8_serve_150, fX8_serve_152, fX8_serve_155, fX8_serve_156, fX8_serve_159, fX8_serve_161, fX8_serve_162, fX8_serve_163, fX8_serve_165, fX8_serve_166, fX8_serve_167, fX8_serve_169, fX8_serve_172, fX8_serve_173, fX8_serve_176, fX8_serve_178, fX8_serve_180, fX8_serve_181, fX8_serve_182, fX8_serve_183, fX8_serve_185, fX8_serve_186, fX8_serve_187, fX8_serve_190, fX8_serve_193, sX8_ofUnit, sX8_isLorry, sX8_isAt, sX8_isKitchen, sX8_takes, sX8_addTo, xvz_20, xvz_21, xrz_21, xdz_21, xlen, xcat, xc1, Nat.zero_le, Nat.reduceLeDiff, hB, rl, rp, g1, g4, e3, e8, hk, ec, hq, h0, l4, j0, j7, i0, i1, hu0, hu12, s0, s12, vs, ok, hc5, hw, w9, ez, ex12, ex65, exu, n12, m12, m65, k65, s9, Int.le_refl, Int.add_right_inj, xup_app, xr_c (n := 0) rfl, xr_c (n := 1) rfl, xr_c (n := 4) rfl, xr_c (n := 7) rfl]
        rw [← vs] at hL
        refine ih (l + 1) (tmR T f (l + 3) meat w).2 (xup (mset T f (l + 3) (tmR T f (l + 3) meat w).1) 13 f l 4 (T 13 f l 4 + (w - (tmR T f (l + 3) meat w).2))) _ _ _ _ _ (fI_13 hfi.1) ?_ (by omega) (by omega) ⟨hfi.2.1, by omega⟩ ?_ (fun M' T' w' a1 a2 a3 a4 a5 a6 a7 => h M' T' w' ?_ ?_ a3 a4 a5 (zf8_trans ⟨fun t ht => by simp only [xup_tag ht, zput_tag ht], by simp only [xup_sup, zput_blk]; rw [sup_ne (by omega), sup_ne (by omega), sup_ne (by omega), sup_ne (by omega), blk_out (by omega)]⟩ a6) a7)
        · have e3 : sv0 + (w0 - w) + v = sv0 + (w0 - (tmR T f (l + 3) meat w).2) := by omega
          rw [e3] at hL
          simp only [xup_sup, zput_blk]
          rw [em]
          rw [hv] at hL ⊢
          exact hL
        · simp only [xup_sup]
          rw [sup_ne (by omega), sup_eq]
          omega
        · rw [a1, xup_tag (by decide), mset_tag (by decide) (by decide)]
          rw [show (T 1 f 0 8 - l).toNat = (T 1 f 0 8 - (l + 1)).toNat + 1 by omega]
          simp only [tmL]
          rw [if_pos hq]
        · rw [a2, xup_tag (by decide), mset_tag (by decide) (by decide)]
          rw [show (T 1 f 0 8 - l).toNat = (T 1 f 0 8 - (l + 1)).toNat + 1 by omega]
          simp only [tmL]
          rw [if_pos hq]
      · refine yru_ok hC [11] 120 _ _ _ _ ?_
        simp only [ykk_ap, Int.reduceEq, Int.reduceLT, Int.reduceLE, Int.reduceNeg, Int.reduceAdd, Int.reduceSub, Int.reduceMul, and_self, false_and, and_false, not_true_eq_false, not_false_eq_true, true_implies, false_implies, xq0, xq1, xq2, xq3, xq4, xq5, xqR, xq1R, xq3R, xt1, xt2, xt3, List.mem_cons, List.not_mem_nil, or_false, false_or, or_self, if_false, if_true, reduceIte, reduceCtorEq, xent, xen, List.length_cons, List.length_nil, List.replicate, j_c, j_cJ, j_ild, j_ald, j_lld, j_ist, j_ast, j_lst, j_inc, j_add, j_sub, j_mul, j_neg, j_div, j_rem, j_and, j_shr, j_shl1, j_or, j_ladd, j_lsub, j_lmul, j_i2l, j_lcmp, j_i2c, j_dup, j_dup2, j_pop, j_goto, j_ieq, j_ine, j_ilt, j_ige, j_igt, j_ile, j_eq, j_ne, j_lt, j_ge, j_gt, j_le, xsw, j_tsw, j_lsw2, j_gI, j_gJ, j_gR, j_pI, j_pJ, j_gs, j_iald, j_iast, j_cald, j_cast, j_lald, j_last, j_aald, j_cpy, j_min, j_max, j_abs, j_iret, j_zret, j_lret, j_dret, j_ret0, j_V0, j_V1, j_V2, j_V3, j_V4, j_V5, j_S1, j_S2, j_S3, xget, xset, xset2, xclr, xc1, xcat, Nat.reduceAdd, Nat.reduceEqDiff, Nat.reduceLT, Nat.reduceLeDiff, Nat.reduceMul, List.cons_append, List.nil_append, true_and, and_true, List.singleton_append, fX8_serve_0, fX8_serve_1, fX8_serve_2, fX8_serve_3, fX8_serve_6, fX8_serve_8, fX8_serve_9, fX8_serve_11, fX8_serve_13, fX8_serve_15, fX8_serve_18, fX8_serve_20, fX8_serve_21, fX8_serve_24, fX8_serve_25, fX8_serve_28, fX8_serve_29, fX8_serve_31, fX8_serve_33, fX8_serve_36, fX8_serve_37, fX8_serve_39, fX8_serve_40, fX8_serve_43, fX8_serve_45, fX8_serve_46, fX8_serve_47, fX8_serve_49, fX8_serve_51, fX8_serve_54, fX8_serve_55, fX8_serve_57, fX8_serve_60, fX8_serve_63, fX8_serve_64, fX8_serve_66, fX8_serve_68, fX8_serve_71, fX8_serve_74, fX8_serve_75, fX8_serve_78, fX8_serve_79, fX8_serve_82, fX8_serve_83, fX8_serve_85, fX8_serve_88, fX8_serve_91, fX8_serve_92, fX8_serve_95, fX8_serve_97, fX8_serve_99, fX8_serve_100, fX8_serve_101, fX8_serve_103, fX8_serve_106, fX8_serve_107, fX8_serve_110, fX8_serve_111, fX8_serve_113, fX8_serve_115, fX8_serve_118, fX8_serve_119, fX8_serve_121, fX8_serve_122, fX8_serve_123, fX8_serve_124, fX8_serve_125, fX8_serve_128, fX8_serve_131, fX8_serve_134, fX8_serve_135, fX8_serve_137, fX8_serve_138, fX8_serve_139, fX8_serve_140, fX8_serve_142, fX8_serve_143, fX8_serve_146, fX8_serve_147, fX8_serve_148, fX8_serve_150, fX8_serve_152, fX8_serve_155, fX8_serve_156, fX8_serve_159, fX8_serve_161, fX8_serve_162, fX8_serve_163, fX8_serve_165, fX8_serve_166, fX8_serve_167, fX8_serve_169, fX8_serve_172, fX8_serve_173, fX8_serve_176, fX8_serve_178, fX8_serve_180, fX8_serve_181, fX8_serve_182, fX8_serve_183, fX8_serve_185, fX8_serve_186, fX8_serve_187, fX8_serve_190, fX8_serve_193, sX8_ofUnit, sX8_isLorry, sX8_isAt, sX8_isKitchen, sX8_takes, sX8_addTo, xvz_20, xvz_21, xrz_21, xdz_21, xlen, xcat, xc1, Nat.zero_le, Nat.reduceLeDiff, hB, rl, rp, g1, g4, e3, e8, hk, ec, hq, h0, l4, i0, i1, hu0, hu12, s0, s12, vs, n12, m12, m65, k65, s9, Int.neg_zero, Int.add_zero, xup_self, Int.le_refl, xr_c (n := 0) rfl, xr_c (n := 1) rfl, xr_c (n := 4) rfl, xr_c (n := 7) rfl]
        refine ih (l + 1) w T M _ _ _ _ hG hz (by omega) (by omega) hw h12 (fun M' T' w' a1 a2 => h M' T' w' ?_ ?_)
        · rw [a1]
          rw [show (T 1 f 0 8 - l).toNat = (T 1 f 0 8 - (l + 1)).toNat + 1 by omega]
          simp only [tmL]
          rw [if_neg hq]
        · rw [a2]
          rw [show (T 1 f 0 8 - l).toNat = (T 1 f 0 8 - (l + 1)).toNat + 1 by omega]
          simp only [tmL]
          rw [if_neg hq]
    · refine yru_ok hC [11] 120 _ _ _ _ ?_
      simp only [ykk_ap, Int.reduceEq, Int.reduceLT, Int.reduceLE, Int.reduceNeg, Int.reduceAdd, Int.reduceSub, Int.reduceMul, and_self, false_and, and_false, not_true_eq_false, not_false_eq_true, true_implies, false_implies, xq0, xq1, xq2, xq3, xq4, xq5, xqR, xq1R, xq3R, xt1, xt2, xt3, List.mem_cons, List.not_mem_nil, or_false, false_or, or_self, if_false, if_true, reduceIte, reduceCtorEq, xent, xen, List.length_cons, List.length_nil, List.replicate, j_c, j_cJ, j_ild, j_ald, j_lld, j_ist, j_ast, j_lst, j_inc, j_add, j_sub, j_mul, j_neg, j_div, j_rem, j_and, j_shr, j_shl1, j_or, j_ladd, j_lsub, j_lmul, j_i2l, j_lcmp, j_i2c, j_dup, j_dup2, j_pop, j_goto, j_ieq, j_ine, j_ilt, j_ige, j_igt, j_ile, j_eq, j_ne, j_lt, j_ge, j_gt, j_le, xsw, j_tsw, j_lsw2, j_gI, j_gJ, j_gR, j_pI, j_pJ, j_gs, j_iald, j_iast, j_cald, j_cast, j_lald, j_last, j_aald, j_cpy, j_min, j_max, j_abs, j_iret, j_zret, j_lret, j_dret, j_ret0, j_V0, j_V1, j_V2, j_V3, j_V4, j_V5, j_S1, j_S2, j_S3, xget, xset, xset2, xclr, xc1, xcat, Nat.reduceAdd, Nat.reduceEqDiff, Nat.reduceLT, Nat.reduceLeDiff, Nat.reduceMul, List.cons_append, List.nil_append, true_and, and_true, List.singleton_append, fX8_serve_0, fX8_serve_1, fX8_serve_2, fX8_serve_3, fX8_serve_6, fX8_serve_8, fX8_serve_9, fX8_serve_11, fX8_serve_13, fX8_serve_15, fX8_serve_18, fX8_serve_20, fX8_serve_21, fX8_serve_24, fX8_serve_25, fX8_serve_28, fX8_serve_29, fX8_serve_31, fX8_serve_33, fX8_serve_36, fX8_serve_37, fX8_serve_39, fX8_serve_40, fX8_serve_43, fX8_serve_45, fX8_serve_46, fX8_serve_47, fX8_serve_49, fX8_serve_51, fX8_serve_54, fX8_serve_55, fX8_serve_57, fX8_serve_60, fX8_serve_63, fX8_serve_64, fX8_serve_66, fX8_serve_68, fX8_serve_71, fX8_serve_74, fX8_serve_75, fX8_serve_78, fX8_serve_79, fX8_serve_82, fX8_serve_83, fX8_serve_85, fX8_serve_88, fX8_serve_91, fX8_serve_92, fX8_serve_95, fX8_serve_97, fX8_serve_99, fX8_serve_100, fX8_serve_101, fX8_serve_103, fX8_serve_106, fX8_serve_107, fX8_serve_110, fX8_serve_111, fX8_serve_113, fX8_serve_115, fX8_serve_118, fX8_serve_119, fX8_serve_121, fX8_serve_122, fX8_serve_123, fX8_serve_124, fX8_serve_125, fX8_serve_128, fX8_serve_131, fX8_serve_134, fX8_serve_135, fX8_serve_137, fX8_serve_138, fX8_serve_139, fX8_serve_140, fX8_serve_142, fX8_serve_143, fX8_serve_146, fX8_serve_147, fX8_serve_148, fX8_serve_150, fX8_serve_152, fX8_serve_155, fX8_serve_156, fX8_serve_159, fX8_serve_161, fX8_serve_162, fX8_serve_163, fX8_serve_165, fX8_serve_166, fX8_serve_167, fX8_serve_169, fX8_serve_172, fX8_serve_173, fX8_serve_176, fX8_serve_178, fX8_serve_180, fX8_serve_181, fX8_serve_182, fX8_serve_183, fX8_serve_185, fX8_serve_186, fX8_serve_187, fX8_serve_190, fX8_serve_193, sX8_ofUnit, sX8_isLorry, sX8_isAt, sX8_isKitchen, sX8_takes, sX8_addTo, xvz_20, xvz_21, xrz_21, xdz_21, xlen, xcat, xc1, Nat.zero_le, Nat.reduceLeDiff, hB, rl, rp, g1, g4, e3, e8, hk, h0, l4, i0, i1, hu0, hu12, s0, s12, vs, n12, m12, m65, k65, s9, Int.neg_zero, Int.add_zero, xup_self, Int.le_refl, xr_c (n := 0) rfl, xr_c (n := 1) rfl, xr_c (n := 4) rfl, xr_c (n := 7) rfl]
      refine ih (l + 1) w T M _ _ _ _ hG hz (by omega) (by omega) hw h12 (fun M' T' w' a1 a2 => h M' T' w' ?_ ?_)
      · rw [a1]
        rw [show (T 1 f 0 8 - l).toNat = 0 by omega, show (T 1 f 0 8 - (l + 1)).toNat = 0 by omega]
        rfl
      · rw [a2]
        rw [show (T 1 f 0 8 - l).toNat = 0 by omega, show (T 1 f 0 8 - (l + 1)).toNat = 0 by omega]
        rfl
end XRc

