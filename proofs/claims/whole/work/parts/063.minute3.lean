section XRd
theorem uNote_tag' {M : XM} {i u many : Int} {t : Nat} (h : ¬ t = 14) : uNote M i u many t = M t := by
  unfold uNote
  split <;> simp only [xup_tag h]
/-- serving but for since when -/
theorem sv_gst {F : XM} {f u s meat b c : Int} (hs : s = 6 ∨ s = 7) (hG : fI c b F f) (hu0 : 0 ≤ u) (hu12 : u < 12) :
    (∀ t : Nat, ¬ t = 14 → sv s meat f u F t = gst (tM F f (F 14 f u 1) meat (F 14 f u s)).1 f u s (tM F f (F 14 f u 1) meat (F 14 f u s)).2 (F 14 f u 9 + (F 14 f u s - (tM F f (F 14 f u 1) meat (F 14 f u s)).2)) t) ∧
    (∀ u' s' : Int, ¬ (u' = u ∧ s' = 8) → sv s meat f u F 14 f u' s' = gst (tM F f (F 14 f u 1) meat (F 14 f u s)).1 f u s (tM F f (F 14 f u 1) meat (F 14 f u s)).2 (F 14 f u 9 + (F 14 f u s - (tM F f (F 14 f u 1) meat (F 14 f u s)).2)) 14 f u' s') ∧
    sv s meat f u F 14 f u 8 = (if sv s meat f u F 14 f u 6 + sv s meat f u F 14 f u 7 = 0 then -1 else F 14 f u 8) ∧ sv s meat f u F 14 f u 6 + sv s meat f u F 14 f u 7 ≤ F 14 f u 6 + F 14 f u 7 := by
  obtain ⟨T, eT⟩ : ∃ T : XM, T = (tM F f (F 14 f u 1) meat (F 14 f u s)).1 := ⟨_, rfl⟩
  obtain ⟨w, ew⟩ : ∃ w : Int, w = (tM F f (F 14 f u 1) meat (F 14 f u s)).2 := ⟨_, rfl⟩
  have hU := hG.2.2.2.2.1 u hu0 hu12
  have hw0 : 0 ≤ F 14 f u s := by rcases hs with rfl | rfl <;> omega
  have ts := tM_s (i := f) (p := F 14 f u 1) (meat := meat) hw0 hG
  have tq := tM_q F f (F 14 f u 1) meat (F 14 f u s)
  have e14 : T 14 = F 14 := by rw [eT]; exact tq.1 14 (by decide) (by decide) (by decide)
  rw [← eT, ← ew]
  rw [← ew] at ts
  have ed : sv s meat f u F = uNote (xup T 14 f u s (T 14 f u s - (F 14 f u s - w))) f u (F 14 f u s - w) := by
    unfold sv uServe
    rw [← eT, ← ew]
  have esub : T 14 f u s - (F 14 f u s - w) = w := by rw [e14]; omega
  rw [esub] at ed
  have hx : ∀ u' s' : Int, uNote (xup T 14 f u s w) f u (F 14 f u s - w) 14 f u' s' = if u' = u ∧ s' = 8 then (if (xup T 14 f u s w) 14 f u 6 + (xup T 14 f u s w) 14 f u 7 = 0 then -1 else F 14 f u 8) else if u' = u ∧ s' = 9 then F 14 f u 9 + (F 14 f u s - w) else if u' = u ∧ s' = s then w else F 14 f u' s' := fun u' s' => by
    unfold uNote
    obtain ⟨A, hA⟩ : ∃ A : XM, A = xup T 14 f u s w := ⟨_, rfl⟩
    have hAn : ∀ u' s' : Int, A 14 f u' s' = if u' = u ∧ s' = s then w else F 14 f u' s' := fun u' s' => by
      rw [hA, xup_app, e14]
      simp only [true_and]
    have s9 : ¬ (9 : Int) = s := by omega
    have s8 : ¬ (8 : Int) = s := by omega
    have hA9 : A 14 f u 9 = F 14 f u 9 := by rw [hAn, if_neg (fun q => s9 q.2)]
    rw [← hA]
    by_cases hz : A 14 f u 6 + A 14 f u 7 = 0
    · rw [if_pos hz, if_pos hz, xup_app]
      by_cases e8 : u' = u ∧ s' = 8
      · rw [if_pos ⟨rfl, rfl, e8.1, e8.2⟩, if_pos e8]
      · rw [if_neg (fun q => e8 ⟨q.2.2.1, q.2.2.2⟩), if_neg e8, xup_app]
        by_cases e9 : u' = u ∧ s' = 9
        · rw [if_pos ⟨rfl, rfl, e9.1, e9.2⟩, if_pos e9, hA9]
        · rw [if_neg (fun q => e9 ⟨q.2.2.1, q.2.2.2⟩), if_neg e9, hAn]
    · rw [if_neg hz, if_neg hz, xup_app]
      by_cases e9 : u' = u ∧ s' = 9
      · have e8 : ¬ (u' = u ∧ s' = 8) := by omega
        rw [if_pos ⟨rfl, rfl, e9.1, e9.2⟩, if_neg e8, if_pos e9, hA9]
      · rw [if_neg (fun q => e9 ⟨q.2.2.1, q.2.2.2⟩)]
        by_cases e8 : u' = u ∧ s' = 8
        · rw [if_pos e8, e8.1, e8.2, hAn, if_neg (fun q => s8 q.2)]
        · rw [if_neg e8, if_neg e9, hAn]
  have hg : ∀ u' s' : Int, gst T f u s w (F 14 f u 9 + (F 14 f u s - w)) 14 f u' s' = if u' = u ∧ s' = 9 then F 14 f u 9 + (F 14 f u s - w) else if u' = u ∧ s' = s then w else F 14 f u' s' := fun u' s' => by
    unfold gst
    simp only [xup_app, e14, true_and]
  have h6 : sv s meat f u F 14 f u 6 = (xup T 14 f u s w) 14 f u 6 := by
    rw [ed, hx]
    rcases hs with rfl | rfl <;> simp only [xup_app, e14, true_and, Int.reduceEq, if_false, if_true, and_self]
  have h7 : sv s meat f u F 14 f u 7 = (xup T 14 f u s w) 14 f u 7 := by
    rw [ed, hx]
    rcases hs with rfl | rfl <;> simp only [xup_app, e14, true_and, Int.reduceEq, if_false, if_true, and_self]
  refine ⟨fun t ht => ?_, fun u' s' h8 => ?_, ?_, ?_⟩
  · rw [ed, uNote_tag' ht, gst_tag ht, xup_tag ht]
  · rw [ed, hx, hg, if_neg h8]
  · rw [h6, h7, ed, hx, if_pos ⟨rfl, rfl⟩]
  · rw [h6, h7]
    rcases hs with rfl | rfl <;> (simp only [xup_app, e14, true_and, Int.reduceEq, if_false, if_true, and_self]; omega)
theorem GZs_eq {u f : Int} {F F' : XM} {z : Int → Int} (h : GZs u F f z) (h12 : F 1 f 0 10 ≤ 12) (ht : ∀ t : Nat, ¬ t = 14 → F' t = F t) (hn : ∀ u' s : Int, ¬ (u' = u ∧ s = 8) → F' 14 f u' s = F 14 f u' s) : GZs u F' f z := by
  obtain ⟨hI, hS, hC, hT, hP, hK, hL, ⟨hX, v1, v2, v3, v4, v5, v6, v7⟩, hM⟩ := h
  have e1 := ht 1 (by decide)
  refine ⟨hI, gS_c (fun _ _ _ => rfl) (by rw [ht 2 (by decide)]) hS, gC_c (fun _ _ _ => rfl) (by rw [e1]) (by rw [e1]) (by rw [e1]) (by rw [e1]) (by rw [e1]) hC, ?_, gP_c (fun _ _ _ => rfl) (by rw [ht 3 (by decide)]) (by rw [ht 4 (by decide)]) hP, gK_c (fun _ _ _ => rfl) (fun k s _ _ _ => by rw [ht 8 (by decide)]) (fun k w _ _ _ _ => by rw [ht 9 (by decide)]) (by rw [e1]) hK, gL_c (fun _ _ _ => rfl) (fun l s _ _ _ => by rw [ht 13 (by decide)]) (by rw [e1]) (by rw [e1]; exact Int.le_refl _) hL, ⟨fun w a b e => gU1_c (fun _ _ _ => rfl) (fun s _ _ => hn w s (fun q => e q.1)) (by rw [e1]) (by rw [e1]; exact Int.le_refl _) (hX w a b e), by rw [e1]; exact v1, by rw [hn u 0 (by omega)]; exact v2, fun s a b c => by rw [hn u s (fun q => c q.2)]; exact v3 s a b c, by rw [hn u 1 (by omega), e1]; exact v4, by rw [hn u 5 (by omega)]; exact v5, by rw [hn u 2 (by omega)]; exact v6, by rw [hn u 11 (by omega)]; exact v7⟩, gM_c (fun _ _ _ => rfl) (fun j x _ _ _ _ => by rw [ht 11 (by decide)]) (by rw [e1]) (fun j _ _ => gNo_c (by rw [e1]) (by rw [e1])) hM⟩
  have a1 : tX0_cooked F' f = tX0_cooked F f := by unfold tX0_cooked ncooked; rw [e1, ht 8 (by decide)]
  have a3 : tX0_thrown F' f = tX0_thrown F f := by unfold tX0_thrown nthrownK nthrownL; rw [e1, ht 8 (by decide), ht 13 (by decide)]
  have s9 : ∀ u' s : Int, 9 ≤ s → F' 14 f u' s = F 14 f u' s := fun u' s hs => hn u' s (fun q => by omega)
  have a2 : tX0_served F' f = tX0_served F f := by
    unfold tX0_served
    rw [e1]
    exact sf_congr _ _ fun x _ _ => s9 x 9 (by decide)
  have a4 : tX0_cancelled F' f = tX0_cancelled F f := by
    unfold tX0_cancelled
    rw [e1]
    exact sf_congr _ _ fun x _ _ => s9 x 11 (by decide)
  have a5 : tX0_penalties F' f = tX0_penalties F f := by
    unfold tX0_penalties
    rw [e1]
    exact sf_congr _ _ fun x _ _ => s9 x 10 (by decide)
  unfold gT
  rw [a1, a2, a3, a4, a5, e1]
  exact hT
theorem sv_sum {F : XM} {f c b : Int} (hG : fI c b F f) : 0 ≤ tX0_served F f ∧ tX0_served F f ≤ c := by
  have c10 := hG.1.2.2.2.1
  unfold tX0_served
  rw [sf_sm]
  have hb : ∀ n : Nat, n ≤ 12 → 0 ≤ sm (nserved F f) 0 n ∧ sm (nserved F f) 0 n ≤ sm (uG F f) 0 n ∧ sm (uG F f) 0 n ≤ sm (uG F f) 0 12 := by
    have hu : ∀ y : Int, 0 ≤ y → y < 12 → 0 ≤ nserved F f y ∧ nserved F f y ≤ uG F f y := fun y a b => by
      have z := hG.2.2.2.2.1 y a b
      unfold nserved uG
      omega
    have hm : ∀ n : Nat, n ≤ 12 → 0 ≤ sm (nserved F f) 0 n ∧ sm (nserved F f) 0 n ≤ sm (uG F f) 0 n := by
      intro n
      induction n with
      | zero => intro _; simp [sm]
      | succ n ih =>
        intro hn
        have a := ih (by omega)
        have q := hu (0 + n) (by omega) (by omega)
        simp only [sm]
        omega
    obtain ⟨X, hX⟩ : ∃ X : Int, X = sm (uG F f) 0 12 := ⟨_, rfl⟩
    have hk : ∀ k n : Nat, n + k = 12 → sm (uG F f) 0 n ≤ X := by
      intro k
      induction k with
      | zero => intro n hn; rw [show n = 12 by omega, hX]; exact Int.le_refl _
      | succ k ih =>
        intro n hn
        have a := ih (n + 1) (by omega)
        have q := hu (0 + n) (by omega) (by omega)
        simp only [sm] at a
        omega
    intro n hn
    have a := hm n hn
    exact ⟨a.1, a.2, by rw [← hX]; exact hk (12 - n) n (by omega)⟩
  have q := hb (F 1 f 0 10).toNat (by omega)
  have e1 := hG.2.2.2.2.2.1
  have e2 := hG.2.2.2.2.2.2
  omega
def sX8_serve : XSp := xq3 20 (fun _ _ u s c M Q => ∃ (F : XM) (f cc b meat : Int), ((s = 6 ∨ s = 7) ∧ ((c = 5 ∧ meat = 0) ∨ (c = 2 ∧ meat = 1)) ∧ (0 ≤ u ∧ u < 12) ∧ fI cc b F f ∧ cc ≤ 80000000 ∧ b ≤ 2000000 ∧ GZs u F f (M 21 0 0)) ∧ (∀ M' : XM, zf8 u M M' → GZs u (sv s meat f u F) f (M' 21 0 0) → Q [] M'))
theorem xg_serve {F : XM} {f cc b meat u s c : Int} {M : XM} {Q : XPo} (hc : (s = 6 ∨ s = 7) ∧ ((c = 5 ∧ meat = 0) ∨ (c = 2 ∧ meat = 1)) ∧ (0 ≤ u ∧ u < 12) ∧ fI cc b F f ∧ cc ≤ 80000000 ∧ b ≤ 2000000 ∧ GZs u F f (M 21 0 0)) (h : ∀ M' : XM, zf8 u M M' → GZs u (sv s meat f u F) f (M' 21 0 0) → Q [] M') : sX8_serve [xR 20 0 0, xI u, xI s, xI c] M Q := @id ((20 = 20 ∧ xval 20 0 0) ∧ ∃ (F : XM) (f cc b meat : Int), ((s = 6 ∨ s = 7) ∧ ((c = 5 ∧ meat = 0) ∨ (c = 2 ∧ meat = 1)) ∧ (0 ≤ u ∧ u < 12) ∧ fI cc b F f ∧ cc ≤ 80000000 ∧ b ≤ 2000000 ∧ GZs u F f (M 21 0 0)) ∧ (∀ M' : XM, zf8 u M M' → GZs u (sv s meat f u F) f (M' 21 0 0) → Q [] M')) ⟨⟨rfl, xvz_20⟩, F, f, cc, b, meat, hc, h⟩
set_option maxRecDepth 100000 in
theorem kX8_serve : XCn yX8_serve wX8_serve rX8_serve sX8_serve := XC3 pX8_serve rfl rfl aX8_serve (by decide) (fun i0 k0 u s c M Post hv h WW hC => by
  obtain ⟨rfl, rfl⟩ := xk20 hv
  obtain ⟨F, f, cc, b, meat, ⟨hs, hcm, ⟨hu0, hu12⟩, hG, hcc, hb, hz⟩, h⟩ := h
  have hU := hG.2.2.2.2.1 u hu0 hu12
  have how := fU_ow hG.2.2.2.2 (by omega) hu0 hu12
  have hgu := fU_at hG.2.2.2.2 hu0 hu12
  unfold uG at hgu
  have hss := sv_sum hG
  have z12 := hz.2.2.2.1.2.1
  have vs := hz.2.2.2.2.2.2.2.1.2
  obtain ⟨v1, v2, v3, v4, v5, v6⟩ := vs
  have e1 := v3 1 (by decide) (by decide) (by decide)
  obtain ⟨w0, hw0⟩ : ∃ w : Int, w = F 14 f u s := ⟨_, rfl⟩
  have hwb : 0 ≤ w0 ∧ w0 + F 14 f u 9 ≤ cc := by rw [hw0]; rcases hs with rfl | rfl <;> omega
  have eg : gst F f u s w0 (F 14 f u 9 + (w0 - w0)) = F := by
    unfold gst
    rw [hw0, xup_self, Int.sub_self, Int.add_zero, xup_self]
  have hp8 : 0 ≤ F 14 f u 1 ∧ F 14 f u 1 < 8 := ⟨hU.2.1.1, by have := hG.1.1; omega⟩
  have hsv := sv_gst (meat := meat) hs hG hu0 hu12
  have hk := kX8_serve_L hC (c := c) (p := F 14 f u 1) (meat := meat) hs hcm hu0 hu12 hp8 (by omega) hb ⟨hU.2.2.2.2.2.2.2.1.1, by omega⟩ 4 0 w0 F M none none none none hG (by rw [eg]; exact hz) (by decide) (by decide) ⟨hwb.1, Int.le_refl _⟩ (by omega) (fun M1 T1 w1 a1 a2 a3 a4 a5 a6 a7 x6 x7 x8 x9 => by
    refine kX8_serve_K hC (c := c) (p := F 14 f u 1) (meat := meat) hs hcm hu0 hu12 hp8 (by omega) hb ⟨hU.2.2.2.2.2.2.2.1.1, by omega⟩ 3 4 0 w1 T1 M1 x6 x7 x8 x9 (by decide) a3 a7 (by decide) (by decide) a4 a5 (fun M' b1 b2 => h M' (zf8_trans a6 b1) ?_)
    have t1 : T1 1 = F 1 := by rw [a1]; exact (tmL_q _ _ _ _).1 1 (by decide) (by decide) (by decide)
    rw [Int.sub_zero] at a1 a2 b2
    have eT : (tM F f (F 14 f u 1) meat (F 14 f u s)) = tmK f (F 14 f u 1) meat (T1 1 f 0 6).toNat 0 T1 w1 := by
      unfold tM
      rw [← hw0, ← a1, ← a2, t1]
    have c10 := hG.1.2.2.2.1
    refine GZs_eq b2 ?_ (fun t ht => ?_) (fun u' s' h8 => ?_)
    · rw [← eT, gst_tag (by decide), (tM_q F f (F 14 f u 1) meat (F 14 f u s)).1 1 (by decide) (by decide) (by decide)]
      exact c10.2
    · rw [hsv.1 t ht, eT, hw0]
    · rw [hsv.2.1 u' s' h8, eT, hw0])
  show WW 0 [some (xR 20 0 0), some (xI u), some (xI s), some (xI c), none, none, none, none, none, none] [] M
  refine yru_ok hC [11] 60 _ _ _ _ ?_
  simp only [ykk_ap, Int.reduceEq, Int.reduceLT, Int.reduceLE, Int.reduceNeg, Int.reduceAdd, Int.reduceSub, Int.reduceMul, and_self, false_and, and_false, not_true_eq_false, not_false_eq_true, true_implies, false_implies, xq0, xq1, xq2, xq3, xq4, xq5, xqR, xq1R, xq3R, xt1, xt2, xt3, List.mem_cons, List.not_mem_nil, or_false, false_or, or_self, if_false, if_true, reduceIte, reduceCtorEq, xent, xen, List.length_cons, List.length_nil, List.replicate, j_c, j_cJ, j_ild, j_ald, j_lld, j_ist, j_ast, j_lst, j_inc, j_add, j_sub, j_mul, j_neg, j_div, j_rem, j_and, j_shr, j_shl1, j_or, j_ladd, j_lsub, j_lmul, j_i2l, j_lcmp, j_i2c, j_dup, j_dup2, j_pop, j_goto, j_ieq, j_ine, j_ilt, j_ige, j_igt, j_ile, j_eq, j_ne, j_lt, j_ge, j_gt, j_le, xsw, j_tsw, j_lsw2, j_gI, j_gJ, j_gR, j_pI, j_pJ, j_gs, j_iald, j_iast, j_cald, j_cast, j_lald, j_last, j_aald, j_cpy, j_min, j_max, j_abs, j_iret, j_zret, j_lret, j_dret, j_ret0, j_V0, j_V1, j_V2, j_V3, j_V4, j_V5, j_S1, j_S2, j_S3, xget, xset, xset2, xclr, xc1, xcat, Nat.reduceAdd, Nat.reduceEqDiff, Nat.reduceLT, Nat.reduceLeDiff, Nat.reduceMul, List.cons_append, List.nil_append, true_and, and_true, List.singleton_append, fX8_serve_0, fX8_serve_1, fX8_serve_2, fX8_serve_3, fX8_serve_6, fX8_serve_8, fX8_serve_9, fX8_serve_11, fX8_serve_13, fX8_serve_15, fX8_serve_18, fX8_serve_20, fX8_serve_21, fX8_serve_24, fX8_serve_25, fX8_serve_28, fX8_serve_29, fX8_serve_31, fX8_serve_33, fX8_serve_36, fX8_serve_37, fX8_serve_39, fX8_serve_40, fX8_serve_43, fX8_serve_45, fX8_serve_46, fX8_serve_47, fX8_serve_49, fX8_serve_51, fX8_serve_54, fX8_serve_55, fX8_serve_57, fX8_serve_60, fX8_serve_63, fX8_serve_64, fX8_serve_66, fX8_serve_68, fX8_serve_71, fX8_serve_74, fX8_serve_75, fX8_serve_78, fX8_serve_79, fX8_serve_82, fX8_serve_83, fX8_serve_85, fX8_serve_88, fX8_serve_91, fX8_serve_92, fX8_serve_95, fX8_serve_97, fX8_serve_99, fX8_serve_100, fX8_serve_101, fX8_serve_103, fX8_serve_106, fX8_serve_107, fX8_serve_110, fX8_serve_111, fX8_serve_113, fX8_serve_115, fX8_serve_118, fX8_serve_119, fX8_serve_121, fX8_serve_122, fX8_serve_123, fX8_serve_124, fX8_serve_125, fX8_serve_128, fX8_serve_131, fX8_serve_134, fX8_serve_135, fX8_serve_137, fX8_serve_138, fX8_serve_139, fX8_serve_140, fX8_serve_142, fX8_serve_143, fX8_serve_146, fX8_serve_147, fX8_serve_148, fX8_serve_150, fX8_serve_152, fX8_serve_155, fX8_serve_156, fX8_serve_159, fX8_serve_161, fX8_serve_162, fX8_serve_163, fX8_serve_165, fX8_serve_166, fX8_serve_167, fX8_serve_169, fX8_serve_172, fX8_serve_173, fX8_serve_176, fX8_serve_178, fX8_serve_180, fX8_serve_181, fX8_serve_182, fX8_serve_183, fX8_serve_185, fX8_serve_186, fX8_serve_187, fX8_serve_190, fX8_serve_193, sX8_ofUnit, sX8_isLorry, sX8_isAt, sX8_isKitchen, sX8_takes, sX8_addTo, xvz_20, xvz_21, xrz_21, xdz_21, xlen, xcat, xc1, Nat.zero_le, Nat.reduceLeDiff, hu0, hu12, e1]
  exact hk)
/-- UnitKitchensModel.serveAll()V -/
abbrev wX8_serveAll : List Cond := Cond.code yX8_serveAll cX8_serveAll 2 none :: xT
abbrev rX8_serveAll : Room := { frames := 3, cells := 0, slots := 0, locals := 79 }
def pX8_serveAll (Post : XPo) : List (Nat × XStp) := [(0, j_c 0 1), (1, j_ist 1 1), (2, j_ild 1 1), (3, j_ald 0 1), (4, j_gR 20 (fun i k => (21, 0, 0))), (7, j_c 9 2), (9, j_iald), (10, j_ige 85), (13, j_ald 0 1), (14, j_ild 1 1), (15, j_V1 20 sX8_works), (18, j_eq 79), (21, j_ald 0 1), (22, j_ild 1 1), (23, j_V1 20 sX8_owedTo), (26, j_le 79), (29, j_ald 0 1), (30, j_ild 1 1), (31, j_c 6 2), (33, j_c 5 1), (34, j_V3 20 sX8_serve), (37, j_ald 0 1), (38, j_ild 1 1), (39, j_c 7 2), (41, j_c 2 1), (42, j_V3 20 sX8_serve), (45, j_ald 0 1), (46, j_ild 1 1), (47, j_c 7 2), (49, j_c 5 1), (50, j_V3 20 sX8_serve), (53, j_ald 0 1), (54, j_ild 1 1), (55, j_c 8 2), (57, j_ald 0 1), (58, j_ild 1 1), (59, j_V1 20 sX8_owedTo), (62, j_ne 69), (65, j_c (-1) 1), (66, j_goto 76), (69, j_ald 0 1), (70, j_ild 1 1), (71, j_c 8 2), (73, j_V2 20 sX8_ofUnit), (76, j_V3 20 sX8_setUnit), (79, j_inc 1 1), (82, j_goto 2), (85, j_ret0 Post)]
set_option maxRecDepth 100000 in
theorem aX8_serveAll (Post : XPo) : XAll rX8_serveAll cX8_serveAll 2 RX8 wX8_serveAll none Post (pX8_serveAll Post) := XAll.cons (xs_iconst dX8_serveAll_0) (XAll.cons (xs_istore_n dX8_serveAll_1 rfl (by decide)) (XAll.cons (xs_iload_n dX8_serveAll_2 rfl) (XAll.cons (xs_aload_n dX8_serveAll_3 rfl) (XAll.cons (fgX8_0 tw_1048 dX8_serveAll_4) (XAll.cons (xs_bipush dX8_serveAll_7 rfl) (XAll.cons (xs_iald dX8_serveAll_9) (XAll.cons (xs_icmp_ge dX8_serveAll_10 (by decide)) (XAll.cons (xs_aload_n dX8_serveAll_13 rfl) (XAll.cons (xs_iload_n dX8_serveAll_14 rfl) (XAll.cons (xs_V1 kX8_works ⟨⟨rfl, rfl, by decide, by decide⟩, ⟨by decide, by decide, by decide +kernel⟩, ⟨tw_1228, tw_1230, tp_27, tw_9, tw_1231⟩, 8, TX8, _, rfl, fun G ρ f i k => ⟨_, rfl⟩⟩ dX8_serveAll_15) (XAll.cons (xs_if_eq dX8_serveAll_18 (by decide)) (XAll.cons (xs_aload_n dX8_serveAll_21 rfl) (XAll.cons (xs_iload_n dX8_serveAll_22 rfl) (XAll.cons (xs_V1 kX8_owedTo ⟨⟨rfl, rfl, by decide, by decide⟩, ⟨by decide, by decide, by decide +kernel⟩, ⟨tw_1252, tw_1254, tp_30, tw_9, tw_1255⟩, 8, TX8, _, rfl, fun G ρ f i k => ⟨_, rfl⟩⟩ dX8_serveAll_23) (XAll.cons (xs_if_le dX8_serveAll_26 (by decide)) (XAll.cons (xs_aload_n dX8_serveAll_29 rfl) (XAll.cons (xs_iload_n dX8_serveAll_30 rfl) (XAll.cons (xs_bipush dX8_serveAll_31 rfl) (XAll.cons (xs_iconst dX8_serveAll_33) (XAll.cons (xs_V3 kX8_serve ⟨⟨rfl, rfl, by decide, by decide⟩, ⟨by decide, by decide, by decide +kernel⟩, ⟨tw_1293, tw_1295, tp_39, tw_9, tw_1296⟩, 8, TX8, _, rfl, fun G ρ f i k => ⟨_, rfl⟩⟩ dX8_serveAll_34) (XAll.cons (xs_aload_n dX8_serveAll_37 rfl) (XAll.cons (xs_iload_n dX8_serveAll_38 rfl) (XAll.cons (xs_bipush dX8_serveAll_39 rfl) (XAll.cons (xs_iconst dX8_serveAll_41) (XAll.cons (xs_V3 kX8_serve ⟨⟨rfl, rfl, by decide, by decide⟩, ⟨by decide, by decide, by decide +kernel⟩, ⟨tw_1293, tw_1295, tp_39, tw_9, tw_1296⟩, 8, TX8, _, rfl, fun G ρ f i k => ⟨_, rfl⟩⟩ dX8_serveAll_42) (XAll.cons (xs_aload_n dX8_serveAll_45 rfl) (XAll.cons (xs_iload_n dX8_serveAll_46 rfl) (XAll.cons (xs_bipush dX8_serveAll_47 rfl) (XAll.cons (xs_iconst dX8_serveAll_49) (XAll.cons (xs_V3 kX8_serve ⟨⟨rfl, rfl, by decide, by decide⟩, ⟨by decide, by decide, by decide +kernel⟩, ⟨tw_1293, tw_1295, tp_39, tw_9, tw_1296⟩, 8, TX8, _, rfl, fun G ρ f i k => ⟨_, rfl⟩⟩ dX8_serveAll_50) (XAll.cons (xs_aload_n dX8_serveAll_53 rfl) (XAll.cons (xs_iload_n dX8_serveAll_54 rfl) (XAll.cons (xs_bipush dX8_serveAll_55 rfl) (XAll.cons (xs_aload_n dX8_serveAll_57 rfl) (XAll.cons (xs_iload_n dX8_serveAll_58 rfl) (XAll.cons (xs_V1 kX8_owedTo ⟨⟨rfl, rfl, by decide, by decide⟩, ⟨by decide, by decide, by decide +kernel⟩, ⟨tw_1252, tw_1254, tp_30, tw_9, tw_1255⟩, 8, TX8, _, rfl, fun G ρ f i k => ⟨_, rfl⟩⟩ dX8_serveAll_59) (XAll.cons (xs_if_ne dX8_serveAll_62 (by decide)) (XAll.cons (xs_iconst dX8_serveAll_65) (XAll.cons (xs_goto dX8_serveAll_66 (by decide)) (XAll.cons (xs_aload_n dX8_serveAll_69 rfl) (XAll.cons (xs_iload_n dX8_serveAll_70 rfl) (XAll.cons (xs_bipush dX8_serveAll_71 rfl) (XAll.cons (xs_V2 kX8_ofUnit ⟨⟨rfl, rfl, by decide, by decide⟩, ⟨by decide, by decide, by decide +kernel⟩, ⟨tw_1224, tw_1226, tp_26, tw_9, tw_1227⟩, 8, TX8, _, rfl, fun G ρ f i k => ⟨_, rfl⟩⟩ dX8_serveAll_73) (XAll.cons (xs_V3 kX8_setUnit ⟨⟨rfl, rfl, by decide, by decide⟩, ⟨by decide, by decide, by decide +kernel⟩, ⟨tw_1208, tw_1210, tp_23, tw_9, tw_1211⟩, 8, TX8, _, rfl, fun G ρ f i k => ⟨_, rfl⟩⟩ dX8_serveAll_76) (XAll.cons (xs_iinc dX8_serveAll_79 (by decide)) (XAll.cons (xs_goto dX8_serveAll_82 (by decide)) (XAll.cons (xs_vret rfl dX8_serveAll_85) (XAll.nil))))))))))))))))))))))))))))))))))))))))))))))))
theorem fX8_serveAll_0 (Post : XPo) (cut : List Nat) (WW : XK) (n : Nat) (L : XLs) (st : List XV) (M : XM) : yru (xlk (pX8_serveAll Post)) cut WW (n + 1) 0 L st M = j_c 0 1 0 L st M (ykk (xlk (pX8_serveAll Post)) cut WW n) := yf rfl
theorem fX8_serveAll_1 (Post : XPo) (cut : List Nat) (WW : XK) (n : Nat) (L : XLs) (st : List XV) (M : XM) : yru (xlk (pX8_serveAll Post)) cut WW (n + 1) 1 L st M = j_ist 1 1 1 L st M (ykk (xlk (pX8_serveAll Post)) cut WW n) := yf rfl
theorem fX8_serveAll_2 (Post : XPo) (cut : List Nat) (WW : XK) (n : Nat) (L : XLs) (st : List XV) (M : XM) : yru (xlk (pX8_serveAll Post)) cut WW (n + 1) 2 L st M = j_ild 1 1 2 L st M (ykk (xlk (pX8_serveAll Post)) cut WW n) := yf rfl
theorem fX8_serveAll_3 (Post : XPo) (cut : List Nat) (WW : XK) (n : Nat) (L : XLs) (st : List XV) (M : XM) : yru (xlk (pX8_serveAll Post)) cut WW (n + 1) 3 L st M = j_ald 0 1 3 L st M (ykk (xlk (pX8_serveAll Post)) cut WW n) := yf rfl
theorem fX8_serveAll_4 (Post : XPo) (cut : List Nat) (WW : XK) (n : Nat) (L : XLs) (st : List XV) (M : XM) : yru (xlk (pX8_serveAll Post)) cut WW (n + 1) 4 L st M = j_gR 20 (fun i k => (21, 0, 0)) 4 L st M (ykk (xlk (pX8_serveAll Post)) cut WW n) := yf rfl
theorem fX8_serveAll_7 (Post : XPo) (cut : List Nat) (WW : XK) (n : Nat) (L : XLs) (st : List XV) (M : XM) : yru (xlk (pX8_serveAll Post)) cut WW (n + 1) 7 L st M = j_c 9 2 7 L st M (ykk (xlk (pX8_serveAll Post)) cut WW n) := yf rfl
theorem fX8_serveAll_9 (Post : XPo) (cut : List Nat) (WW : XK) (n : Nat) (L : XLs) (st : List XV) (M : XM) : yru (xlk (pX8_serveAll Post)) cut WW (n + 1) 9 L st M = j_iald 9 L st M (ykk (xlk (pX8_serveAll Post)) cut WW n) := yf rfl
theorem fX8_serveAll_10 (Post : XPo) (cut : List Nat) (WW : XK) (n : Nat) (L : XLs) (st : List XV) (M : XM) : yru (xlk (pX8_serveAll Post)) cut WW (n + 1) 10 L st M = j_ige 85 10 L st M (ykk (xlk (pX8_serveAll Post)) cut WW n) := yf rfl
theorem fX8_serveAll_13 (Post : XPo) (cut : List Nat) (WW : XK) (n : Nat) (L : XLs) (st : List XV) (M : XM) : yru (xlk (pX8_serveAll Post)) cut WW (n + 1) 13 L st M = j_ald 0 1 13 L st M (ykk (xlk (pX8_serveAll Post)) cut WW n) := yf rfl
theorem fX8_serveAll_14 (Post : XPo) (cut : List Nat) (WW : XK) (n : Nat) (L : XLs) (st : List XV) (M : XM) : yru (xlk (pX8_serveAll Post)) cut WW (n + 1) 14 L st M = j_ild 1 1 14 L st M (ykk (xlk (pX8_serveAll Post)) cut WW n) := yf rfl
theorem fX8_serveAll_15 (Post : XPo) (cut : List Nat) (WW : XK) (n : Nat) (L : XLs) (st : List XV) (M : XM) : yru (xlk (pX8_serveAll Post)) cut WW (n + 1) 15 L st M = j_V1 20 sX8_works 15 L st M (ykk (xlk (pX8_serveAll Post)) cut WW n) := yf rfl
theorem fX8_serveAll_18 (Post : XPo) (cut : List Nat) (WW : XK) (n : Nat) (L : XLs) (st : List XV) (M : XM) : yru (xlk (pX8_serveAll Post)) cut WW (n + 1) 18 L st M = j_eq 79 18 L st M (ykk (xlk (pX8_serveAll Post)) cut WW n) := yf rfl
theorem fX8_serveAll_21 (Post : XPo) (cut : List Nat) (WW : XK) (n : Nat) (L : XLs) (st : List XV) (M : XM) : yru (xlk (pX8_serveAll Post)) cut WW (n + 1) 21 L st M = j_ald 0 1 21 L st M (ykk (xlk (pX8_serveAll Post)) cut WW n) := yf rfl
theorem fX8_serveAll_22 (Post : XPo) (cut : List Nat) (WW : XK) (n : Nat) (L : XLs) (st : List XV) (M : XM) : yru (xlk (pX8_serveAll Post)) cut WW (n + 1) 22 L st M = j_ild 1 1 22 L st M (ykk (xlk (pX8_serveAll Post)) cut WW n) := yf rfl
theorem fX8_serveAll_23 (Post : XPo) (cut : List Nat) (WW : XK) (n : Nat) (L : XLs) (st : List XV) (M : XM) : yru (xlk (pX8_serveAll Post)) cut WW (n + 1) 23 L st M = j_V1 20 sX8_owedTo 23 L st M (ykk (xlk (pX8_serveAll Post)) cut WW n) := yf rfl
theorem fX8_serveAll_26 (Post : XPo) (cut : List Nat) (WW : XK) (n : Nat) (L : XLs) (st : List XV) (M : XM) : yru (xlk (pX8_serveAll Post)) cut WW (n + 1) 26 L st M = j_le 79 26 L st M (ykk (xlk (pX8_serveAll Post)) cut WW n) := yf rfl
theorem fX8_serveAll_29 (Post : XPo) (cut : List Nat) (WW : XK) (n : Nat) (L : XLs) (st : List XV) (M : XM) : yru (xlk (pX8_serveAll Post)) cut WW (n + 1) 29 L st M = j_ald 0 1 29 L st M (ykk (xlk (pX8_serveAll Post)) cut WW n) := yf rfl
theorem fX8_serveAll_30 (Post : XPo) (cut : List Nat) (WW : XK) (n : Nat) (L : XLs) (st : List XV) (M : XM) : yru (xlk (pX8_serveAll Post)) cut WW (n + 1) 30 L st M = j_ild 1 1 30 L st M (ykk (xlk (pX8_serveAll Post)) cut WW n) := yf rfl
theorem fX8_serveAll_31 (Post : XPo) (cut : List Nat) (WW : XK) (n : Nat) (L : XLs) (st : List XV) (M : XM) : yru (xlk (pX8_serveAll Post)) cut WW (n + 1) 31 L st M = j_c 6 2 31 L st M (ykk (xlk (pX8_serveAll Post)) cut WW n) := yf rfl
theorem fX8_serveAll_33 (Post : XPo) (cut : List Nat) (WW : XK) (n : Nat) (L : XLs) (st : List XV) (M : XM) : yru (xlk (pX8_serveAll Post)) cut WW (n + 1) 33 L st M = j_c 5 1 33 L st M (ykk (xlk (pX8_serveAll Post)) cut WW n) := yf rfl
theorem fX8_serveAll_34 (Post : XPo) (cut : List Nat) (WW : XK) (n : Nat) (L : XLs) (st : List XV) (M : XM) : yru (xlk (pX8_serveAll Post)) cut WW (n + 1) 34 L st M = j_V3 20 sX8_serve 34 L st M (ykk (xlk (pX8_serveAll Post)) cut WW n) := yf rfl
theorem fX8_serveAll_37 (Post : XPo) (cut : List Nat) (WW : XK) (n : Nat) (L : XLs) (st : List XV) (M : XM) : yru (xlk (pX8_serveAll Post)) cut WW (n + 1) 37 L st M = j_ald 0 1 37 L st M (ykk (xlk (pX8_serveAll Post)) cut WW n) := yf rfl
theorem fX8_serveAll_38 (Post : XPo) (cut : List Nat) (WW : XK) (n : Nat) (L : XLs) (st : List XV) (M : XM) : yru (xlk (pX8_serveAll Post)) cut WW (n + 1) 38 L st M = j_ild 1 1 38 L st M (ykk (xlk (pX8_serveAll Post)) cut WW n) := yf rfl
theorem fX8_serveAll_39 (Post : XPo) (cut : List Nat) (WW : XK) (n : Nat) (L : XLs) (st : List XV) (M : XM) : yru (xlk (pX8_serveAll Post)) cut WW (n + 1) 39 L st M = j_c 7 2 39 L st M (ykk (xlk (pX8_serveAll Post)) cut WW n) := yf rfl
theorem fX8_serveAll_41 (Post : XPo) (cut : List Nat) (WW : XK) (n : Nat) (L : XLs) (st : List XV) (M : XM) : yru (xlk (pX8_serveAll Post)) cut WW (n + 1) 41 L st M = j_c 2 1 41 L st M (ykk (xlk (pX8_serveAll Post)) cut WW n) := yf rfl
theorem fX8_serveAll_42 (Post : XPo) (cut : List Nat) (WW : XK) (n : Nat) (L : XLs) (st : List XV) (M : XM) : yru (xlk (pX8_serveAll Post)) cut WW (n + 1) 42 L st M = j_V3 20 sX8_serve 42 L st M (ykk (xlk (pX8_serveAll Post)) cut WW n) := yf rfl
theorem fX8_serveAll_45 (Post : XPo) (cut : List Nat) (WW : XK) (n : Nat) (L : XLs) (st : List XV) (M : XM) : yru (xlk (pX8_serveAll Post)) cut WW (n + 1) 45 L st M = j_ald 0 1 45 L st M (ykk (xlk (pX8_serveAll Post)) cut WW n) := yf rfl
theorem fX8_serveAll_46 (Post : XPo) (cut : List Nat) (WW : XK) (n : Nat) (L : XLs) (st : List XV) (M : XM) : yru (xlk (pX8_serveAll Post)) cut WW (n + 1) 46 L st M = j_ild 1 1 46 L st M (ykk (xlk (pX8_serveAll Post)) cut WW n) := yf rfl
theorem fX8_serveAll_47 (Post : XPo) (cut : List Nat) (WW : XK) (n : Nat) (L : XLs) (st : List XV) (M : XM) : yru (xlk (pX8_serveAll Post)) cut WW (n + 1) 47 L st M = j_c 7 2 47 L st M (ykk (xlk (pX8_serveAll Post)) cut WW n) := yf rfl
theorem fX8_serveAll_49 (Post : XPo) (cut : List Nat) (WW : XK) (n : Nat) (L : XLs) (st : List XV) (M : XM) : yru (xlk (pX8_serveAll Post)) cut WW (n + 1) 49 L st M = j_c 5 1 49 L st M (ykk (xlk (pX8_serveAll Post)) cut WW n) := yf rfl
theorem fX8_serveAll_50 (Post : XPo) (cut : List Nat) (WW : XK) (n : Nat) (L : XLs) (st : List XV) (M : XM) : yru (xlk (pX8_serveAll Post)) cut WW (n + 1) 50 L st M = j_V3 20 sX8_serve 50 L st M (ykk (xlk (pX8_serveAll Post)) cut WW n) := yf rfl
theorem fX8_serveAll_53 (Post : XPo) (cut : List Nat) (WW : XK) (n : Nat) (L : XLs) (st : List XV) (M : XM) : yru (xlk (pX8_serveAll Post)) cut WW (n + 1) 53 L st M = j_ald 0 1 53 L st M (ykk (xlk (pX8_serveAll Post)) cut WW n) := yf rfl
theorem fX8_serveAll_54 (Post : XPo) (cut : List Nat) (WW : XK) (n : Nat) (L : XLs) (st : List XV) (M : XM) : yru (xlk (pX8_serveAll Post)) cut WW (n + 1) 54 L st M = j_ild 1 1 54 L st M (ykk (xlk (pX8_serveAll Post)) cut WW n) := yf rfl
theorem fX8_serveAll_55 (Post : XPo) (cut : List Nat) (WW : XK) (n : Nat) (L : XLs) (st : List XV) (M : XM) : yru (xlk (pX8_serveAll Post)) cut WW (n + 1) 55 L st M = j_c 8 2 55 L st M (ykk (xlk (pX8_serveAll Post)) cut WW n) := yf rfl
theorem fX8_serveAll_57 (Post : XPo) (cut : List Nat) (WW : XK) (n : Nat) (L : XLs) (st : List XV) (M : XM) : yru (xlk (pX8_serveAll Post)) cut WW (n + 1) 57 L st M = j_ald 0 1 57 L st M (ykk (xlk (pX8_serveAll Post)) cut WW n) := yf rfl
theorem fX8_serveAll_58 (Post : XPo) (cut : List Nat) (WW : XK) (n : Nat) (L : XLs) (st : List XV) (M : XM) : yru (xlk (pX8_serveAll Post)) cut WW (n + 1) 58 L st M = j_ild 1 1 58 L st M (ykk (xlk (pX8_serveAll Post)) cut WW n) := yf rfl
theorem fX8_serveAll_59 (Post : XPo) (cut : List Nat) (WW : XK) (n : Nat) (L : XLs) (st : List XV) (M : XM) : yru (xlk (pX8_serveAll Post)) cut WW (n + 1) 59 L st M = j_V1 20 sX8_owedTo 59 L st M (ykk (xlk (pX8_serveAll Post)) cut WW n) := yf rfl
theorem fX8_serveAll_62 (Post : XPo) (cut : List Nat) (WW : XK) (n : Nat) (L : XLs) (st : List XV) (M : XM) : yru (xlk (pX8_serveAll Post)) cut WW (n + 1) 62 L st M = j_ne 69 62 L st M (ykk (xlk (pX8_serveAll Post)) cut WW n) := yf rfl
theorem fX8_serveAll_65 (Post : XPo) (cut : List Nat) (WW : XK) (n : Nat) (L : XLs) (st : List XV) (M : XM) : yru (xlk (pX8_serveAll Post)) cut WW (n + 1) 65 L st M = j_c (-1) 1 65 L st M (ykk (xlk (pX8_serveAll Post)) cut WW n) := yf rfl
theorem fX8_serveAll_66 (Post : XPo) (cut : List Nat) (WW : XK) (n : Nat) (L : XLs) (st : List XV) (M : XM) : yru (xlk (pX8_serveAll Post)) cut WW (n + 1) 66 L st M = j_goto 76 66 L st M (ykk (xlk (pX8_serveAll Post)) cut WW n) := yf rfl
theorem fX8_serveAll_69 (Post : XPo) (cut : List Nat) (WW : XK) (n : Nat) (L : XLs) (st : List XV) (M : XM) : yru (xlk (pX8_serveAll Post)) cut WW (n + 1) 69 L st M = j_ald 0 1 69 L st M (ykk (xlk (pX8_serveAll Post)) cut WW n) := yf rfl
theorem fX8_serveAll_70 (Post : XPo) (cut : List Nat) (WW : XK) (n : Nat) (L : XLs) (st : List XV) (M : XM) : yru (xlk (pX8_serveAll Post)) cut WW (n + 1) 70 L st M = j_ild 1 1 70 L st M (ykk (xlk (pX8_serveAll Post)) cut WW n) := yf rfl
theorem fX8_serveAll_71 (Post : XPo) (cut : List Nat) (WW : XK) (n : Nat) (L : XLs) (st : List XV) (M : XM) : yru (xlk (pX8_serveAll Post)) cut WW (n + 1) 71 L st M = j_c 8 2 71 L st M (ykk (xlk (pX8_serveAll Post)) cut WW n) := yf rfl
theorem fX8_serveAll_73 (Post : XPo) (cut : List Nat) (WW : XK) (n : Nat) (L : XLs) (st : List XV) (M : XM) : yru (xlk (pX8_serveAll Post)) cut WW (n + 1) 73 L st M = j_V2 20 sX8_ofUnit 73 L st M (ykk (xlk (pX8_serveAll Post)) cut WW n) := yf rfl
theorem fX8_serveAll_76 (Post : XPo) (cut : List Nat) (WW : XK) (n : Nat) (L : XLs) (st : List XV) (M : XM) : yru (xlk (pX8_serveAll Post)) cut WW (n + 1) 76 L st M = j_V3 20 sX8_setUnit 76 L st M (ykk (xlk (pX8_serveAll Post)) cut WW n) := yf rfl
theorem fX8_serveAll_79 (Post : XPo) (cut : List Nat) (WW : XK) (n : Nat) (L : XLs) (st : List XV) (M : XM) : yru (xlk (pX8_serveAll Post)) cut WW (n + 1) 79 L st M = j_inc 1 1 79 L st M (ykk (xlk (pX8_serveAll Post)) cut WW n) := yf rfl
theorem fX8_serveAll_82 (Post : XPo) (cut : List Nat) (WW : XK) (n : Nat) (L : XLs) (st : List XV) (M : XM) : yru (xlk (pX8_serveAll Post)) cut WW (n + 1) 82 L st M = j_goto 2 82 L st M (ykk (xlk (pX8_serveAll Post)) cut WW n) := yf rfl
theorem fX8_serveAll_85 (Post : XPo) (cut : List Nat) (WW : XK) (n : Nat) (L : XLs) (st : List XV) (M : XM) : yru (xlk (pX8_serveAll Post)) cut WW (n + 1) 85 L st M = j_ret0 Post 85 L st M (ykk (xlk (pX8_serveAll Post)) cut WW n) := yf rfl
set_option maxRecDepth 100000 in
theorem kX8_serveAll_loop {Post : XPo} {WW : XK} (hC : XCl (xlk (pX8_serveAll Post)) WW) {f c b : Int} (hc : c ≤ 80000000) (hb : b ≤ 2000000) : ∀ (n : Nat) (u : Int) (F M : XM), GZ 60 F f (M 21 0 0) → fI c b F f → 0 ≤ u → u + n = F 1 f 0 10 → (∀ M' : XM, zfr M M' → GZ 60 (xit (srv f) n u F) f (M' 21 0 0) → Post [] M') → WW 2 [some (xR 20 0 0), some (xI u)] [] M := by
  intro n
  induction n with
  | zero =>
    intro u F M hz hG h0 h1 h
    have e9 : M 21 0 0 9 = F 1 f 0 10 := hz.2.2.1.2.2.2.1
    have c10 := hG.1.2.2.2.1
    have r9 : XInR (F 1 f 0 10) := ⟨by omega, by omega⟩
    have eu : u = F 1 f 0 10 := by omega
    have q := h M (zfr_refl M) hz
    subst eu
    refine yru_ok hC [2] 60 _ _ _ _ ?_
    simp only [ykk_ap, Int.reduceEq, Int.reduceLT, Int.reduceLE, Int.reduceNeg, Int.reduceAdd, Int.reduceSub, Int.reduceMul, and_self, false_and, and_false, not_true_eq_false, not_false_eq_true, true_implies, false_implies, xq0, xq1, xq2, xq3, xq4, xq5, xqR, xq1R, xq3R, xt1, xt2, xt3, List.mem_cons, List.not_mem_nil, or_false, false_or, or_self, if_false, if_true, reduceIte, reduceCtorEq, xent, xen, List.length_cons, List.length_nil, List.replicate, j_c, j_cJ, j_ild, j_ald, j_lld, j_ist, j_ast, j_lst, j_inc, j_add, j_sub, j_mul, j_neg, j_div, j_rem, j_and, j_shr, j_shl1, j_or, j_ladd, j_lsub, j_lmul, j_i2l, j_lcmp, j_i2c, j_dup, j_dup2, j_pop, j_goto, j_ieq, j_ine, j_ilt, j_ige, j_igt, j_ile, j_eq, j_ne, j_lt, j_ge, j_gt, j_le, xsw, j_tsw, j_lsw2, j_gI, j_gJ, j_gR, j_pI, j_pJ, j_gs, j_iald, j_iast, j_cald, j_cast, j_lald, j_last, j_aald, j_cpy, j_min, j_max, j_abs, j_iret, j_zret, j_lret, j_dret, j_ret0, j_V0, j_V1, j_V2, j_V3, j_V4, j_V5, j_S1, j_S2, j_S3, xget, xset, xset2, xclr, xc1, xcat, Nat.reduceAdd, Nat.reduceEqDiff, Nat.reduceLT, Nat.reduceLeDiff, Nat.reduceMul, List.cons_append, List.nil_append, true_and, and_true, List.singleton_append, fX8_serveAll_0, fX8_serveAll_1, fX8_serveAll_2, fX8_serveAll_3, fX8_serveAll_4, fX8_serveAll_7, fX8_serveAll_9, fX8_serveAll_10, fX8_serveAll_13, fX8_serveAll_14, fX8_serveAll_15, fX8_serveAll_18, fX8_serveAll_21, fX8_serveAll_22, fX8_serveAll_23, fX8_serveAll_26, fX8_serveAll_29, fX8_serveAll_30, fX8_serveAll_31, fX8_serveAll_33, fX8_serveAll_34, fX8_serveAll_37, fX8_serveAll_38, fX8_serveAll_39, fX8_serveAll_41, fX8_serveAll_42, fX8_serveAll_45, fX8_serveAll_46, fX8_serveAll_47, fX8_serveAll_49, fX8_serveAll_50, fX8_serveAll_53, fX8_serveAll_54, fX8_serveAll_55, fX8_serveAll_57, fX8_serveAll_58, fX8_serveAll_59, fX8_serveAll_62, fX8_serveAll_65, fX8_serveAll_66, fX8_serveAll_69, fX8_serveAll_70, fX8_serveAll_71, fX8_serveAll_73, fX8_serveAll_76, fX8_serveAll_79, fX8_serveAll_82, fX8_serveAll_85, sX8_works, sX8_owedTo, sX8_ofUnit, sX8_setUnit, xvz_20, xvz_21, xrz_21, xdz_21, xlen, xcat, xc1, Nat.zero_le, Nat.reduceLeDiff, e9, r9, Int.le_refl]
    exact q
  | succ n ih =>
    intro u F M hz hG h0 h1 h
    have hB := GZ_zB hz hG.1
    have e9 : M 21 0 0 9 = F 1 f 0 10 := hz.2.2.1.2.2.2.1
    have c10 := hG.1.2.2.2.1
    have r9 : XInR (F 1 f 0 10) := ⟨by omega, by omega⟩
    have g1 : ¬ F 1 f 0 10 ≤ u := by omega
    have u12 : u < 12 := by omega
    have ru : XInR u := ⟨by omega, by omega⟩
    have hI := zI_u hB.1 h0
    have how := fU_ow hG.2.2.2.2 (by omega) h0 u12
    have hU := hG.2.2.2.2.1 u h0 u12
    have hW := (hz.2.2.2.2.2.2.2.1 u h0 u12).1 (by omega)
    unfold gW1 at hW
    obtain ⟨e0, e1, p9, p10, p11, -, hw1, hw0⟩ := hW
    have hno : srv f u F = F → WW 79 [some (xR 20 0 0), some (xI u)] [] M := fun e => by
      have hb' := ih (u + 1) F M hz hG (by omega) (by omega) (fun M' a b => h M' a (by
        show GZ 60 (xit (srv f) n (u + 1) (srv f u F)) f (M' 21 0 0)
        rw [e]
        exact b))
      refine yru_ok hC [2] 60 _ _ _ _ ?_
      simp only [ykk_ap, Int.reduceEq, Int.reduceLT, Int.reduceLE, Int.reduceNeg, Int.reduceAdd, Int.reduceSub, Int.reduceMul, and_self, false_and, and_false, not_true_eq_false, not_false_eq_true, true_implies, false_implies, xq0, xq1, xq2, xq3, xq4, xq5, xqR, xq1R, xq3R, xt1, xt2, xt3, List.mem_cons, List.not_mem_nil, or_false, false_or, or_self, if_false, if_true, reduceIte, reduceCtorEq, xent, xen, List.length_cons, List.length_nil, List.replicate, j_c, j_cJ, j_ild, j_ald, j_lld, j_ist, j_ast, j_lst, j_inc, j_add, j_sub, j_mul, j_neg, j_div, j_rem, j_and, j_shr, j_shl1, j_or, j_ladd, j_lsub, j_lmul, j_i2l, j_lcmp, j_i2c, j_dup, j_dup2, j_pop, j_goto, j_ieq, j_ine, j_ilt, j_ige, j_igt, j_ile, j_eq, j_ne, j_lt, j_ge, j_gt, j_le, xsw, j_tsw, j_lsw2, j_gI, j_gJ, j_gR, j_pI, j_pJ, j_gs, j_iald, j_iast, j_cald, j_cast, j_lald, j_last, j_aald, j_cpy, j_min, j_max, j_abs, j_iret, j_zret, j_lret, j_dret, j_ret0, j_V0, j_V1, j_V2, j_V3, j_V4, j_V5, j_S1, j_S2, j_S3, xget, xset, xset2, xclr, xc1, xcat, Nat.reduceAdd, Nat.reduceEqDiff, Nat.reduceLT, Nat.reduceLeDiff, Nat.reduceMul, List.cons_append, List.nil_append, true_and, and_true, List.singleton_append, fX8_serveAll_0, fX8_serveAll_1, fX8_serveAll_2, fX8_serveAll_3, fX8_serveAll_4, fX8_serveAll_7, fX8_serveAll_9, fX8_serveAll_10, fX8_serveAll_13, fX8_serveAll_14, fX8_serveAll_15, fX8_serveAll_18, fX8_serveAll_21, fX8_serveAll_22, fX8_serveAll_23, fX8_serveAll_26, fX8_serveAll_29, fX8_serveAll_30, fX8_serveAll_31, fX8_serveAll_33, fX8_serveAll_34, fX8_serveAll_37, fX8_serveAll_38, fX8_serveAll_39, fX8_serveAll_41, fX8_serveAll_42, fX8_serveAll_45, fX8_serveAll_46, fX8_serveAll_47, fX8_serveAll_49, fX8_serveAll_50, fX8_serveAll_53, fX8_serveAll_54, fX8_serveAll_55, fX8_serveAll_57, fX8_serveAll_58, fX8_serveAll_59, fX8_serveAll_62, fX8_serveAll_65, fX8_serveAll_66, fX8_serveAll_69, fX8_serveAll_70, fX8_serveAll_71, fX8_serveAll_73, fX8_serveAll_76, fX8_serveAll_79, fX8_serveAll_82, fX8_serveAll_85, sX8_works, sX8_owedTo, sX8_ofUnit, sX8_setUnit, xvz_20, xvz_21, xrz_21, xdz_21, xlen, xcat, xc1, Nat.zero_le, Nat.reduceLeDiff]
      exact hb'
    by_cases hs : F 14 f u 0 = 0
    · have s0 : M 21 0 0 (73 + 12 * u + 0) = 0 := by rw [e0]; exact hs
      have y6 := (hw1 hs).1 6 (by decide) (by decide)
      have y7 := (hw1 hs).1 7 (by decide) (by decide)
      have ro : XInR (F 14 f u 6 + F 14 f u 7) := ⟨by omega, by omega⟩
      by_cases ho : 0 < F 14 f u 6 + F 14 f u 7
      · have ho' : ¬ F 14 f u 6 + F 14 f u 7 ≤ 0 := by omega
        refine yru_ok hC [2] 60 _ _ _ _ ?_
        simp only [ykk_ap, Int.reduceEq, Int.reduceLT, Int.reduceLE, Int.reduceNeg, Int.reduceAdd, Int.reduceSub, Int.reduceMul, and_self, false_and, and_false, not_true_eq_false, not_false_eq_true, true_implies, false_implies, xq0, xq1, xq2, xq3, xq4, xq5, xqR, xq1R, xq3R, xt1, xt2, xt3, List.mem_cons, List.not_mem_nil, or_false, false_or, or_self, if_false, if_true, reduceIte, reduceCtorEq, xent, xen, List.length_cons, List.length_nil, List.replicate, j_c, j_cJ, j_ild, j_ald, j_lld, j_ist, j_ast, j_lst, j_inc, j_add, j_sub, j_mul, j_neg, j_div, j_rem, j_and, j_shr, j_shl1, j_or, j_ladd, j_lsub, j_lmul, j_i2l, j_lcmp, j_i2c, j_dup, j_dup2, j_pop, j_goto, j_ieq, j_ine, j_ilt, j_ige, j_igt, j_ile, j_eq, j_ne, j_lt, j_ge, j_gt, j_le, xsw, j_tsw, j_lsw2, j_gI, j_gJ, j_gR, j_pI, j_pJ, j_gs, j_iald, j_iast, j_cald, j_cast, j_lald, j_last, j_aald, j_cpy, j_min, j_max, j_abs, j_iret, j_zret, j_lret, j_dret, j_ret0, j_V0, j_V1, j_V2, j_V3, j_V4, j_V5, j_S1, j_S2, j_S3, xget, xset, xset2, xclr, xc1, xcat, Nat.reduceAdd, Nat.reduceEqDiff, Nat.reduceLT, Nat.reduceLeDiff, Nat.reduceMul, List.cons_append, List.nil_append, true_and, and_true, List.singleton_append, fX8_serveAll_0, fX8_serveAll_1, fX8_serveAll_2, fX8_serveAll_3, fX8_serveAll_4, fX8_serveAll_7, fX8_serveAll_9, fX8_serveAll_10, fX8_serveAll_13, fX8_serveAll_14, fX8_serveAll_15, fX8_serveAll_18, fX8_serveAll_21, fX8_serveAll_22, fX8_serveAll_23, fX8_serveAll_26, fX8_serveAll_29, fX8_serveAll_30, fX8_serveAll_31, fX8_serveAll_33, fX8_serveAll_34, fX8_serveAll_37, fX8_serveAll_38, fX8_serveAll_39, fX8_serveAll_41, fX8_serveAll_42, fX8_serveAll_45, fX8_serveAll_46, fX8_serveAll_47, fX8_serveAll_49, fX8_serveAll_50, fX8_serveAll_53, fX8_serveAll_54, fX8_serveAll_55, fX8_serveAll_57, fX8_serveAll_58, fX8_serveAll_59, fX8_serveAll_62, fX8_serveAll_65, fX8_serveAll_66, fX8_serveAll_69, fX8_serveAll_70, fX8_serveAll_71, fX8_serveAll_73, fX8_serveAll_76, fX8_serveAll_79, fX8_serveAll_82, fX8_serveAll_85, sX8_works, sX8_owedTo, sX8_ofUnit, sX8_setUnit, xvz_20, xvz_21, xrz_21, xdz_21, xlen, xcat, xc1, Nat.zero_le, Nat.reduceLeDiff, hI, e9, r9, ru, g1, h0, u12, s0, y6, y7, ro, ho', Int.le_refl, xr_c (n := 0) rfl, xr_c (n := 1) rfl]
        have hz1 := GZs_of hz h0 u12 (by omega) hs
        refine xg_serve (meat := 0) ⟨Or.inl rfl, Or.inl ⟨rfl, rfl⟩, ⟨h0, u12⟩, hG, hc, hb, hz1⟩ (fun M1 f1 z1 => ?_)
        simp only [ykk_ap, Int.reduceEq, Int.reduceLT, Int.reduceLE, Int.reduceNeg, Int.reduceAdd, Int.reduceSub, Int.reduceMul, and_self, false_and, and_false, not_true_eq_false, not_false_eq_true, true_implies, false_implies, xq0, xq1, xq2, xq3, xq4, xq5, xqR, xq1R, xq3R, xt1, xt2, xt3, List.mem_cons, List.not_mem_nil, or_false, false_or, or_self, if_false, if_true, reduceIte, reduceCtorEq, xent, xen, List.length_cons, List.length_nil, List.replicate, j_c, j_cJ, j_ild, j_ald, j_lld, j_ist, j_ast, j_lst, j_inc, j_add, j_sub, j_mul, j_neg, j_div, j_rem, j_and, j_shr, j_shl1, j_or, j_ladd, j_lsub, j_lmul, j_i2l, j_lcmp, j_i2c, j_dup, j_dup2, j_pop, j_goto, j_ieq, j_ine, j_ilt, j_ige, j_igt, j_ile, j_eq, j_ne, j_lt, j_ge, j_gt, j_le, xsw, j_tsw, j_lsw2, j_gI, j_gJ, j_gR, j_pI, j_pJ, j_gs, j_iald, j_iast, j_cald, j_cast, j_lald, j_last, j_aald, j_cpy, j_min, j_max, j_abs, j_iret, j_zret, j_lret, j_dret, j_ret0, j_V0, j_V1, j_V2, j_V3, j_V4, j_V5, j_S1, j_S2, j_S3, xget, xset, xset2, xclr, xc1, xcat, Nat.reduceAdd, Nat.reduceEqDiff, Nat.reduceLT, Nat.reduceLeDiff, Nat.reduceMul, List.cons_append, List.nil_append, true_and, and_true, List.singleton_append, fX8_serveAll_0, fX8_serveAll_1, fX8_serveAll_2, fX8_serveAll_3, fX8_serveAll_4, fX8_serveAll_7, fX8_serveAll_9, fX8_serveAll_10, fX8_serveAll_13, fX8_serveAll_14, fX8_serveAll_15, fX8_serveAll_18, fX8_serveAll_21, fX8_serveAll_22, fX8_serveAll_23, fX8_serveAll_26, fX8_serveAll_29, fX8_serveAll_30, fX8_serveAll_31, fX8_serveAll_33, fX8_serveAll_34, fX8_serveAll_37, fX8_serveAll_38, fX8_serveAll_39, fX8_serveAll_41, fX8_serveAll_42, fX8_serveAll_45, fX8_serveAll_46, fX8_serveAll_47, fX8_serveAll_49, fX8_serveAll_50, fX8_serveAll_53, fX8_serveAll_54, fX8_serveAll_55, fX8_serveAll_57, fX8_serveAll_58, fX8_serveAll_59, fX8_serveAll_62, fX8_serveAll_65, fX8_serveAll_66, fX8_serveAll_69, fX8_serveAll_70, fX8_serveAll_71, fX8_serveAll_73, fX8_serveAll_76, fX8_serveAll_79, fX8_serveAll_82, fX8_serveAll_85, sX8_works, sX8_owedTo, sX8_ofUnit, sX8_setUnit, xvz_20, xvz_21, xrz_21, xdz_21, xlen, xcat, xc1, Nat.zero_le, Nat.reduceLeDiff]
        have hG1 := fI_sv (meat := 0) (Or.inl rfl) h0 u12 hG
        refine xg_serve (meat := 1) ⟨Or.inr rfl, Or.inr ⟨rfl, rfl⟩, ⟨h0, u12⟩, hG1, hc, hb, z1⟩ (fun M2 f2 z2 => ?_)
        simp only [ykk_ap, Int.reduceEq, Int.reduceLT, Int.reduceLE, Int.reduceNeg, Int.reduceAdd, Int.reduceSub, Int.reduceMul, and_self, false_and, and_false, not_true_eq_false, not_false_eq_true, true_implies, false_implies, xq0, xq1, xq2, xq3, xq4, xq5, xqR, xq1R, xq3R, xt1, xt2, xt3, List.mem_cons, List.not_mem_nil, or_false, false_or, or_self, if_false, if_true, reduceIte, reduceCtorEq, xent, xen, List.length_cons, List.length_nil, List.replicate, j_c, j_cJ, j_ild, j_ald, j_lld, j_ist, j_ast, j_lst, j_inc, j_add, j_sub, j_mul, j_neg, j_div, j_rem, j_and, j_shr, j_shl1, j_or, j_ladd, j_lsub, j_lmul, j_i2l, j_lcmp, j_i2c, j_dup, j_dup2, j_pop, j_goto, j_ieq, j_ine, j_ilt, j_ige, j_igt, j_ile, j_eq, j_ne, j_lt, j_ge, j_gt, j_le, xsw, j_tsw, j_lsw2, j_gI, j_gJ, j_gR, j_pI, j_pJ, j_gs, j_iald, j_iast, j_cald, j_cast, j_lald, j_last, j_aald, j_cpy, j_min, j_max, j_abs, j_iret, j_zret, j_lret, j_dret, j_ret0, j_V0, j_V1, j_V2, j_V3, j_V4, j_V5, j_S1, j_S2, j_S3, xget, xset, xset2, xclr, xc1, xcat, Nat.reduceAdd, Nat.reduceEqDiff, Nat.reduceLT, Nat.reduceLeDiff, Nat.reduceMul, List.cons_append, List.nil_append, true_and, and_true, List.singleton_append, fX8_serveAll_0, fX8_serveAll_1, fX8_serveAll_2, fX8_serveAll_3, fX8_serveAll_4, fX8_serveAll_7, fX8_serveAll_9, fX8_serveAll_10, fX8_serveAll_13, fX8_serveAll_14, fX8_serveAll_15, fX8_serveAll_18, fX8_serveAll_21, fX8_serveAll_22, fX8_serveAll_23, fX8_serveAll_26, fX8_serveAll_29, fX8_serveAll_30, fX8_serveAll_31, fX8_serveAll_33, fX8_serveAll_34, fX8_serveAll_37, fX8_serveAll_38, fX8_serveAll_39, fX8_serveAll_41, fX8_serveAll_42, fX8_serveAll_45, fX8_serveAll_46, fX8_serveAll_47, fX8_serveAll_49, fX8_serveAll_50, fX8_serveAll_53, fX8_serveAll_54, fX8_serveAll_55, fX8_serveAll_57, fX8_serveAll_58, fX8_serveAll_59, fX8_serveAll_62, fX8_serveAll_65, fX8_serveAll_66, fX8_serveAll_69, fX8_serveAll_70, fX8_serveAll_71, fX8_serveAll_73, fX8_serveAll_76, fX8_serveAll_79, fX8_serveAll_82, fX8_serveAll_85, sX8_works, sX8_owedTo, sX8_ofUnit, sX8_setUnit, xvz_20, xvz_21, xrz_21, xdz_21, xlen, xcat, xc1, Nat.zero_le, Nat.reduceLeDiff]
        have hG2 := fI_sv (meat := 1) (Or.inr rfl) h0 u12 hG1
        refine xg_serve (meat := 0) ⟨Or.inr rfl, Or.inl ⟨rfl, rfl⟩, ⟨h0, u12⟩, hG2, hc, hb, z2⟩ (fun M3 f3 z3 => ?_)
        have hG3 := fI_sv (meat := 0) (Or.inr rfl) h0 u12 hG2
        have q1 := sv_gst (meat := 0) (Or.inl rfl) hG h0 u12
        have q2 := sv_gst (meat := 1) (Or.inr rfl) hG1 h0 u12
        have q3 := sv_gst (meat := 0) (Or.inr rfl) hG2 h0 u12
        have esrv : srv f u F = sv 7 0 f u (sv 7 1 f u (sv 6 0 f u F)) := by unfold srv; rw [if_pos ho]
        rw [← esrv] at q3 hG3 z3
        have how3 := fU_ow hG3.2.2.2.2 (by omega) h0 u12
        have hsi := (hw1 hs).2.2.2.1
        have e8 : srv f u F 14 f u 8 = if srv f u F 14 f u 6 + srv f u F 14 f u 7 = 0 then -1 else F 14 f u 8 := by
          rw [q3.2.2.1]
          by_cases g : srv f u F 14 f u 6 + srv f u F 14 f u 7 = 0
          · rw [if_pos g, if_pos g]
          · rw [if_neg g, if_neg g, q2.2.2.1, if_neg (by omega), q1.2.2.1, if_neg (by omega)]
        have B3 := GZs_B z3 hG3.1
        have I3 := zI_u B3.1 h0
        obtain ⟨v1, v2, v3, v4, v5, v6⟩ := z3.2.2.2.2.2.2.2.1.2
        have x6 := v3 6 (by decide) (by decide) (by decide)
        have x7 := v3 7 (by decide) (by decide) (by decide)
        have ro3 : XInR (srv f u F 14 f u 6 + srv f u F 14 f u 7) := ⟨by omega, by omega⟩
        have x8 : M3 21 0 0 (73 + 12 * u + 8) = F 14 f u 8 := by
          rw [f3.2, f2.2, f1.2]
          exact (hw1 hs).1 8 (by decide) (by decide)
        obtain ⟨vv, hvv⟩ : ∃ v : Int, v = if srv f u F 14 f u 6 + srv f u F 14 f u 7 = 0 then -1 else F 14 f u 8 := ⟨_, rfl⟩
        have hne : ¬ F 14 f u 8 = -1 := fun q => by have := hsi.mp q; omega
        have rvv : XInR vv := by
          rw [hvv]
          split <;> exact ⟨by omega, by omega⟩
        have hfin := GZ_ofs (F' := srv f u F) (v := vv) z3 h0 u12 (fun _ _ => rfl) (fun _ _ _ => rfl) (by rw [e8, hvv]) (by
          rw [hvv]
          by_cases g : srv f u F 14 f u 6 + srv f u F 14 f u 7 = 0
          · rw [if_pos g]
            exact ⟨fun _ => g, fun _ => rfl⟩
          · rw [if_neg g]
            exact ⟨fun q => absurd q hne, fun q => absurd q g⟩) rvv
        rw [← xup_sup] at hfin
        have hb' := ih (u + 1) (srv f u F) (xup M3 21 0 0 (73 + 12 * u + 8) vv) hfin hG3 (by omega) (by rw [srv_tag (by decide) (by decide) (by decide) (by decide)]; omega) (fun M' a b => h M' (zfr_trans f1.1 (zfr_trans f2.1 (zfr_trans f3.1 (zfr_trans (zfr_xup _ _ _) a)))) b)
        by_cases g : srv f u F 14 f u 6 + srv f u F 14 f u 7 = 0
        · rw [if_pos g] at hvv
          rw [hvv] at hb'
          simp only [ykk_ap, Int.reduceEq, Int.reduceLT, Int.reduceLE, Int.reduceNeg, Int.reduceAdd, Int.reduceSub, Int.reduceMul, and_self, false_and, and_false, not_true_eq_false, not_false_eq_true, true_implies, false_implies, xq0, xq1, xq2, xq3, xq4, xq5, xqR, xq1R, xq3R, xt1, xt2, xt3, List.mem_cons, List.not_mem_nil, or_false, false_or, or_self, if_false, if_true, reduceIte, reduceCtorEq, xent, xen, List.length_cons, List.length_nil, List.replicate, j_c, j_cJ, j_ild, j_ald, j_lld, j_ist, j_ast, j_lst, j_inc, j_add, j_sub, j_mul, j_neg, j_div, j_rem, j_and, j_shr, j_shl1, j_or, j_ladd, j_lsub, j_lmul, j_i2l, j_lcmp, j_i2c, j_dup, j_dup2, j_pop, j_goto, j_ieq, j_ine, j_ilt, j_ige, j_igt, j_ile, j_eq, j_ne, j_lt, j_ge, j_gt, j_le, xsw, j_tsw, j_lsw2, j_gI, j_gJ, j_gR, j_pI, j_pJ, j_gs, j_iald, j_iast, j_cald, j_cast, j_lald, j_last, j_aald, j_cpy, j_min, j_max, j_abs, j_iret, j_zret, j_lret, j_dret, j_ret0, j_V0, j_V1, j_V2, j_V3, j_V4, j_V5, j_S1, j_S2, j_S3, xget, xset, xset2, xclr, xc1, xcat, Nat.reduceAdd, Nat.reduceEqDiff, Nat.reduceLT, Nat.reduceLeDiff, Nat.reduceMul, List.cons_append, List.nil_append, true_and, and_true, List.singleton_append, fX8_serveAll_0, fX8_serveAll_1, fX8_serveAll_2, fX8_serveAll_3, fX8_serveAll_4, fX8_serveAll_7, fX8_serveAll_9, fX8_serveAll_10, fX8_serveAll_13, fX8_serveAll_14, fX8_serveAll_15, fX8_serveAll_18, fX8_serveAll_21, fX8_serveAll_22, fX8_serveAll_23, fX8_serveAll_26, fX8_serveAll_29, fX8_serveAll_30, fX8_serveAll_31, fX8_serveAll_33, fX8_serveAll_34, fX8_serveAll_37, fX8_serveAll_38, fX8_serveAll_39, fX8_serveAll_41, fX8_serveAll_42, fX8_serveAll_45, fX8_serveAll_46, fX8_serveAll_47, fX8_serveAll_49, fX8_serveAll_50, fX8_serveAll_53, fX8_serveAll_54, fX8_serveAll_55, fX8_serveAll_57, fX8_serveAll_58, fX8_serveAll_59, fX8_serveAll_62, fX8_serveAll_65, fX8_serveAll_66, fX8_serveAll_69, fX8_serveAll_70, fX8_serveAll_71, fX8_serveAll_73, fX8_serveAll_76, fX8_serveAll_79, fX8_serveAll_82, fX8_serveAll_85, sX8_works, sX8_owedTo, sX8_ofUnit, sX8_setUnit, xvz_20, xvz_21, xrz_21, xdz_21, xlen, xcat, xc1, Nat.zero_le, Nat.reduceLeDiff, I3, x6, x7, ro3, g, h0, u12, xr_c (n := 0) rfl]
          exact hb'
        · rw [if_neg g] at hvv
          rw [hvv] at hb'
          simp only [ykk_ap, Int.reduceEq, Int.reduceLT, Int.reduceLE, Int.reduceNeg, Int.reduceAdd, Int.reduceSub, Int.reduceMul, and_self, false_and, and_false, not_true_eq_false, not_false_eq_true, true_implies, false_implies, xq0, xq1, xq2, xq3, xq4, xq5, xqR, xq1R, xq3R, xt1, xt2, xt3, List.mem_cons, List.not_mem_nil, or_false, false_or, or_self, if_false, if_true, reduceIte, reduceCtorEq, xent, xen, List.length_cons, List.length_nil, List.replicate, j_c, j_cJ, j_ild, j_ald, j_lld, j_ist, j_ast, j_lst, j_inc, j_add, j_sub, j_mul, j_neg, j_div, j_rem, j_and, j_shr, j_shl1, j_or, j_ladd, j_lsub, j_lmul, j_i2l, j_lcmp, j_i2c, j_dup, j_dup2, j_pop, j_goto, j_ieq, j_ine, j_ilt, j_ige, j_igt, j_ile, j_eq, j_ne, j_lt, j_ge, j_gt, j_le, xsw, j_tsw, j_lsw2, j_gI, j_gJ, j_gR, j_pI, j_pJ, j_gs, j_iald, j_iast, j_cald, j_cast, j_lald, j_last, j_aald, j_cpy, j_min, j_max, j_abs, j_iret, j_zret, j_lret, j_dret, j_ret0, j_V0, j_V1, j_V2, j_V3, j_V4, j_V5, j_S1, j_S2, j_S3, xget, xset, xset2, xclr, xc1, xcat, Nat.reduceAdd, Nat.reduceEqDiff, Nat.reduceLT, Nat.reduceLeDiff, Nat.reduceMul, List.cons_append, List.nil_append, true_and, and_true, List.singleton_append, fX8_serveAll_0, fX8_serveAll_1, fX8_serveAll_2, fX8_serveAll_3, fX8_serveAll_4, fX8_serveAll_7, fX8_serveAll_9, fX8_serveAll_10, fX8_serveAll_13, fX8_serveAll_14, fX8_serveAll_15, fX8_serveAll_18, fX8_serveAll_21, fX8_serveAll_22, fX8_serveAll_23, fX8_serveAll_26, fX8_serveAll_29, fX8_serveAll_30, fX8_serveAll_31, fX8_serveAll_33, fX8_serveAll_34, fX8_serveAll_37, fX8_serveAll_38, fX8_serveAll_39, fX8_serveAll_41, fX8_serveAll_42, fX8_serveAll_45, fX8_serveAll_46, fX8_serveAll_47, fX8_serveAll_49, fX8_serveAll_50, fX8_serveAll_53, fX8_serveAll_54, fX8_serveAll_55, fX8_serveAll_57, fX8_serveAll_58, fX8_serveAll_59, fX8_serveAll_62, fX8_serveAll_65, fX8_serveAll_66, fX8_serveAll_69, fX8_serveAll_70, fX8_serveAll_71, fX8_serveAll_73, fX8_serveAll_76, fX8_serveAll_79, fX8_serveAll_82, fX8_serveAll_85, sX8_works, sX8_owedTo, sX8_ofUnit, sX8_setUnit, xvz_20, xvz_21, xrz_21, xdz_21, xlen, xcat, xc1, Nat.zero_le, Nat.reduceLeDiff, I3, x6, x7, x8, ro3, g, h0, u12, xr_c (n := 0) rfl]
          exact hb'
      · have ho' : F 14 f u 6 + F 14 f u 7 ≤ 0 := by omega
        have q := hno (by unfold srv; rw [if_neg ho])
        refine yru_ok hC [2, 79] 60 _ _ _ _ ?_
        simp only [ykk_ap, Int.reduceEq, Int.reduceLT, Int.reduceLE, Int.reduceNeg, Int.reduceAdd, Int.reduceSub, Int.reduceMul, and_self, false_and, and_false, not_true_eq_false, not_false_eq_true, true_implies, false_implies, xq0, xq1, xq2, xq3, xq4, xq5, xqR, xq1R, xq3R, xt1, xt2, xt3, List.mem_cons, List.not_mem_nil, or_false, false_or, or_self, if_false, if_true, reduceIte, reduceCtorEq, xent, xen, List.length_cons, List.length_nil, List.replicate, j_c, j_cJ, j_ild, j_ald, j_lld, j_ist, j_ast, j_lst, j_inc, j_add, j_sub, j_mul, j_neg, j_div, j_rem, j_and, j_shr, j_shl1, j_or, j_ladd, j_lsub, j_lmul, j_i2l, j_lcmp, j_i2c, j_dup, j_dup2, j_pop, j_goto, j_ieq, j_ine, j_ilt, j_ige, j_igt, j_ile, j_eq, j_ne, j_lt, j_ge, j_gt, j_le, xsw, j_tsw, j_lsw2, j_gI, j_gJ, j_gR, j_pI, j_pJ, j_gs, j_iald, j_iast, j_cald, j_cast, j_lald, j_last, j_aald, j_cpy, j_min, j_max, j_abs, j_iret, j_zret, j_lret, j_dret, j_ret0, j_V0, j_V1, j_V2, j_V3, j_V4, j_V5, j_S1, j_S2, j_S3, xget, xset, xset2, xclr, xc1, xcat, Nat.reduceAdd, Nat.reduceEqDiff, Nat.reduceLT, Nat.reduceLeDiff, Nat.reduceMul, List.cons_append, List.nil_append, true_and, and_true, List.singleton_append, fX8_serveAll_0, fX8_serveAll_1, fX8_serveAll_2, fX8_serveAll_3, fX8_serveAll_4, fX8_serveAll_7, fX8_serveAll_9, fX8_serveAll_10, fX8_serveAll_13, fX8_serveAll_14, fX8_serveAll_15, fX8_serveAll_18, fX8_serveAll_21, fX8_serveAll_22, fX8_serveAll_23, fX8_serveAll_26, fX8_serveAll_29, fX8_serveAll_30, fX8_serveAll_31, fX8_serveAll_33, fX8_serveAll_34, fX8_serveAll_37, fX8_serveAll_38, fX8_serveAll_39, fX8_serveAll_41, fX8_serveAll_42, fX8_serveAll_45, fX8_serveAll_46, fX8_serveAll_47, fX8_serveAll_49, fX8_serveAll_50, fX8_serveAll_53, fX8_serveAll_54, fX8_serveAll_55, fX8_serveAll_57, fX8_serveAll_58, fX8_serveAll_59, fX8_serveAll_62, fX8_serveAll_65, fX8_serveAll_66, fX8_serveAll_69, fX8_serveAll_70, fX8_serveAll_71, fX8_serveAll_73, fX8_serveAll_76, fX8_serveAll_79, fX8_serveAll_82, fX8_serveAll_85, sX8_works, sX8_owedTo, sX8_ofUnit, sX8_setUnit, xvz_20, xvz_21, xrz_21, xdz_21, xlen, xcat, xc1, Nat.zero_le, Nat.reduceLeDiff, hI, e9, r9, ru, g1, h0, u12, s0, y6, y7, ro, ho', Int.le_refl, xr_c (n := 0) rfl, xr_c (n := 1) rfl]
        exact q
    · have s0 : ¬ M 21 0 0 (73 + 12 * u + 0) = 0 := by rw [e0]; exact hs
      have q := hno (by unfold srv; rw [if_neg (by have := hw0 hs; omega)])
      refine yru_ok hC [2, 79] 60 _ _ _ _ ?_
      simp only [ykk_ap, Int.reduceEq, Int.reduceLT, Int.reduceLE, Int.reduceNeg, Int.reduceAdd, Int.reduceSub, Int.reduceMul, and_self, false_and, and_false, not_true_eq_false, not_false_eq_true, true_implies, false_implies, xq0, xq1, xq2, xq3, xq4, xq5, xqR, xq1R, xq3R, xt1, xt2, xt3, List.mem_cons, List.not_mem_nil, or_false, false_or, or_self, if_false, if_true, reduceIte, reduceCtorEq, xent, xen, List.length_cons, List.length_nil, List.replicate, j_c, j_cJ, j_ild, j_ald, j_lld, j_ist, j_ast, j_lst, j_inc, j_add, j_sub, j_mul, j_neg, j_div, j_rem, j_and, j_shr, j_shl1, j_or, j_ladd, j_lsub, j_lmul, j_i2l, j_lcmp, j_i2c, j_dup, j_dup2, j_pop, j_goto, j_ieq, j_ine, j_ilt, j_ige, j_igt, j_ile, j_eq, j_ne, j_lt, j_ge, j_gt, j_le, xsw, j_tsw, j_lsw2, j_gI, j_gJ, j_gR, j_pI, j_pJ, j_gs, j_iald, j_iast, j_cald, j_cast, j_lald, j_last, j_aald, j_cpy, j_min, j_max, j_abs, j_iret, j_zret, j_lret, j_dret, j_ret0, j_V0, j_V1, j_V2, j_V3, j_V4, j_V5, j_S1, j_S2, j_S3, xget, xset, xset2, xclr, xc1, xcat, Nat.reduceAdd, Nat.reduceEqDiff, Nat.reduceLT, Nat.reduceLeDiff, Nat.reduceMul, List.cons_append, List.nil_append, true_and, and_true, List.singleton_append, fX8_serveAll_0, fX8_serveAll_1, fX8_serveAll_2, fX8_serveAll_3, fX8_serveAll_4, fX8_serveAll_7, fX8_serveAll_9, fX8_serveAll_10, fX8_serveAll_13, fX8_serveAll_14, fX8_serveAll_15, fX8_serveAll_18, fX8_serveAll_21, fX8_serveAll_22, fX8_serveAll_23, fX8_serveAll_26, fX8_serveAll_29, fX8_serveAll_30, fX8_serveAll_31, fX8_serveAll_33, fX8_serveAll_34, fX8_serveAll_37, fX8_serveAll_38, fX8_serveAll_39, fX8_serveAll_41, fX8_serveAll_42, fX8_serveAll_45, fX8_serveAll_46, fX8_serveAll_47, fX8_serveAll_49, fX8_serveAll_50, fX8_serveAll_53, fX8_serveAll_54, fX8_serveAll_55, fX8_serveAll_57, fX8_serveAll_58, fX8_serveAll_59, fX8_serveAll_62, fX8_serveAll_65, fX8_serveAll_66, fX8_serveAll_69, fX8_serveAll_70, fX8_serveAll_71, fX8_serveAll_73, fX8_serveAll_76, fX8_serveAll_79, fX8_serveAll_82, fX8_serveAll_85, sX8_works, sX8_owedTo, sX8_ofUnit, sX8_setUnit, xvz_20, xvz_21, xrz_21, xdz_21, xlen, xcat, xc1, Nat.zero_le, Nat.reduceLeDiff, hI, e9, r9, ru, g1, h0, u12, s0, Int.le_refl, xr_c (n := 0) rfl]
      exact q
def sX8_serveAll : XSp := xq0 20 (fun _ _ M Q => ∃ (F : XM) (f c b : Int), (GZ 60 F f (M 21 0 0) ∧ fI c b F f ∧ c ≤ 80000000 ∧ b ≤ 2000000) ∧ (∀ M' : XM, zfr M M' → GZ 60 (pServe F f) f (M' 21 0 0) → Q [] M'))
theorem xg_serveAll {F : XM}{f c b : Int} {M : XM} {Q : XPo} (hc : GZ 60 F f (M 21 0 0) ∧ fI c b F f ∧ c ≤ 80000000 ∧ b ≤ 2000000) (h : ∀ M' : XM, zfr M M' → GZ 60 (pServe F f) f (M' 21 0 0) → Q [] M') : sX8_serveAll [xR 20 0 0] M Q := @id ((20 = 20 ∧ xval 20 0 0) ∧ ∃ (F : XM) (f c b : Int), (GZ 60 F f (M 21 0 0) ∧ fI c b F f ∧ c ≤ 80000000 ∧ b ≤ 2000000) ∧ (∀ M' : XM, zfr M M' → GZ 60 (pServe F f) f (M' 21 0 0) → Q [] M')) ⟨⟨rfl, xvz_20⟩, F, f, c, b, hc, h⟩
set_option maxRecDepth 100000 in
theorem kX8_serveAll : XCn yX8_serveAll wX8_serveAll rX8_serveAll sX8_serveAll := XC0 pX8_serveAll rfl rfl aX8_serveAll (by decide) (fun i0 k0 M Post hv h WW hC => by
  obtain ⟨rfl, rfl⟩ := xk20 hv
  obtain ⟨F, f, c, b, ⟨hz, hG, hc, hb⟩, h⟩ := h
  have c10 := hG.1.2.2.2.1
  have hk := kX8_serveAll_loop hC hc hb (F 1 f 0 10).toNat 0 F M hz hG (by decide) (by omega) h
  show WW 0 [some (xR 20 0 0), none] [] M
  refine yru_ok hC [2] 60 _ _ _ _ ?_
  simp only [ykk_ap, Int.reduceEq, Int.reduceLT, Int.reduceLE, Int.reduceNeg, Int.reduceAdd, Int.reduceSub, Int.reduceMul, and_self, false_and, and_false, not_true_eq_false, not_false_eq_true, true_implies, false_implies, xq0, xq1, xq2, xq3, xq4, xq5, xqR, xq1R, xq3R, xt1, xt2, xt3, List.mem_cons, List.not_mem_nil, or_false, false_or, or_self, if_false, if_true, reduceIte, reduceCtorEq, xent, xen, List.length_cons, List.length_nil, List.replicate, j_c, j_cJ, j_ild, j_ald, j_lld, j_ist, j_ast, j_lst, j_inc, j_add, j_sub, j_mul, j_neg, j_div, j_rem, j_and, j_shr, j_shl1, j_or, j_ladd, j_lsub, j_lmul, j_i2l, j_lcmp, j_i2c, j_dup, j_dup2, j_pop, j_goto, j_ieq, j_ine, j_ilt, j_ige, j_igt, j_ile, j_eq, j_ne, j_lt, j_ge, j_gt, j_le, xsw, j_tsw, j_lsw2, j_gI, j_gJ, j_gR, j_pI, j_pJ, j_gs, j_iald, j_iast, j_cald, j_cast, j_lald, j_last, j_aald, j_cpy, j_min, j_max, j_abs, j_iret, j_zret, j_lret, j_dret, j_ret0, j_V0, j_V1, j_V2, j_V3, j_V4, j_V5, j_S1, j_S2, j_S3, xget, xset, xset2, xclr, xc1, xcat, Nat.reduceAdd, Nat.reduceEqDiff, Nat.reduceLT, Nat.reduceLeDiff, Nat.reduceMul, List.cons_append, List.nil_append, true_and, and_true, List.singleton_append, fX8_serveAll_0, fX8_serveAll_1, fX8_serveAll_2, fX8_serveAll_3, fX8_serveAll_4, fX8_serveAll_7, fX8_serveAll_9, fX8_serveAll_10, fX8_serveAll_13, fX8_serveAll_14, fX8_serveAll_15, fX8_serveAll_18, fX8_serveAll_21, fX8_serveAll_22, fX8_serveAll_23, fX8_serveAll_26, fX8_serveAll_29, fX8_serveAll_30, fX8_serveAll_31, fX8_serveAll_33, fX8_serveAll_34, fX8_serveAll_37, fX8_serveAll_38, fX8_serveAll_39, fX8_serveAll_41, fX8_serveAll_42, fX8_serveAll_45, fX8_serveAll_46, fX8_serveAll_47, fX8_serveAll_49, fX8_serveAll_50, fX8_serveAll_53, fX8_serveAll_54, fX8_serveAll_55, fX8_serveAll_57, fX8_serveAll_58, fX8_serveAll_59, fX8_serveAll_62, fX8_serveAll_65, fX8_serveAll_66, fX8_serveAll_69, fX8_serveAll_70, fX8_serveAll_71, fX8_serveAll_73, fX8_serveAll_76, fX8_serveAll_79, fX8_serveAll_82, fX8_serveAll_85, sX8_works, sX8_owedTo, sX8_ofUnit, sX8_setUnit, xvz_20, xvz_21, xrz_21, xdz_21, xlen, xcat, xc1, Nat.zero_le, Nat.reduceLeDiff]
  exact hk)
/-- the longest time that meals are owed, of those whose penalty could grow at first -/
def wtG (F : XM) (f u : Int) : Int := if F 14 f u 8 = -1 then -1 else F 1 f 0 0 - F 14 f u 8
def lgR (P : Int → Int) (F : XM) (f : Int) : Nat → Int → Int → Int
  | 0, _, lo => lo
  | n + 1, u, lo => lgR P F f n (u + 1) (if P u < 100000000 then max lo (wtG F f u) else lo)
theorem lgR_congr {P : Int → Int} {F F' : XM} {f : Int} (h8 : ∀ u : Int, F' 14 f u 8 = F 14 f u 8) (h0 : F' 1 f 0 0 = F 1 f 0 0) : ∀ (n : Nat) (u lo : Int), lgR P F' f n u lo = lgR P F f n u lo
  | 0, _, _ => rfl
  | n + 1, u, lo => by
    simp only [lgR]
    have e : wtG F' f u = wtG F f u := by unfold wtG; rw [h8, h0]
    rw [e, lgR_congr h8 h0 n]
/-- whose penalty can grow, as bits -/
def grV (P : Int → Int) : Nat → Int
  | 0 => 0
  | n + 1 => grV P n + if P n < 100000000 then 2 ^ n else 0
theorem grV_in (P : Int → Int) : ∀ n : Nat, 0 ≤ grV P n ∧ grV P n < 2 ^ n
  | 0 => by simp [grV]
  | n + 1 => by
    have h := grV_in P n
    have e : (2 : Int) ^ (n + 1) = 2 ^ n + 2 ^ n := by rw [Int.pow_succ]; omega
    have p : (0 : Int) < 2 ^ n := Int.pow_pos (by decide)
    simp only [grV]
    rw [e]
    split <;> omega
theorem grV_bit (P : Int → Int) : ∀ (n u : Nat), u < n → (grV P n / 2 ^ u) % 2 = if P u < 100000000 then 1 else 0
  | 0, u, h => absurd h (Nat.not_lt_zero u)
  | n + 1, u, h => by
    have p : (0 : Int) < 2 ^ u := Int.pow_pos (by decide)
    by_cases e : u = n
    · subst e
      have hb := grV_in P u
      simp only [grV]
      have q : grV P u / 2 ^ u = 0 := Int.ediv_eq_zero_of_lt hb.1 hb.2
      by_cases g : P u < 100000000
      · rw [if_pos g, if_pos g]
        have : (grV P u + 2 ^ u) / 2 ^ u = grV P u / 2 ^ u + 1 := by
          have := Int.add_mul_ediv_right (grV P u) 1 (Int.ne_of_gt p)
          rw [Int.one_mul] at this
          exact this
        rw [this, q]
        decide
      · rw [if_neg g, if_neg g, Int.add_zero, q]
        decide
    · have hu : u < n := by omega
      have ih := grV_bit P n u hu
      simp only [grV]
      by_cases g : P n < 100000000
      · rw [if_pos g]
        have e2 : (2 : Int) ^ n = (2 * 2 ^ (n - u - 1)) * 2 ^ u := by
          have : n = (n - u - 1) + 1 + u := by omega
          rw [show (2 : Int) ^ n = 2 ^ ((n - u - 1) + 1 + u) by rw [← this], Int.pow_add, Int.pow_succ, Int.mul_comm (2 ^ (n - u - 1)) 2]
        rw [e2, Int.add_mul_ediv_right _ _ (Int.ne_of_gt p), Int.add_mul_emod_self_left]
        exact ih
      · rw [if_neg g, Int.add_zero]
        exact ih
/-- what fining changes: the row, and the latest -/
def zf6 (M M' : XM) : Prop := (∀ t : Nat, ¬ t = 20 → ¬ t = 21 → M' t = M t) ∧ ∀ s : Int, ¬ s = 6 → M' 20 0 0 s = M 20 0 0 s
theorem zf6_refl (M : XM) : zf6 M M := ⟨fun _ _ _ => rfl, fun _ _ => rfl⟩
theorem zf6_trans {M M' M'' : XM} (h : zf6 M M') (h' : zf6 M' M'') : zf6 M M'' := ⟨fun t a b => (h'.1 t a b).trans (h.1 t a b), fun s a => (h'.2 s a).trans (h.2 s a)⟩
theorem zf6_of {M M' : XM} (h : zfr M M') : zf6 M M' := ⟨fun t _ b => h t b, fun s _ => by rw [h 20 (by decide)]⟩
def grOK (P : Int → Int) (g n : Int) : Prop := (0 ≤ g ∧ g ≤ 4095) ∧ ∀ u : Int, 0 ≤ u → u < n → (g / 2 ^ u.toNat) % 2 = if P u < 100000000 then 1 else 0
/-- UnitKitchensModel.fine()V -/
abbrev wX8_fine : List Cond := Cond.code yX8_fine cX8_fine 5 none :: xT
abbrev rX8_fine : Room := { frames := 2, cells := 0, slots := 0, locals := 43 }
def pX8_fine (Post : XPo) : List (Nat × XStp) := [(0, j_c 0 1), (1, j_ist 1 1), (2, j_ild 1 1), (3, j_ald 0 1), (4, j_gR 20 (fun i k => (21, 0, 0))), (7, j_c 9 2), (9, j_iald), (10, j_ige 157), (13, j_ald 0 1), (14, j_ild 1 1), (15, j_V1 20 sX8_works), (18, j_eq 151), (21, j_ald 0 1), (22, j_ild 1 1), (23, j_V1 20 sX8_owedTo), (26, j_le 151), (29, j_ald 0 1), (30, j_gR 20 (fun i k => (21, 0, 0))), (33, j_c 10 2), (35, j_iald), (36, j_ald 0 1), (37, j_ild 1 1), (38, j_c 8 2), (40, j_V2 20 sX8_ofUnit), (43, j_sub), (44, j_ist 2 1), (45, j_ald 0 1), (46, j_ild 2 1), (47, j_ald 0 1), (48, j_gI 20 6), (51, j_ile 70), (54, j_ald 0 1), (55, j_gI 20 7), (58, j_ild 1 1), (59, j_shr), (60, j_c 1 1), (61, j_and 2), (62, j_c 1 1), (63, j_ine 70), (66, j_ild 2 1), (67, j_goto 74), (70, j_ald 0 1), (71, j_gI 20 6), (74, j_pI 20 6), (77, j_c 100000000 2), (79, j_ald 0 1), (80, j_ild 1 1), (81, j_c 10 2), (83, j_V2 20 sX8_ofUnit), (86, j_sub), (87, j_ist 3 1), (88, j_ild 2 1), (89, j_ald 0 1), (90, j_gR 20 (fun i k => (21, 0, 0))), (93, j_c 1 1), (94, j_iald), (95, j_ile 113), (98, j_ald 0 1), (99, j_ild 1 1), (100, j_V1 20 sX8_owedTo), (103, j_ald 0 1), (104, j_gR 20 (fun i k => (21, 0, 0))), (107, j_c 2 1), (108, j_iald), (109, j_mul), (110, j_goto 114), (113, j_c 0 1), (114, j_ist 4 2), (116, j_ild 4 2), (118, j_ild 3 1), (119, j_ile 126), (122, j_ild 3 1), (123, j_goto 128), (126, j_ild 4 2), (128, j_ist 4 2), (130, j_ald 0 1), (131, j_ild 1 1), (132, j_c 10 2), (134, j_ild 4 2), (136, j_V3 20 sX8_addTo), (139, j_ald 0 1), (140, j_gR 20 (fun i k => (21, 0, 0))), (143, j_c 16 2), (145, j_dup2), (146, j_iald), (147, j_ild 4 2), (149, j_add), (150, j_iast), (151, j_inc 1 1), (154, j_goto 2), (157, j_ret0 Post)]
set_option maxRecDepth 100000 in
theorem aX8_fine (Post : XPo) : XAll rX8_fine cX8_fine 5 RX8 wX8_fine none Post (pX8_fine Post) := XAll.cons (xs_iconst dX8_fine_0) (XAll.cons (xs_istore_n dX8_fine_1 rfl (by decide)) (XAll.cons (xs_iload_n dX8_fine_2 rfl) (XAll.cons (xs_aload_n dX8_fine_3 rfl) (XAll.cons (fgX8_0 tw_1048 dX8_fine_4) (XAll.cons (xs_bipush dX8_fine_7 rfl) (XAll.cons (xs_iald dX8_fine_9) (XAll.cons (xs_icmp_ge dX8_fine_10 (by decide)) (XAll.cons (xs_aload_n dX8_fine_13 rfl) (XAll.cons (xs_iload_n dX8_fine_14 rfl) (XAll.cons (xs_V1 kX8_works ⟨⟨rfl, rfl, by decide, by decide⟩, ⟨by decide, by decide, by decide +kernel⟩, ⟨tw_1228, tw_1230, tp_27, tw_9, tw_1231⟩, 8, TX8, _, rfl, fun G ρ f i k => ⟨_, rfl⟩⟩ dX8_fine_15) (XAll.cons (xs_if_eq dX8_fine_18 (by decide)) (XAll.cons (xs_aload_n dX8_fine_21 rfl) (XAll.cons (xs_iload_n dX8_fine_22 rfl) (XAll.cons (xs_V1 kX8_owedTo ⟨⟨rfl, rfl, by decide, by decide⟩, ⟨by decide, by decide, by decide +kernel⟩, ⟨tw_1252, tw_1254, tp_30, tw_9, tw_1255⟩, 8, TX8, _, rfl, fun G ρ f i k => ⟨_, rfl⟩⟩ dX8_fine_23) (XAll.cons (xs_if_le dX8_fine_26 (by decide)) (XAll.cons (xs_aload_n dX8_fine_29 rfl) (XAll.cons (fgX8_0 tw_1048 dX8_fine_30) (XAll.cons (xs_bipush dX8_fine_33 rfl) (XAll.cons (xs_iald dX8_fine_35) (XAll.cons (xs_aload_n dX8_fine_36 rfl) (XAll.cons (xs_iload_n dX8_fine_37 rfl) (XAll.cons (xs_bipush dX8_fine_38 rfl) (XAll.cons (xs_V2 kX8_ofUnit ⟨⟨rfl, rfl, by decide, by decide⟩, ⟨by decide, by decide, by decide +kernel⟩, ⟨tw_1224, tw_1226, tp_26, tw_9, tw_1227⟩, 8, TX8, _, rfl, fun G ρ f i k => ⟨_, rfl⟩⟩ dX8_fine_40) (XAll.cons (xs_isub dX8_fine_43) (XAll.cons (xs_istore_n dX8_fine_44 rfl (by decide)) (XAll.cons (xs_aload_n dX8_fine_45 rfl) (XAll.cons (xs_iload_n dX8_fine_46 rfl) (XAll.cons (xs_aload_n dX8_fine_47 rfl) (XAll.cons (fgX8_6 tw_1054 dX8_fine_48) (XAll.cons (xs_icmp_le dX8_fine_51 (by decide)) (XAll.cons (xs_aload_n dX8_fine_54 rfl) (XAll.cons (fgX8_7 tw_1055 dX8_fine_55) (XAll.cons (xs_iload_n dX8_fine_58 rfl) (XAll.cons (xs_ishr dX8_fine_59) (XAll.cons (xs_iconst dX8_fine_60) (XAll.cons (xs_iand 1 (by decide) (by decide) dX8_fine_61) (XAll.cons (xs_iconst dX8_fine_62) (XAll.cons (xs_icmp_ne dX8_fine_63 (by decide)) (XAll.cons (xs_iload_n dX8_fine_66 rfl) (XAll.cons (xs_goto dX8_fine_67 (by decide)) (XAll.cons (xs_aload_n dX8_fine_70 rfl) (XAll.cons (fgX8_6 tw_1054 dX8_fine_71) (XAll.cons (fpX8_6 tw_1054 dX8_fine_74) (XAll.cons (xs_ldc dX8_fine_77 (xgood1 tw_1264) rfl) (XAll.cons (xs_aload_n dX8_fine_79 rfl) (XAll.cons (xs_iload_n dX8_fine_80 rfl) (XAll.cons (xs_bipush dX8_fine_81 rfl) (XAll.cons (xs_V2 kX8_ofUnit ⟨⟨rfl, rfl, by decide, by decide⟩, ⟨by decide, by decide, by decide +kernel⟩, ⟨tw_1224, tw_1226, tp_26, tw_9, tw_1227⟩, 8, TX8, _, rfl, fun G ρ f i k => ⟨_, rfl⟩⟩ dX8_fine_83) (XAll.cons (xs_isub dX8_fine_86) (XAll.cons (xs_istore_n dX8_fine_87 rfl (by decide)) (XAll.cons (xs_iload_n dX8_fine_88 rfl) (XAll.cons (xs_aload_n dX8_fine_89 rfl) (XAll.cons (fgX8_0 tw_1048 dX8_fine_90) (XAll.cons (xs_iconst dX8_fine_93) (XAll.cons (xs_iald dX8_fine_94) (XAll.cons (xs_icmp_le dX8_fine_95 (by decide)) (XAll.cons (xs_aload_n dX8_fine_98 rfl) (XAll.cons (xs_iload_n dX8_fine_99 rfl) (XAll.cons (xs_V1 kX8_owedTo ⟨⟨rfl, rfl, by decide, by decide⟩, ⟨by decide, by decide, by decide +kernel⟩, ⟨tw_1252, tw_1254, tp_30, tw_9, tw_1255⟩, 8, TX8, _, rfl, fun G ρ f i k => ⟨_, rfl⟩⟩ dX8_fine_100) (XAll.cons (xs_aload_n dX8_fine_103 rfl) (XAll.cons (fgX8_0 tw_1048 dX8_fine_104) (XAll.cons (xs_iconst dX8_fine_107) (XAll.cons (xs_iald dX8_fine_108) (XAll.cons (xs_imul dX8_fine_109) (XAll.cons (xs_goto dX8_fine_110 (by decide)) (XAll.cons (xs_iconst dX8_fine_113) (XAll.cons (xs_istore dX8_fine_114 (by decide)) (XAll.cons (xs_iload dX8_fine_116) (XAll.cons (xs_iload_n dX8_fine_118 rfl) (XAll.cons (xs_icmp_le dX8_fine_119 (by decide)) (XAll.cons (xs_iload_n dX8_fine_122 rfl) (XAll.cons (xs_goto dX8_fine_123 (by decide)) (XAll.cons (xs_iload dX8_fine_126) (XAll.cons (xs_istore dX8_fine_128 (by decide)) (XAll.cons (xs_aload_n dX8_fine_130 rfl) (XAll.cons (xs_iload_n dX8_fine_131 rfl) (XAll.cons (xs_bipush dX8_fine_132 rfl) (XAll.cons (xs_iload dX8_fine_134) (XAll.cons (xs_V3 kX8_addTo ⟨⟨rfl, rfl, by decide, by decide⟩, ⟨by decide, by decide, by decide +kernel⟩, ⟨tw_1232, tw_1234, tp_28, tw_9, tw_1235⟩, 8, TX8, _, rfl, fun G ρ f i k => ⟨_, rfl⟩⟩ dX8_fine_136) (XAll.cons (xs_aload_n dX8_fine_139 rfl) (XAll.cons (fgX8_0 tw_1048 dX8_fine_140) (XAll.cons (xs_bipush dX8_fine_143 rfl) (XAll.cons (xs_dup2 dX8_fine_145) (XAll.cons (xs_iald dX8_fine_146) (XAll.cons (xs_iload dX8_fine_147) (XAll.cons (xs_iadd dX8_fine_149) (XAll.cons (xs_iast dX8_fine_150) (XAll.cons (xs_iinc dX8_fine_151 (by decide)) (XAll.cons (xs_goto dX8_fine_154 (by decide)) (XAll.cons (xs_vret rfl dX8_fine_157) (XAll.nil)))))))))))))))))))))))))))))))))))))))))))))))))))))))))))))))))))))))))))))))))))))))))))
theorem fX8_fine_0 (Post : XPo) (cut : List Nat) (WW : XK) (n : Nat) (L : XLs) (st : List XV) (M : XM) : yru (xlk (pX8_fine Post)) cut WW (n + 1) 0 L st M = j_c 0 1 0 L st M (ykk (xlk (pX8_fine Post)) cut WW n) := yf rfl
theorem fX8_fine_1 (Post : XPo) (cut : List Nat) (WW : XK) (n : Nat) (L : XLs) (st : List XV) (M : XM) : yru (xlk (pX8_fine Post)) cut WW (n + 1) 1 L st M = j_ist 1 1 1 L st M (ykk (xlk (pX8_fine Post)) cut WW n) := yf rfl
theorem fX8_fine_2 (Post : XPo) (cut : List Nat) (WW : XK) (n : Nat) (L : XLs) (st : List XV) (M : XM) : yru (xlk (pX8_fine Post)) cut WW (n + 1) 2 L st M = j_ild 1 1 2 L st M (ykk (xlk (pX8_fine Post)) cut WW n) := yf rfl
theorem fX8_fine_3 (Post : XPo) (cut : List Nat) (WW : XK) (n : Nat) (L : XLs) (st : List XV) (M : XM) : yru (xlk (pX8_fine Post)) cut WW (n + 1) 3 L st M = j_ald 0 1 3 L st M (ykk (xlk (pX8_fine Post)) cut WW n) := yf rfl
theorem fX8_fine_4 (Post : XPo) (cut : List Nat) (WW : XK) (n : Nat) (L : XLs) (st : List XV) (M : XM) : yru (xlk (pX8_fine Post)) cut WW (n + 1) 4 L st M = j_gR 20 (fun i k => (21, 0, 0)) 4 L st M (ykk (xlk (pX8_fine Post)) cut WW n) := yf rfl
theorem fX8_fine_7 (Post : XPo) (cut : List Nat) (WW : XK) (n : Nat) (L : XLs) (st : List XV) (M : XM) : yru (xlk (pX8_fine Post)) cut WW (n + 1) 7 L st M = j_c 9 2 7 L st M (ykk (xlk (pX8_fine Post)) cut WW n) := yf rfl
theorem fX8_fine_9 (Post : XPo) (cut : List Nat) (WW : XK) (n : Nat) (L : XLs) (st : List XV) (M : XM) : yru (xlk (pX8_fine Post)) cut WW (n + 1) 9 L st M = j_iald 9 L st M (ykk (xlk (pX8_fine Post)) cut WW n) := yf rfl
theorem fX8_fine_10 (Post : XPo) (cut : List Nat) (WW : XK) (n : Nat) (L : XLs) (st : List XV) (M : XM) : yru (xlk (pX8_fine Post)) cut WW (n + 1) 10 L st M = j_ige 157 10 L st M (ykk (xlk (pX8_fine Post)) cut WW n) := yf rfl
theorem fX8_fine_13 (Post : XPo) (cut : List Nat) (WW : XK) (n : Nat) (L : XLs) (st : List XV) (M : XM) : yru (xlk (pX8_fine Post)) cut WW (n + 1) 13 L st M = j_ald 0 1 13 L st M (ykk (xlk (pX8_fine Post)) cut WW n) := yf rfl
theorem fX8_fine_14 (Post : XPo) (cut : List Nat) (WW : XK) (n : Nat) (L : XLs) (st : List XV) (M : XM) : yru (xlk (pX8_fine Post)) cut WW (n + 1) 14 L st M = j_ild 1 1 14 L st M (ykk (xlk (pX8_fine Post)) cut WW n) := yf rfl
theorem fX8_fine_15 (Post : XPo) (cut : List Nat) (WW : XK) (n : Nat) (L : XLs) (st : List XV) (M : XM) : yru (xlk (pX8_fine Post)) cut WW (n + 1) 15 L st M = j_V1 20 sX8_works 15 L st M (ykk (xlk (pX8_fine Post)) cut WW n) := yf rfl
theorem fX8_fine_18 (Post : XPo) (cut : List Nat) (WW : XK) (n : Nat) (L : XLs) (st : List XV) (M : XM) : yru (xlk (pX8_fine Post)) cut WW (n + 1) 18 L st M = j_eq 151 18 L st M (ykk (xlk (pX8_fine Post)) cut WW n) := yf rfl
theorem fX8_fine_21 (Post : XPo) (cut : List Nat) (WW : XK) (n : Nat) (L : XLs) (st : List XV) (M : XM) : yru (xlk (pX8_fine Post)) cut WW (n + 1) 21 L st M = j_ald 0 1 21 L st M (ykk (xlk (pX8_fine Post)) cut WW n) := yf rfl
theorem fX8_fine_22 (Post : XPo) (cut : List Nat) (WW : XK) (n : Nat) (L : XLs) (st : List XV) (M : XM) : yru (xlk (pX8_fine Post)) cut WW (n + 1) 22 L st M = j_ild 1 1 22 L st M (ykk (xlk (pX8_fine Post)) cut WW n) := yf rfl
theorem fX8_fine_23 (Post : XPo) (cut : List Nat) (WW : XK) (n : Nat) (L : XLs) (st : List XV) (M : XM) : yru (xlk (pX8_fine Post)) cut WW (n + 1) 23 L st M = j_V1 20 sX8_owedTo 23 L st M (ykk (xlk (pX8_fine Post)) cut WW n) := yf rfl
theorem fX8_fine_26 (Post : XPo) (cut : List Nat) (WW : XK) (n : Nat) (L : XLs) (st : List XV) (M : XM) : yru (xlk (pX8_fine Post)) cut WW (n + 1) 26 L st M = j_le 151 26 L st M (ykk (xlk (pX8_fine Post)) cut WW n) := yf rfl
theorem fX8_fine_29 (Post : XPo) (cut : List Nat) (WW : XK) (n : Nat) (L : XLs) (st : List XV) (M : XM) : yru (xlk (pX8_fine Post)) cut WW (n + 1) 29 L st M = j_ald 0 1 29 L st M (ykk (xlk (pX8_fine Post)) cut WW n) := yf rfl
theorem fX8_fine_30 (Post : XPo) (cut : List Nat) (WW : XK) (n : Nat) (L : XLs) (st : List XV) (M : XM) : yru (xlk (pX8_fine Post)) cut WW (n + 1) 30 L st M = j_gR 20 (fun i k => (21, 0, 0)) 30 L st M (ykk (xlk (pX8_fine Post)) cut WW n) := yf rfl
theorem fX8_fine_33 (Post : XPo) (cut : List Nat) (WW : XK) (n : Nat) (L : XLs) (st : List XV) (M : XM) : yru (xlk (pX8_fine Post)) cut WW (n + 1) 33 L st M = j_c 10 2 33 L st M (ykk (xlk (pX8_fine Post)) cut WW n) := yf rfl
theorem fX8_fine_35 (Post : XPo) (cut : List Nat) (WW : XK) (n : Nat) (L : XLs) (st : List XV) (M : XM) : yru (xlk (pX8_fine Post)) cut WW (n + 1) 35 L st M = j_iald 35 L st M (ykk (xlk (pX8_fine Post)) cut WW n) := yf rfl
theorem fX8_fine_36 (Post : XPo) (cut : List Nat) (WW : XK) (n : Nat) (L : XLs) (st : List XV) (M : XM) : yru (xlk (pX8_fine Post)) cut WW (n + 1) 36 L st M = j_ald 0 1 36 L st M (ykk (xlk (pX8_fine Post)) cut WW n) := yf rfl
theorem fX8_fine_37 (Post : XPo) (cut : List Nat) (WW : XK) (n : Nat) (L : XLs) (st : List XV) (M : XM) : yru (xlk (pX8_fine Post)) cut WW (n + 1) 37 L st M = j_ild 1 1 37 L st M (ykk (xlk (pX8_fine Post)) cut WW n) := yf rfl
theorem fX8_fine_38 (Post : XPo) (cut : List Nat) (WW : XK) (n : Nat) (L : XLs) (st : List XV) (M : XM) : yru (xlk (pX8_fine Post)) cut WW (n + 1) 38 L st M = j_c 8 2 38 L st M (ykk (xlk (pX8_fine Post)) cut WW n) := yf rfl
theorem fX8_fine_40 (Post : XPo) (cut : List Nat) (WW : XK) (n : Nat) (L : XLs) (st : List XV) (M : XM) : yru (xlk (pX8_fine Post)) cut WW (n + 1) 40 L st M = j_V2 20 sX8_ofUnit 40 L st M (ykk (xlk (pX8_fine Post)) cut WW n) := yf rfl
theorem fX8_fine_43 (Post : XPo) (cut : List Nat) (WW : XK) (n : Nat) (L : XLs) (st : List XV) (M : XM) : yru (xlk (pX8_fine Post)) cut WW (n + 1) 43 L st M = j_sub 43 L st M (ykk (xlk (pX8_fine Post)) cut WW n) := yf rfl
theorem fX8_fine_44 (Post : XPo) (cut : List Nat) (WW : XK) (n : Nat) (L : XLs) (st : List XV) (M : XM) : yru (xlk (pX8_fine Post)) cut WW (n + 1) 44 L st M = j_ist 2 1 44 L st M (ykk (xlk (pX8_fine Post)) cut WW n) := yf rfl
theorem fX8_fine_45 (Post : XPo) (cut : List Nat) (WW : XK) (n : Nat) (L : XLs) (st : List XV) (M : XM) : yru (xlk (pX8_fine Post)) cut WW (n + 1) 45 L st M = j_ald 0 1 45 L st M (ykk (xlk (pX8_fine Post)) cut WW n) := yf rfl
theorem fX8_fine_46 (Post : XPo) (cut : List Nat) (WW : XK) (n : Nat) (L : XLs) (st : List XV) (M : XM) : yru (xlk (pX8_fine Post)) cut WW (n + 1) 46 L st M = j_ild 2 1 46 L st M (ykk (xlk (pX8_fine Post)) cut WW n) := yf rfl
theorem fX8_fine_47 (Post : XPo) (cut : List Nat) (WW : XK) (n : Nat) (L : XLs) (st : List XV) (M : XM) : yru (xlk (pX8_fine Post)) cut WW (n + 1) 47 L st M = j_ald 0 1 47 L st M (ykk (xlk (pX8_fine Post)) cut WW n) := yf rfl
theorem fX8_fine_48 (Post : XPo) (cut : List Nat) (WW : XK) (n : Nat) (L : XLs) (st : List XV) (M : XM) : yru (xlk (pX8_fine Post)) cut WW (n + 1) 48 L st M = j_gI 20 6 48 L st M (ykk (xlk (pX8_fine Post)) cut WW n) := yf rfl
theorem fX8_fine_51 (Post : XPo) (cut : List Nat) (WW : XK) (n : Nat) (L : XLs) (st : List XV) (M : XM) : yru (xlk (pX8_fine Post)) cut WW (n + 1) 51 L st M = j_ile 70 51 L st M (ykk (xlk (pX8_fine Post)) cut WW n) := yf rfl
theorem fX8_fine_54 (Post : XPo) (cut : List Nat) (WW : XK) (n : Nat) (L : XLs) (st : List XV) (M : XM) : yru (xlk (pX8_fine Post)) cut WW (n + 1) 54 L st M = j_ald 0 1 54 L st M (ykk (xlk (pX8_fine Post)) cut WW n) := yf rfl
theorem fX8_fine_55 (Post : XPo) (cut : List Nat) (WW : XK) (n : Nat) (L : XLs) (st : List XV) (M : XM) : yru (xlk (pX8_fine Post)) cut WW (n + 1) 55 L st M = j_gI 20 7 55 L st M (ykk (xlk (pX8_fine Post)) cut WW n) := yf rfl
theorem fX8_fine_58 (Post : XPo) (cut : List Nat) (WW : XK) (n : Nat) (L : XLs) (st : List XV) (M : XM) : yru (xlk (pX8_fine Post)) cut WW (n + 1) 58 L st M = j_ild 1 1 58 L st M (ykk (xlk (pX8_fine Post)) cut WW n) := yf rfl
theorem fX8_fine_59 (Post : XPo) (cut : List Nat) (WW : XK) (n : Nat) (L : XLs) (st : List XV) (M : XM) : yru (xlk (pX8_fine Post)) cut WW (n + 1) 59 L st M = j_shr 59 L st M (ykk (xlk (pX8_fine Post)) cut WW n) := yf rfl
theorem fX8_fine_60 (Post : XPo) (cut : List Nat) (WW : XK) (n : Nat) (L : XLs) (st : List XV) (M : XM) : yru (xlk (pX8_fine Post)) cut WW (n + 1) 60 L st M = j_c 1 1 60 L st M (ykk (xlk (pX8_fine Post)) cut WW n) := yf rfl
theorem fX8_fine_61 (Post : XPo) (cut : List Nat) (WW : XK) (n : Nat) (L : XLs) (st : List XV) (M : XM) : yru (xlk (pX8_fine Post)) cut WW (n + 1) 61 L st M = j_and 2 61 L st M (ykk (xlk (pX8_fine Post)) cut WW n) := yf rfl
theorem fX8_fine_62 (Post : XPo) (cut : List Nat) (WW : XK) (n : Nat) (L : XLs) (st : List XV) (M : XM) : yru (xlk (pX8_fine Post)) cut WW (n + 1) 62 L st M = j_c 1 1 62 L st M (ykk (xlk (pX8_fine Post)) cut WW n) := yf rfl
theorem fX8_fine_63 (Post : XPo) (cut : List Nat) (WW : XK) (n : Nat) (L : XLs) (st : List XV) (M : XM) : yru (xlk (pX8_fine Post)) cut WW (n + 1) 63 L st M = j_ine 70 63 L st M (ykk (xlk (pX8_fine Post)) cut WW n) := yf rfl
theorem fX8_fine_66 (Post : XPo) (cut : List Nat) (WW : XK) (n : Nat) (L : XLs) (st : List XV) (M : XM) : yru (xlk (pX8_fine Post)) cut WW (n + 1) 66 L st M = j_ild 2 1 66 L st M (ykk (xlk (pX8_fine Post)) cut WW n) := yf rfl
theorem fX8_fine_67 (Post : XPo) (cut : List Nat) (WW : XK) (n : Nat) (L : XLs) (st : List XV) (M : XM) : yru (xlk (pX8_fine Post)) cut WW (n + 1) 67 L st M = j_goto 74 67 L st M (ykk (xlk (pX8_fine Post)) cut WW n) := yf rfl
theorem fX8_fine_70 (Post : XPo) (cut : List Nat) (WW : XK) (n : Nat) (L : XLs) (st : List XV) (M : XM) : yru (xlk (pX8_fine Post)) cut WW (n + 1) 70 L st M = j_ald 0 1 70 L st M (ykk (xlk (pX8_fine Post)) cut WW n) := yf rfl
theorem fX8_fine_71 (Post : XPo) (cut : List Nat) (WW : XK) (n : Nat) (L : XLs) (st : List XV) (M : XM) : yru (xlk (pX8_fine Post)) cut WW (n + 1) 71 L st M = j_gI 20 6 71 L st M (ykk (xlk (pX8_fine Post)) cut WW n) := yf rfl
theorem fX8_fine_74 (Post : XPo) (cut : List Nat) (WW : XK) (n : Nat) (L : XLs) (st : List XV) (M : XM) : yru (xlk (pX8_fine Post)) cut WW (n + 1) 74 L st M = j_pI 20 6 74 L st M (ykk (xlk (pX8_fine Post)) cut WW n) := yf rfl
theorem fX8_fine_77 (Post : XPo) (cut : List Nat) (WW : XK) (n : Nat) (L : XLs) (st : List XV) (M : XM) : yru (xlk (pX8_fine Post)) cut WW (n + 1) 77 L st M = j_c 100000000 2 77 L st M (ykk (xlk (pX8_fine Post)) cut WW n) := yf rfl
theorem fX8_fine_79 (Post : XPo) (cut : List Nat) (WW : XK) (n : Nat) (L : XLs) (st : List XV) (M : XM) : yru (xlk (pX8_fine Post)) cut WW (n + 1) 79 L st M = j_ald 0 1 79 L st M (ykk (xlk (pX8_fine Post)) cut WW n) := yf rfl
theorem fX8_fine_80 (Post : XPo) (cut : List Nat) (WW : XK) (n : Nat) (L : XLs) (st : List XV) (M : XM) : yru (xlk (pX8_fine Post)) cut WW (n + 1) 80 L st M = j_ild 1 1 80 L st M (ykk (xlk (pX8_fine Post)) cut WW n) := yf rfl
theorem fX8_fine_81 (Post : XPo) (cut : List Nat) (WW : XK) (n : Nat) (L : XLs) (st : List XV) (M : XM) : yru (xlk (pX8_fine Post)) cut WW (n + 1) 81 L st M = j_c 10 2 81 L st M (ykk (xlk (pX8_fine Post)) cut WW n) := yf rfl
theorem fX8_fine_83 (Post : XPo) (cut : List Nat) (WW : XK) (n : Nat) (L : XLs) (st : List XV) (M : XM) : yru (xlk (pX8_fine Post)) cut WW (n + 1) 83 L st M = j_V2 20 sX8_ofUnit 83 L st M (ykk (xlk (pX8_fine Post)) cut WW n) := yf rfl
theorem fX8_fine_86 (Post : XPo) (cut : List Nat) (WW : XK) (n : Nat) (L : XLs) (st : List XV) (M : XM) : yru (xlk (pX8_fine Post)) cut WW (n + 1) 86 L st M = j_sub 86 L st M (ykk (xlk (pX8_fine Post)) cut WW n) := yf rfl
theorem fX8_fine_87 (Post : XPo) (cut : List Nat) (WW : XK) (n : Nat) (L : XLs) (st : List XV) (M : XM) : yru (xlk (pX8_fine Post)) cut WW (n + 1) 87 L st M = j_ist 3 1 87 L st M (ykk (xlk (pX8_fine Post)) cut WW n) := yf rfl
theorem fX8_fine_88 (Post : XPo) (cut : List Nat) (WW : XK) (n : Nat) (L : XLs) (st : List XV) (M : XM) : yru (xlk (pX8_fine Post)) cut WW (n + 1) 88 L st M = j_ild 2 1 88 L st M (ykk (xlk (pX8_fine Post)) cut WW n) := yf rfl
theorem fX8_fine_89 (Post : XPo) (cut : List Nat) (WW : XK) (n : Nat) (L : XLs) (st : List XV) (M : XM) : yru (xlk (pX8_fine Post)) cut WW (n + 1) 89 L st M = j_ald 0 1 89 L st M (ykk (xlk (pX8_fine Post)) cut WW n) := yf rfl
theorem fX8_fine_90 (Post : XPo) (cut : List Nat) (WW : XK) (n : Nat) (L : XLs) (st : List XV) (M : XM) : yru (xlk (pX8_fine Post)) cut WW (n + 1) 90 L st M = j_gR 20 (fun i k => (21, 0, 0)) 90 L st M (ykk (xlk (pX8_fine Post)) cut WW n) := yf rfl
theorem fX8_fine_93 (Post : XPo) (cut : List Nat) (WW : XK) (n : Nat) (L : XLs) (st : List XV) (M : XM) : yru (xlk (pX8_fine Post)) cut WW (n + 1) 93 L st M = j_c 1 1 93 L st M (ykk (xlk (pX8_fine Post)) cut WW n) := yf rfl
theorem fX8_fine_94 (Post : XPo) (cut : List Nat) (WW : XK) (n : Nat) (L : XLs) (st : List XV) (M : XM) : yru (xlk (pX8_fine Post)) cut WW (n + 1) 94 L st M = j_iald 94 L st M (ykk (xlk (pX8_fine Post)) cut WW n) := yf rfl
theorem fX8_fine_95 (Post : XPo) (cut : List Nat) (WW : XK) (n : Nat) (L : XLs) (st : List XV) (M : XM) : yru (xlk (pX8_fine Post)) cut WW (n + 1) 95 L st M = j_ile 113 95 L st M (ykk (xlk (pX8_fine Post)) cut WW n) := yf rfl
theorem fX8_fine_98 (Post : XPo) (cut : List Nat) (WW : XK) (n : Nat) (L : XLs) (st : List XV) (M : XM) : yru (xlk (pX8_fine Post)) cut WW (n + 1) 98 L st M = j_ald 0 1 98 L st M (ykk (xlk (pX8_fine Post)) cut WW n) := yf rfl
theorem fX8_fine_99 (Post : XPo) (cut : List Nat) (WW : XK) (n : Nat) (L : XLs) (st : List XV) (M : XM) : yru (xlk (pX8_fine Post)) cut WW (n + 1) 99 L st M = j_ild 1 1 99 L st M (ykk (xlk (pX8_fine Post)) cut WW n) := yf rfl
theorem fX8_fine_100 (Post : XPo) (cut : List Nat) (WW : XK) (n : Nat) (L : XLs) (st : List XV) (M : XM) : yru (xlk (pX8_fine Post)) cut WW (n + 1) 100 L st M = j_V1 20 sX8_owedTo 100 L st M (ykk (xlk (pX8_fine Post)) cut WW n) := yf rfl
theorem fX8_fine_103 (Post : XPo) (cut : List Nat) (WW : XK) (n : Nat) (L : XLs) (st : List XV) (M : XM) : yru (xlk (pX8_fine Post)) cut WW (n + 1) 103 L st M = j_ald 0 1 103 L st M (ykk (xlk (pX8_fine Post)) cut WW n) := yf rfl
theorem fX8_fine_104 (Post : XPo) (cut : List Nat) (WW : XK) (n : Nat) (L : XLs) (st : List XV) (M : XM) : yru (xlk (pX8_fine Post)) cut WW (n + 1) 104 L st M = j_gR 20 (fun i k => (21, 0, 0)) 104 L st M (ykk (xlk (pX8_fine Post)) cut WW n) := yf rfl
theorem fX8_fine_107 (Post : XPo) (cut : List Nat) (WW : XK) (n : Nat) (L : XLs) (st : List XV) (M : XM) : yru (xlk (pX8_fine Post)) cut WW (n + 1) 107 L st M = j_c 2 1 107 L st M (ykk (xlk (pX8_fine Post)) cut WW n) := yf rfl
theorem fX8_fine_108 (Post : XPo) (cut : List Nat) (WW : XK) (n : Nat) (L : XLs) (st : List XV) (M : XM) : yru (xlk (pX8_fine Post)) cut WW (n + 1) 108 L st M = j_iald 108 L st M (ykk (xlk (pX8_fine Post)) cut WW n) := yf rfl
theorem fX8_fine_109 (Post : XPo) (cut : List Nat) (WW : XK) (n : Nat) (L : XLs) (st : List XV) (M : XM) : yru (xlk (pX8_fine Post)) cut WW (n + 1) 109 L st M = j_mul 109 L st M (ykk (xlk (pX8_fine Post)) cut WW n) := yf rfl
theorem fX8_fine_110 (Post : XPo) (cut : List Nat) (WW : XK) (n : Nat) (L : XLs) (st : List XV) (M : XM) : yru (xlk (pX8_fine Post)) cut WW (n + 1) 110 L st M = j_goto 114 110 L st M (ykk (xlk (pX8_fine Post)) cut WW n) := yf rfl
theorem fX8_fine_113 (Post : XPo) (cut : List Nat) (WW : XK) (n : Nat) (L : XLs) (st : List XV) (M : XM) : yru (xlk (pX8_fine Post)) cut WW (n + 1) 113 L st M = j_c 0 1 113 L st M (ykk (xlk (pX8_fine Post)) cut WW n) := yf rfl
theorem fX8_fine_114 (Post : XPo) (cut : List Nat) (WW : XK) (n : Nat) (L : XLs) (st : List XV) (M : XM) : yru (xlk (pX8_fine Post)) cut WW (n + 1) 114 L st M = j_ist 4 2 114 L st M (ykk (xlk (pX8_fine Post)) cut WW n) := yf rfl
theorem fX8_fine_116 (Post : XPo) (cut : List Nat) (WW : XK) (n : Nat) (L : XLs) (st : List XV) (M : XM) : yru (xlk (pX8_fine Post)) cut WW (n + 1) 116 L st M = j_ild 4 2 116 L st M (ykk (xlk (pX8_fine Post)) cut WW n) := yf rfl
theorem fX8_fine_118 (Post : XPo) (cut : List Nat) (WW : XK) (n : Nat) (L : XLs) (st : List XV) (M : XM) : yru (xlk (pX8_fine Post)) cut WW (n + 1) 118 L st M = j_ild 3 1 118 L st M (ykk (xlk (pX8_fine Post)) cut WW n) := yf rfl
theorem fX8_fine_119 (Post : XPo) (cut : List Nat) (WW : XK) (n : Nat) (L : XLs) (st : List XV) (M : XM) : yru (xlk (pX8_fine Post)) cut WW (n + 1) 119 L st M = j_ile 126 119 L st M (ykk (xlk (pX8_fine Post)) cut WW n) := yf rfl
theorem fX8_fine_122 (Post : XPo) (cut : List Nat) (WW : XK) (n : Nat) (L : XLs) (st : List XV) (M : XM) : yru (xlk (pX8_fine Post)) cut WW (n + 1) 122 L st M = j_ild 3 1 122 L st M (ykk (xlk (pX8_fine Post)) cut WW n) := yf rfl
theorem fX8_fine_123 (Post : XPo) (cut : List Nat) (WW : XK) (n : Nat) (L : XLs) (st : List XV) (M : XM) : yru (xlk (pX8_fine Post)) cut WW (n + 1) 123 L st M = j_goto 128 123 L st M (ykk (xlk (pX8_fine Post)) cut WW n) := yf rfl
theorem fX8_fine_126 (Post : XPo) (cut : List Nat) (WW : XK) (n : Nat) (L : XLs) (st : List XV) (M : XM) : yru (xlk (pX8_fine Post)) cut WW (n + 1) 126 L st M = j_ild 4 2 126 L st M (ykk (xlk (pX8_fine Post)) cut WW n) := yf rfl
theorem fX8_fine_128 (Post : XPo) (cut : List Nat) (WW : XK) (n : Nat) (L : XLs) (st : List XV) (M : XM) : yru (xlk (pX8_fine Post)) cut WW (n + 1) 128 L st M = j_ist 4 2 128 L st M (ykk (xlk (pX8_fine Post)) cut WW n) := yf rfl
theorem fX8_fine_130 (Post : XPo) (cut : List Nat) (WW : XK) (n : Nat) (L : XLs) (st : List XV) (M : XM) : yru (xlk (pX8_fine Post)) cut WW (n + 1) 130 L st M = j_ald 0 1 130 L st M (ykk (xlk (pX8_fine Post)) cut WW n) := yf rfl
theorem fX8_fine_131 (Post : XPo) (cut : List Nat) (WW : XK) (n : Nat) (L : XLs) (st : List XV) (M : XM) : yru (xlk (pX8_fine Post)) cut WW (n + 1) 131 L st M = j_ild 1 1 131 L st M (ykk (xlk (pX8_fine Post)) cut WW n) := yf rfl
theorem fX8_fine_132 (Post : XPo) (cut : List Nat) (WW : XK) (n : Nat) (L : XLs) (st : List XV) (M : XM) : yru (xlk (pX8_fine Post)) cut WW (n + 1) 132 L st M = j_c 10 2 132 L st M (ykk (xlk (pX8_fine Post)) cut WW n) := yf rfl
theorem fX8_fine_134 (Post : XPo) (cut : List Nat) (WW : XK) (n : Nat) (L : XLs) (st : List XV) (M : XM) : yru (xlk (pX8_fine Post)) cut WW (n + 1) 134 L st M = j_ild 4 2 134 L st M (ykk (xlk (pX8_fine Post)) cut WW n) := yf rfl
theorem fX8_fine_136 (Post : XPo) (cut : List Nat) (WW : XK) (n : Nat) (L : XLs) (st : List XV) (M : XM) : yru (xlk (pX8_fine Post)) cut WW (n + 1) 136 L st M = j_V3 20 sX8_addTo 136 L st M (ykk (xlk (pX8_fine Post)) cut WW n) := yf rfl
theorem fX8_fine_139 (Post : XPo) (cut : List Nat) (WW : XK) (n : Nat) (L : XLs) (st : List XV) (M : XM) : yru (xlk (pX8_fine Post)) cut WW (n + 1) 139 L st M = j_ald 0 1 139 L st M (ykk (xlk (pX8_fine Post)) cut WW n) := yf rfl
theorem fX8_fine_140 (Post : XPo) (cut : List Nat) (WW : XK) (n : Nat) (L : XLs) (st : List XV) (M : XM) : yru (xlk (pX8_fine Post)) cut WW (n + 1) 140 L st M = j_gR 20 (fun i k => (21, 0, 0)) 140 L st M (ykk (xlk (pX8_fine Post)) cut WW n) := yf rfl
theorem fX8_fine_143 (Post : XPo) (cut : List Nat) (WW : XK) (n : Nat) (L : XLs) (st : List XV) (M : XM) : yru (xlk (pX8_fine Post)) cut WW (n + 1) 143 L st M = j_c 16 2 143 L st M (ykk (xlk (pX8_fine Post)) cut WW n) := yf rfl
theorem fX8_fine_145 (Post : XPo) (cut : List Nat) (WW : XK) (n : Nat) (L : XLs) (st : List XV) (M : XM) : yru (xlk (pX8_fine Post)) cut WW (n + 1) 145 L st M = j_dup2 145 L st M (ykk (xlk (pX8_fine Post)) cut WW n) := yf rfl
theorem fX8_fine_146 (Post : XPo) (cut : List Nat) (WW : XK) (n : Nat) (L : XLs) (st : List XV) (M : XM) : yru (xlk (pX8_fine Post)) cut WW (n + 1) 146 L st M = j_iald 146 L st M (ykk (xlk (pX8_fine Post)) cut WW n) := yf rfl
theorem fX8_fine_147 (Post : XPo) (cut : List Nat) (WW : XK) (n : Nat) (L : XLs) (st : List XV) (M : XM) : yru (xlk (pX8_fine Post)) cut WW (n + 1) 147 L st M = j_ild 4 2 147 L st M (ykk (xlk (pX8_fine Post)) cut WW n) := yf rfl
theorem fX8_fine_149 (Post : XPo) (cut : List Nat) (WW : XK) (n : Nat) (L : XLs) (st : List XV) (M : XM) : yru (xlk (pX8_fine Post)) cut WW (n + 1) 149 L st M = j_add 149 L st M (ykk (xlk (pX8_fine Post)) cut WW n) := yf rfl
theorem fX8_fine_150 (Post : XPo) (cut : List Nat) (WW : XK) (n : Nat) (L : XLs) (st : List XV) (M : XM) : yru (xlk (pX8_fine Post)) cut WW (n + 1) 150 L st M = j_iast 150 L st M (ykk (xlk (pX8_fine Post)) cut WW n) := yf rfl
theorem fX8_fine_151 (Post : XPo) (cut : List Nat) (WW : XK) (n : Nat) (L : XLs) (st : List XV) (M : XM) : yru (xlk (pX8_fine Post)) cut WW (n + 1) 151 L st M = j_inc 1 1 151 L st M (ykk (xlk (pX8_fine Post)) cut WW n) := yf rfl
theorem fX8_fine_154 (Post : XPo) (cut : List Nat) (WW : XK) (n : Nat) (L : XLs) (st : List XV) (M : XM) : yru (xlk (pX8_fine Post)) cut WW (n + 1) 154 L st M = j_goto 2 154 L st M (ykk (xlk (pX8_fine Post)) cut WW n) := yf rfl
theorem fX8_fine_157 (Post : XPo) (cut : List Nat) (WW : XK) (n : Nat) (L : XLs) (st : List XV) (M : XM) : yru (xlk (pX8_fine Post)) cut WW (n + 1) 157 L st M = j_ret0 Post 157 L st M (ykk (xlk (pX8_fine Post)) cut WW n) := yf rfl
set_option maxRecDepth 100000 in
theorem kX8_fine_loop {Post : XPo} {WW : XK} (hC : XCl (xlk (pX8_fine Post)) WW) {f c b : Int} {P : Int → Int} (hc : c ≤ 80000000) : ∀ (n : Nat) (u : Int) (F M : XM) (x2 x3 x4 : Option XV), GZ 60 F f (M 21 0 0) → fI c b F f → grOK P (M 20 0 0 7) (F 1 f 0 10) → (0 ≤ M 20 0 0 6 ∧ M 20 0 0 6 ≤ 100000) → 0 ≤ u → u + n = F 1 f 0 10 → (∀ M' : XM, zf6 M M' → M' 20 0 0 6 = lgR P F f n u (M 20 0 0 6) → 0 ≤ M' 20 0 0 6 ∧ M' 20 0 0 6 ≤ 100000 → GZ 60 (xit (pun f) n u F) f (M' 21 0 0) → Post [] M') → WW 2 [some (xR 20 0 0), some (xI u), x2, x3, x4] [] M := by
  intro n
  induction n with
  | zero =>
    intro u F M x2 x3 x4 hz hG hg hl h0 h1 h
    have e9 : M 21 0 0 9 = F 1 f 0 10 := hz.2.2.1.2.2.2.1
    have c10 := hG.1.2.2.2.1
    have r9 : XInR (F 1 f 0 10) := ⟨by omega, by omega⟩
    have eu : u = F 1 f 0 10 := by omega
    have q := h M (zf6_refl M) rfl hl hz
    subst eu
    refine yru_ok hC [2] 60 _ _ _ _ ?_
    simp only [ykk_ap, Int.reduceEq, Int.reduceLT, Int.reduceLE, Int.reduceNeg, Int.reduceAdd, Int.reduceSub, Int.reduceMul, and_self, false_and, and_false, not_true_eq_false, not_false_eq_true, true_implies, false_implies, xq0, xq1, xq2, xq3, xq4, xq5, xqR, xq1R, xq3R, xt1, xt2, xt3, List.mem_cons, List.not_mem_nil, or_false, false_or, or_self, if_false, if_true, reduceIte, reduceCtorEq, xent, xen, List.length_cons, List.length_nil, List.replicate, j_c, j_cJ, j_ild, j_ald, j_lld, j_ist, j_ast, j_lst, j_inc, j_add, j_sub, j_mul, j_neg, j_div, j_rem, j_and, j_shr, j_shl1, j_or, j_ladd, j_lsub, j_lmul, j_i2l, j_lcmp, j_i2c, j_dup, j_dup2, j_pop, j_goto, j_ieq, j_ine, j_ilt, j_ige, j_igt, j_ile, j_eq, j_ne, j_lt, j_ge, j_gt, j_le, xsw, j_tsw, j_lsw2, j_gI, j_gJ, j_gR, j_pI, j_pJ, j_gs, j_iald, j_iast, j_cald, j_cast, j_lald, j_last, j_aald, j_cpy, j_min, j_max, j_abs, j_iret, j_zret, j_lret, j_dret, j_ret0, j_V0, j_V1, j_V2, j_V3, j_V4, j_V5, j_S1, j_S2, j_S3, xget, xset, xset2, xclr, xc1, xcat, Nat.reduceAdd, Nat.reduceEqDiff, Nat.reduceLT, Nat.reduceLeDiff, Nat.reduceMul, List.cons_append, List.nil_append, true_and, and_true, List.singleton_append, fX8_fine_0, fX8_fine_1, fX8_fine_2, fX8_fine_3, fX8_fine_4, fX8_fine_7, fX8_fine_9, fX8_fine_10, fX8_fine_13, fX8_fine_14, fX8_fine_15, fX8_fine_18, fX8_fine_21, fX8_fine_22, fX8_fine_23, fX8_fine_26, fX8_fine_29, fX8_fine_30, fX8_fine_33, fX8_fine_35, fX8_fine_36, fX8_fine_37, fX8_fine_38, fX8_fine_40, fX8_fine_43, fX8_fine_44, fX8_fine_45, fX8_fine_46, fX8_fine_47, fX8_fine_48, fX8_fine_51, fX8_fine_54, fX8_fine_55, fX8_fine_58, fX8_fine_59, fX8_fine_60, fX8_fine_61, fX8_fine_62, fX8_fine_63, fX8_fine_66, fX8_fine_67, fX8_fine_70, fX8_fine_71, fX8_fine_74, fX8_fine_77, fX8_fine_79, fX8_fine_80, fX8_fine_81, fX8_fine_83, fX8_fine_86, fX8_fine_87, fX8_fine_88, fX8_fine_89, fX8_fine_90, fX8_fine_93, fX8_fine_94, fX8_fine_95, fX8_fine_98, fX8_fine_99, fX8_fine_100, fX8_fine_103, fX8_fine_104, fX8_fine_107, fX8_fine_108, fX8_fine_109, fX8_fine_110, fX8_fine_113, fX8_fine_114, fX8_fine_116, fX8_fine_118, fX8_fine_119, fX8_fine_122, fX8_fine_123, fX8_fine_126, fX8_fine_128, fX8_fine_130, fX8_fine_131, fX8_fine_132, fX8_fine_134, fX8_fine_136, fX8_fine_139, fX8_fine_140, fX8_fine_143, fX8_fine_145, fX8_fine_146, fX8_fine_147, fX8_fine_149, fX8_fine_150, fX8_fine_151, fX8_fine_154, fX8_fine_157, sX8_works, sX8_owedTo, sX8_ofUnit, sX8_addTo, xvz_20, xvz_21, xrz_21, xdz_21, xlen, xcat, xc1, Nat.zero_le, Nat.reduceLeDiff, e9, r9, Int.le_refl]
    exact q
  | succ n ih =>
    intro u F M x2 x3 x4 hz hG hg hl h0 h1 h
    have hB := GZ_zB hz hG.1
    have e9 : M 21 0 0 9 = F 1 f 0 10 := hz.2.2.1.2.2.2.1
    have z10 := hz.2.2.1.2.2.2.2
    have c10 := hG.1.2.2.2.1
    have c0 := hG.1.2.2.2.2.1
    have r9 : XInR (F 1 f 0 10) := ⟨by omega, by omega⟩
    have g1 : ¬ F 1 f 0 10 ≤ u := by omega
    have u12 : u < 12 := by omega
    have u31 : u < 31 := by omega
    have ru : XInR u := ⟨by omega, by omega⟩
    have hI := zI_u hB.1 h0
    have how := fU_ow hG.2.2.2.2 hc h0 u12
    have hU := hG.2.2.2.2.1 u h0 u12
    have hW := (hz.2.2.2.2.2.2.2.1 u h0 u12).1 (by omega)
    unfold gW1 at hW
    obtain ⟨e0, e1, p9, p10, p11, -, hw1, hw0⟩ := hW
    have hbit := hg.2 u h0 (by omega)
    have hcnt : pun f u F 1 f 0 10 = F 1 f 0 10 := by rw [pun_tag (by decide)]
    have hp8 : ∀ v : Int, pun f u F 14 f v 8 = F 14 f v 8 := fun v => by
      unfold pun
      split
      · simp only [xup_app, Int.reduceEq, and_false, if_false]
      · rfl
    have hp0 : pun f u F 1 f 0 0 = F 1 f 0 0 := by rw [pun_tag (by decide)]
    have hno : wtG F f u = -1 → pun f u F = F → WW 151 [some (xR 20 0 0), some (xI u), x2, x3, x4] [] M := fun ew e => by
      have hb' := ih (u + 1) F M x2 x3 x4 hz hG hg hl (by omega) (by omega) (fun M' a b1 b2 b3 => h M' a (by
        rw [b1]
        simp only [lgR]
        rw [ew, show max (M 20 0 0 6) (-1) = M 20 0 0 6 by omega, ite_self]) b2 (by
        show GZ 60 (xit (pun f) n (u + 1) (pun f u F)) f (M' 21 0 0)
        rw [e]
        exact b3))
      refine yru_ok hC [2] 60 _ _ _ _ ?_
      simp only [ykk_ap, Int.reduceEq, Int.reduceLT, Int.reduceLE, Int.reduceNeg, Int.reduceAdd, Int.reduceSub, Int.reduceMul, and_self, false_and, and_false, not_true_eq_false, not_false_eq_true, true_implies, false_implies, xq0, xq1, xq2, xq3, xq4, xq5, xqR, xq1R, xq3R, xt1, xt2, xt3, List.mem_cons, List.not_mem_nil, or_false, false_or, or_self, if_false, if_true, reduceIte, reduceCtorEq, xent, xen, List.length_cons, List.length_nil, List.replicate, j_c, j_cJ, j_ild, j_ald, j_lld, j_ist, j_ast, j_lst, j_inc, j_add, j_sub, j_mul, j_neg, j_div, j_rem, j_and, j_shr, j_shl1, j_or, j_ladd, j_lsub, j_lmul, j_i2l, j_lcmp, j_i2c, j_dup, j_dup2, j_pop, j_goto, j_ieq, j_ine, j_ilt, j_ige, j_igt, j_ile, j_eq, j_ne, j_lt, j_ge, j_gt, j_le, xsw, j_tsw, j_lsw2, j_gI, j_gJ, j_gR, j_pI, j_pJ, j_gs, j_iald, j_iast, j_cald, j_cast, j_lald, j_last, j_aald, j_cpy, j_min, j_max, j_abs, j_iret, j_zret, j_lret, j_dret, j_ret0, j_V0, j_V1, j_V2, j_V3, j_V4, j_V5, j_S1, j_S2, j_S3, xget, xset, xset2, xclr, xc1, xcat, Nat.reduceAdd, Nat.reduceEqDiff, Nat.reduceLT, Nat.reduceLeDiff, Nat.reduceMul, List.cons_append, List.nil_append, true_and, and_true, List.singleton_append, fX8_fine_0, fX8_fine_1, fX8_fine_2, fX8_fine_3, fX8_fine_4, fX8_fine_7, fX8_fine_9, fX8_fine_10, fX8_fine_13, fX8_fine_14, fX8_fine_15, fX8_fine_18, fX8_fine_21, fX8_fine_22, fX8_fine_23, fX8_fine_26, fX8_fine_29, fX8_fine_30, fX8_fine_33, fX8_fine_35, fX8_fine_36, fX8_fine_37, fX8_fine_38, fX8_fine_40, fX8_fine_43, fX8_fine_44, fX8_fine_45, fX8_fine_46, fX8_fine_47, fX8_fine_48, fX8_fine_51, fX8_fine_54, fX8_fine_55, fX8_fine_58, fX8_fine_59, fX8_fine_60, fX8_fine_61, fX8_fine_62, fX8_fine_63, fX8_fine_66, fX8_fine_67, fX8_fine_70, fX8_fine_71, fX8_fine_74, fX8_fine_77, fX8_fine_79, fX8_fine_80, fX8_fine_81, fX8_fine_83, fX8_fine_86, fX8_fine_87, fX8_fine_88, fX8_fine_89, fX8_fine_90, fX8_fine_93, fX8_fine_94, fX8_fine_95, fX8_fine_98, fX8_fine_99, fX8_fine_100, fX8_fine_103, fX8_fine_104, fX8_fine_107, fX8_fine_108, fX8_fine_109, fX8_fine_110, fX8_fine_113, fX8_fine_114, fX8_fine_116, fX8_fine_118, fX8_fine_119, fX8_fine_122, fX8_fine_123, fX8_fine_126, fX8_fine_128, fX8_fine_130, fX8_fine_131, fX8_fine_132, fX8_fine_134, fX8_fine_136, fX8_fine_139, fX8_fine_140, fX8_fine_143, fX8_fine_145, fX8_fine_146, fX8_fine_147, fX8_fine_149, fX8_fine_150, fX8_fine_151, fX8_fine_154, fX8_fine_157, sX8_works, sX8_owedTo, sX8_ofUnit, sX8_addTo, xvz_20, xvz_21, xrz_21, xdz_21, xlen, xcat, xc1, Nat.zero_le, Nat.reduceLeDiff]
      exact hb'
    by_cases hs : F 14 f u 0 = 0
    · have s0 : M 21 0 0 (73 + 12 * u + 0) = 0 := by rw [e0]; exact hs
      have y6 := (hw1 hs).1 6 (by decide) (by decide)
      have y7 := (hw1 hs).1 7 (by decide) (by decide)
      have y8 := (hw1 hs).1 8 (by decide) (by decide)
      have hsi := (hw1 hs).2.2.2.1
      have ro : XInR (F 14 f u 6 + F 14 f u 7) := ⟨by omega, by omega⟩
      by_cases ho : 0 < F 14 f u 6 + F 14 f u 7
      · have ho' : ¬ F 14 f u 6 + F 14 f u 7 ≤ 0 := by omega
        have hne : ¬ F 14 f u 8 = -1 := fun q => by have := hsi.mp q; omega
        have hd := GZ_pun hz hG hc h0 (by omega) hs ho
        have hfi := fI_pun h0 u12 hG
        have ewt : wtG F f u = F 1 f 0 0 - F 14 f u 8 := by unfold wtG; rw [if_neg hne]
        obtain ⟨lt, hlt⟩ : ∃ l : Int, l = F 1 f 0 0 - F 14 f u 8 := ⟨_, rfl⟩
        have hltb : -30000 ≤ lt ∧ lt ≤ 30000 := by omega
        obtain ⟨lo', hlo⟩ : ∃ l : Int, l = (if P u < 100000000 then max (M 20 0 0 6) lt else M 20 0 0 6) := ⟨_, rfl⟩
        have hlob : 0 ≤ lo' ∧ lo' ≤ 100000 := by rw [hlo]; split <;> omega
        obtain ⟨mm, hmm⟩ : ∃ m : Int, m = pnV F f u := ⟨_, rfl⟩
        rw [← hmm] at hd
        have rlt : XInR lt := ⟨by omega, by omega⟩
        have rla : XInR (M 20 0 0 6) := ⟨by omega, by omega⟩
        have rgr : XInR (M 20 0 0 7) := ⟨by have := hg.1; omega, by have := hg.1; omega⟩
        have z1 := hz.2.1 1 (by decide) (by decide)
        have z2 := hz.2.1 2 (by decide) (by decide)
        have r1 : XInR (F 2 f 0 1) := ⟨by have := hG.1.2.2.2.2.2.2.1; omega, by have := hG.1.2.2.2.2.2.2.1; omega⟩
        have hpr := hG.1.2.2.2.2.2.2.2.1
        have hmul : 0 ≤ (F 14 f u 6 + F 14 f u 7) * F 2 f 0 2 ∧ (F 14 f u 6 + F 14 f u 7) * F 2 f 0 2 ≤ 80000000 * 20 := ⟨Int.mul_nonneg (by omega) (by omega), Int.mul_le_mul (by omega) hpr.2 hpr.1 (by decide)⟩
        have rmu : XInR ((F 14 f u 6 + F 14 f u 7) * F 2 f 0 2) := ⟨by omega, by omega⟩
        have rle : XInR (100000000 - F 14 f u 10) := ⟨by omega, by omega⟩
        have q10 : ¬ 16 = 73 + 12 * u + 10 := by omega
        obtain ⟨N, hN⟩ : ∃ N : XM, N = xup M 20 0 0 6 lo' := ⟨_, rfl⟩
        have n21 : N 21 = M 21 := by rw [hN]; exact xup_tag (by decide)
        have n206 : N 20 0 0 6 = lo' := by rw [hN, xup_app, if_pos ⟨rfl, rfl, rfl, rfl⟩]
        have n20 : ∀ s : Int, ¬ s = 6 → N 20 0 0 s = M 20 0 0 s := fun s hs' => by rw [hN, xup_app, if_neg (fun q => hs' q.2.2.2)]
        have hIN : ∀ w : Int, 0 ≤ w → XInR (N 21 0 0 (73 + 12 * u + w)) := fun w hw => by rw [n21]; exact hI w hw
        have N6 : N 21 0 0 (73 + 12 * u + 6) = F 14 f u 6 := by rw [n21]; exact y6
        have N7 : N 21 0 0 (73 + 12 * u + 7) = F 14 f u 7 := by rw [n21]; exact y7
        have N10 : N 21 0 0 (73 + 12 * u + 10) = F 14 f u 10 := by rw [n21]; exact p10
        have N1 : N 21 0 0 1 = F 2 f 0 1 := by rw [n21]; exact z1
        have N2 : N 21 0 0 2 = F 2 f 0 2 := by rw [n21]; exact z2
        have h128 : ∀ (x4 : Int), WW 128 [some (xR 20 0 0), some (xI u), some (xI lt), some (xI (100000000 - F 14 f u 10)), some (xI x4)] [xI mm] N := by
          intro x4
          refine yru_ok hC [2] 60 _ _ _ _ ?_
          simp only [ykk_ap, Int.reduceEq, Int.reduceLT, Int.reduceLE, Int.reduceNeg, Int.reduceAdd, Int.reduceSub, Int.reduceMul, and_self, false_and, and_false, not_true_eq_false, not_false_eq_true, true_implies, false_implies, xq0, xq1, xq2, xq3, xq4, xq5, xqR, xq1R, xq3R, xt1, xt2, xt3, List.mem_cons, List.not_mem_nil, or_false, false_or, or_self, if_false, if_true, reduceIte, reduceCtorEq, xent, xen, List.length_cons, List.length_nil, List.replicate, j_c, j_cJ, j_ild, j_ald, j_lld, j_ist, j_ast, j_lst, j_inc, j_add, j_sub, j_mul, j_neg, j_div, j_rem, j_and, j_shr, j_shl1, j_or, j_ladd, j_lsub, j_lmul, j_i2l, j_lcmp, j_i2c, j_dup, j_dup2, j_pop, j_goto, j_ieq, j_ine, j_ilt, j_ige, j_igt, j_ile, j_eq, j_ne, j_lt, j_ge, j_gt, j_le, xsw, j_tsw, j_lsw2, j_gI, j_gJ, j_gR, j_pI, j_pJ, j_gs, j_iald, j_iast, j_cald, j_cast, j_lald, j_last, j_aald, j_cpy, j_min, j_max, j_abs, j_iret, j_zret, j_lret, j_dret, j_ret0, j_V0, j_V1, j_V2, j_V3, j_V4, j_V5, j_S1, j_S2, j_S3, xget, xset, xset2, xclr, xc1, xcat, Nat.reduceAdd, Nat.reduceEqDiff, Nat.reduceLT, Nat.reduceLeDiff, Nat.reduceMul, List.cons_append, List.nil_append, true_and, and_true, List.singleton_append, fX8_fine_0, fX8_fine_1, fX8_fine_2, fX8_fine_3, fX8_fine_4, fX8_fine_7, fX8_fine_9, fX8_fine_10, fX8_fine_13, fX8_fine_14, fX8_fine_15, fX8_fine_18, fX8_fine_21, fX8_fine_22, fX8_fine_23, fX8_fine_26, fX8_fine_29, fX8_fine_30, fX8_fine_33, fX8_fine_35, fX8_fine_36, fX8_fine_37, fX8_fine_38, fX8_fine_40, fX8_fine_43, fX8_fine_44, fX8_fine_45, fX8_fine_46, fX8_fine_47, fX8_fine_48, fX8_fine_51, fX8_fine_54, fX8_fine_55, fX8_fine_58, fX8_fine_59, fX8_fine_60, fX8_fine_61, fX8_fine_62, fX8_fine_63, fX8_fine_66, fX8_fine_67, fX8_fine_70, fX8_fine_71, fX8_fine_74, fX8_fine_77, fX8_fine_79, fX8_fine_80, fX8_fine_81, fX8_fine_83, fX8_fine_86, fX8_fine_87, fX8_fine_88, fX8_fine_89, fX8_fine_90, fX8_fine_93, fX8_fine_94, fX8_fine_95, fX8_fine_98, fX8_fine_99, fX8_fine_100, fX8_fine_103, fX8_fine_104, fX8_fine_107, fX8_fine_108, fX8_fine_109, fX8_fine_110, fX8_fine_113, fX8_fine_114, fX8_fine_116, fX8_fine_118, fX8_fine_119, fX8_fine_122, fX8_fine_123, fX8_fine_126, fX8_fine_128, fX8_fine_130, fX8_fine_131, fX8_fine_132, fX8_fine_134, fX8_fine_136, fX8_fine_139, fX8_fine_140, fX8_fine_143, fX8_fine_145, fX8_fine_146, fX8_fine_147, fX8_fine_149, fX8_fine_150, fX8_fine_151, fX8_fine_154, fX8_fine_157, sX8_works, sX8_owedTo, sX8_ofUnit, sX8_addTo, xvz_20, xvz_21, xrz_21, xdz_21, xlen, xcat, xc1, Nat.zero_le, Nat.reduceLeDiff, hIN, h0, u12, q10, Int.add_right_inj, xup_app]
          refine ih (u + 1) (pun f u F) _ _ _ _ ?_ hfi ?_ ?_ (by omega) (by omega) (fun M' a b1 b2 b3 => h M' (zf6_trans (zf6_trans (M' := N) ⟨fun t a1 a2 => by rw [hN]; exact xup_tag a1, n20⟩ (zf6_of (fun t ht => by simp only [xup_tag ht]))) a) ?_ b2 b3)
          · simp only [xup_sup]
            rw [n21]
            exact hd
          · simp only [xup_app, Nat.reduceEqDiff, false_and, if_false]
            rw [n20 7 (by decide), hcnt]
            exact hg
          · simp only [xup_app, Nat.reduceEqDiff, false_and, if_false]
            rw [n206]
            exact hlob
          · rw [b1, lgR_congr hp8 hp0]
            simp only [xup_app, Nat.reduceEqDiff, false_and, if_false, lgR]
            rw [n206, ewt, ← hlt, hlo]
        have h114 : ∀ (x4 : Option XV) (v : Int), XInR v → mm = min v (100000000 - F 14 f u 10) → WW 114 [some (xR 20 0 0), some (xI u), some (xI lt), some (xI (100000000 - F 14 f u 10)), x4] [xI v] N := by
          intro x4 v rv ev
          refine yru_ok hC [128] 20 _ _ _ _ ?_
          simp only [ykk_ap, Int.reduceEq, Int.reduceLT, Int.reduceLE, Int.reduceNeg, Int.reduceAdd, Int.reduceSub, Int.reduceMul, and_self, false_and, and_false, not_true_eq_false, not_false_eq_true, true_implies, false_implies, xq0, xq1, xq2, xq3, xq4, xq5, xqR, xq1R, xq3R, xt1, xt2, xt3, List.mem_cons, List.not_mem_nil, or_false, false_or, or_self, if_false, if_true, reduceIte, reduceCtorEq, xent, xen, List.length_cons, List.length_nil, List.replicate, j_c, j_cJ, j_ild, j_ald, j_lld, j_ist, j_ast, j_lst, j_inc, j_add, j_sub, j_mul, j_neg, j_div, j_rem, j_and, j_shr, j_shl1, j_or, j_ladd, j_lsub, j_lmul, j_i2l, j_lcmp, j_i2c, j_dup, j_dup2, j_pop, j_goto, j_ieq, j_ine, j_ilt, j_ige, j_igt, j_ile, j_eq, j_ne, j_lt, j_ge, j_gt, j_le, xsw, j_tsw, j_lsw2, j_gI, j_gJ, j_gR, j_pI, j_pJ, j_gs, j_iald, j_iast, j_cald, j_cast, j_lald, j_last, j_aald, j_cpy, j_min, j_max, j_abs, j_iret, j_zret, j_lret, j_dret, j_ret0, j_V0, j_V1, j_V2, j_V3, j_V4, j_V5, j_S1, j_S2, j_S3, xget, xset, xset2, xclr, xc1, xcat, Nat.reduceAdd, Nat.reduceEqDiff, Nat.reduceLT, Nat.reduceLeDiff, Nat.reduceMul, List.cons_append, List.nil_append, true_and, and_true, List.singleton_append, fX8_fine_0, fX8_fine_1, fX8_fine_2, fX8_fine_3, fX8_fine_4, fX8_fine_7, fX8_fine_9, fX8_fine_10, fX8_fine_13, fX8_fine_14, fX8_fine_15, fX8_fine_18, fX8_fine_21, fX8_fine_22, fX8_fine_23, fX8_fine_26, fX8_fine_29, fX8_fine_30, fX8_fine_33, fX8_fine_35, fX8_fine_36, fX8_fine_37, fX8_fine_38, fX8_fine_40, fX8_fine_43, fX8_fine_44, fX8_fine_45, fX8_fine_46, fX8_fine_47, fX8_fine_48, fX8_fine_51, fX8_fine_54, fX8_fine_55, fX8_fine_58, fX8_fine_59, fX8_fine_60, fX8_fine_61, fX8_fine_62, fX8_fine_63, fX8_fine_66, fX8_fine_67, fX8_fine_70, fX8_fine_71, fX8_fine_74, fX8_fine_77, fX8_fine_79, fX8_fine_80, fX8_fine_81, fX8_fine_83, fX8_fine_86, fX8_fine_87, fX8_fine_88, fX8_fine_89, fX8_fine_90, fX8_fine_93, fX8_fine_94, fX8_fine_95, fX8_fine_98, fX8_fine_99, fX8_fine_100, fX8_fine_103, fX8_fine_104, fX8_fine_107, fX8_fine_108, fX8_fine_109, fX8_fine_110, fX8_fine_113, fX8_fine_114, fX8_fine_116, fX8_fine_118, fX8_fine_119, fX8_fine_122, fX8_fine_123, fX8_fine_126, fX8_fine_128, fX8_fine_130, fX8_fine_131, fX8_fine_132, fX8_fine_134, fX8_fine_136, fX8_fine_139, fX8_fine_140, fX8_fine_143, fX8_fine_145, fX8_fine_146, fX8_fine_147, fX8_fine_149, fX8_fine_150, fX8_fine_151, fX8_fine_154, fX8_fine_157, sX8_works, sX8_owedTo, sX8_ofUnit, sX8_addTo, xvz_20, xvz_21, xrz_21, xdz_21, xlen, xcat, xc1, Nat.zero_le, Nat.reduceLeDiff, rv, rle]
          refine ⟨fun g => ?_, fun g => ?_⟩
          · have q := h128 v
            rw [ev, Int.min_eq_left g] at q
            exact q
          · have q := h128 v
            rw [ev, Int.min_eq_right (by omega)] at q
            exact q
        have h74 : ∀ (x3 x4 : Option XV), WW 74 [some (xR 20 0 0), some (xI u), some (xI lt), x3, x4] [xI lo', xR 20 0 0] M := by
          intro x3 x4
          refine yru_ok hC [114] 60 _ _ _ _ ?_
          simp only [ykk_ap, Int.reduceEq, Int.reduceLT, Int.reduceLE, Int.reduceNeg, Int.reduceAdd, Int.reduceSub, Int.reduceMul, and_self, false_and, and_false, not_true_eq_false, not_false_eq_true, true_implies, false_implies, xq0, xq1, xq2, xq3, xq4, xq5, xqR, xq1R, xq3R, xt1, xt2, xt3, List.mem_cons, List.not_mem_nil, or_false, false_or, or_self, if_false, if_true, reduceIte, reduceCtorEq, xent, xen, List.length_cons, List.length_nil, List.replicate, j_c, j_cJ, j_ild, j_ald, j_lld, j_ist, j_ast, j_lst, j_inc, j_add, j_sub, j_mul, j_neg, j_div, j_rem, j_and, j_shr, j_shl1, j_or, j_ladd, j_lsub, j_lmul, j_i2l, j_lcmp, j_i2c, j_dup, j_dup2, j_pop, j_goto, j_ieq, j_ine, j_ilt, j_ige, j_igt, j_ile, j_eq, j_ne, j_lt, j_ge, j_gt, j_le, xsw, j_tsw, j_lsw2, j_gI, j_gJ, j_gR, j_pI, j_pJ, j_gs, j_iald, j_iast, j_cald, j_cast, j_lald, j_last, j_aald, j_cpy, j_min, j_max, j_abs, j_iret, j_zret, j_lret, j_dret, j_ret0, j_V0, j_V1, j_V2, j_V3, j_V4, j_V5, j_S1, j_S2, j_S3, xget, xset, xset2, xclr, xc1, xcat, Nat.reduceAdd, Nat.reduceEqDiff, Nat.reduceLT, Nat.reduceLeDiff, Nat.reduceMul, List.cons_append, List.nil_append, true_and, and_true, List.singleton_append, fX8_fine_0, fX8_fine_1, fX8_fine_2, fX8_fine_3, fX8_fine_4, fX8_fine_7, fX8_fine_9, fX8_fine_10, fX8_fine_13, fX8_fine_14, fX8_fine_15, fX8_fine_18, fX8_fine_21, fX8_fine_22, fX8_fine_23, fX8_fine_26, fX8_fine_29, fX8_fine_30, fX8_fine_33, fX8_fine_35, fX8_fine_36, fX8_fine_37, fX8_fine_38, fX8_fine_40, fX8_fine_43, fX8_fine_44, fX8_fine_45, fX8_fine_46, fX8_fine_47, fX8_fine_48, fX8_fine_51, fX8_fine_54, fX8_fine_55, fX8_fine_58, fX8_fine_59, fX8_fine_60, fX8_fine_61, fX8_fine_62, fX8_fine_63, fX8_fine_66, fX8_fine_67, fX8_fine_70, fX8_fine_71, fX8_fine_74, fX8_fine_77, fX8_fine_79, fX8_fine_80, fX8_fine_81, fX8_fine_83, fX8_fine_86, fX8_fine_87, fX8_fine_88, fX8_fine_89, fX8_fine_90, fX8_fine_93, fX8_fine_94, fX8_fine_95, fX8_fine_98, fX8_fine_99, fX8_fine_100, fX8_fine_103, fX8_fine_104, fX8_fine_107, fX8_fine_108, fX8_fine_109, fX8_fine_110, fX8_fine_113, fX8_fine_114, fX8_fine_116, fX8_fine_118, fX8_fine_119, fX8_fine_122, fX8_fine_123, fX8_fine_126, fX8_fine_128, fX8_fine_130, fX8_fine_131, fX8_fine_132, fX8_fine_134, fX8_fine_136, fX8_fine_139, fX8_fine_140, fX8_fine_143, fX8_fine_145, fX8_fine_146, fX8_fine_147, fX8_fine_149, fX8_fine_150, fX8_fine_151, fX8_fine_154, fX8_fine_157, sX8_works, sX8_owedTo, sX8_ofUnit, sX8_addTo, xvz_20, xvz_21, xrz_21, xdz_21, xlen, xcat, xc1, Nat.zero_le, Nat.reduceLeDiff, ← hN, hIN, N10, N1, N2, N6, N7, rlt, r1, h0, u12, Int.le_refl]
          unfold pnV at hmm
          refine ⟨fun g => ?_, fun g => ?_⟩
          · rw [if_neg (by omega)] at hmm
            exact h114 _ 0 (xr_c rfl) (by omega)
          · rw [if_pos (by omega)] at hmm
            exact h114 _ _ rmu hmm
        by_cases hP : P u < 100000000
        · rw [if_pos hP] at hbit hlo
          refine yru_ok hC [2, 74] 60 _ _ _ _ ?_
          simp only [ykk_ap, Int.reduceEq, Int.reduceLT, Int.reduceLE, Int.reduceNeg, Int.reduceAdd, Int.reduceSub, Int.reduceMul, and_self, false_and, and_false, not_true_eq_false, not_false_eq_true, true_implies, false_implies, xq0, xq1, xq2, xq3, xq4, xq5, xqR, xq1R, xq3R, xt1, xt2, xt3, List.mem_cons, List.not_mem_nil, or_false, false_or, or_self, if_false, if_true, reduceIte, reduceCtorEq, xent, xen, List.length_cons, List.length_nil, List.replicate, j_c, j_cJ, j_ild, j_ald, j_lld, j_ist, j_ast, j_lst, j_inc, j_add, j_sub, j_mul, j_neg, j_div, j_rem, j_and, j_shr, j_shl1, j_or, j_ladd, j_lsub, j_lmul, j_i2l, j_lcmp, j_i2c, j_dup, j_dup2, j_pop, j_goto, j_ieq, j_ine, j_ilt, j_ige, j_igt, j_ile, j_eq, j_ne, j_lt, j_ge, j_gt, j_le, xsw, j_tsw, j_lsw2, j_gI, j_gJ, j_gR, j_pI, j_pJ, j_gs, j_iald, j_iast, j_cald, j_cast, j_lald, j_last, j_aald, j_cpy, j_min, j_max, j_abs, j_iret, j_zret, j_lret, j_dret, j_ret0, j_V0, j_V1, j_V2, j_V3, j_V4, j_V5, j_S1, j_S2, j_S3, xget, xset, xset2, xclr, xc1, xcat, Nat.reduceAdd, Nat.reduceEqDiff, Nat.reduceLT, Nat.reduceLeDiff, Nat.reduceMul, List.cons_append, List.nil_append, true_and, and_true, List.singleton_append, fX8_fine_0, fX8_fine_1, fX8_fine_2, fX8_fine_3, fX8_fine_4, fX8_fine_7, fX8_fine_9, fX8_fine_10, fX8_fine_13, fX8_fine_14, fX8_fine_15, fX8_fine_18, fX8_fine_21, fX8_fine_22, fX8_fine_23, fX8_fine_26, fX8_fine_29, fX8_fine_30, fX8_fine_33, fX8_fine_35, fX8_fine_36, fX8_fine_37, fX8_fine_38, fX8_fine_40, fX8_fine_43, fX8_fine_44, fX8_fine_45, fX8_fine_46, fX8_fine_47, fX8_fine_48, fX8_fine_51, fX8_fine_54, fX8_fine_55, fX8_fine_58, fX8_fine_59, fX8_fine_60, fX8_fine_61, fX8_fine_62, fX8_fine_63, fX8_fine_66, fX8_fine_67, fX8_fine_70, fX8_fine_71, fX8_fine_74, fX8_fine_77, fX8_fine_79, fX8_fine_80, fX8_fine_81, fX8_fine_83, fX8_fine_86, fX8_fine_87, fX8_fine_88, fX8_fine_89, fX8_fine_90, fX8_fine_93, fX8_fine_94, fX8_fine_95, fX8_fine_98, fX8_fine_99, fX8_fine_100, fX8_fine_103, fX8_fine_104, fX8_fine_107, fX8_fine_108, fX8_fine_109, fX8_fine_110, fX8_fine_113, fX8_fine_114, fX8_fine_116, fX8_fine_118, fX8_fine_119, fX8_fine_122, fX8_fine_123, fX8_fine_126, fX8_fine_128, fX8_fine_130, fX8_fine_131, fX8_fine_132, fX8_fine_134, fX8_fine_136, fX8_fine_139, fX8_fine_140, fX8_fine_143, fX8_fine_145, fX8_fine_146, fX8_fine_147, fX8_fine_149, fX8_fine_150, fX8_fine_151, fX8_fine_154, fX8_fine_157, sX8_works, sX8_owedTo, sX8_ofUnit, sX8_addTo, xvz_20, xvz_21, xrz_21, xdz_21, xlen, xcat, xc1, Nat.zero_le, Nat.reduceLeDiff, hI, e9, r9, ru, g1, h0, u12, u31, s0, y6, y7, y8, z10, ← hlt, ro, ho', rlt, rla, rgr, hbit, Int.le_refl, xr_c (n := 0) rfl, xr_c (n := 1) rfl]
          refine ⟨fun g => ?_, fun g => ?_⟩
          · have q := h74 x3 x4
            rw [hlo, Int.max_eq_left g] at q
            exact q
          · have q := h74 x3 x4
            rw [hlo, Int.max_eq_right (by omega)] at q
            exact q
        · rw [if_neg hP] at hbit hlo
          refine yru_ok hC [2, 74] 60 _ _ _ _ ?_
          simp only [ykk_ap, Int.reduceEq, Int.reduceLT, Int.reduceLE, Int.reduceNeg, Int.reduceAdd, Int.reduceSub, Int.reduceMul, and_self, false_and, and_false, not_true_eq_false, not_false_eq_true, true_implies, false_implies, xq0, xq1, xq2, xq3, xq4, xq5, xqR, xq1R, xq3R, xt1, xt2, xt3, List.mem_cons, List.not_mem_nil, or_false, false_or, or_self, if_false, if_true, reduceIte, reduceCtorEq, xent, xen, List.length_cons, List.length_nil, List.replicate, j_c, j_cJ, j_ild, j_ald, j_lld, j_ist, j_ast, j_lst, j_inc, j_add, j_sub, j_mul, j_neg, j_div, j_rem, j_and, j_shr, j_shl1, j_or, j_ladd, j_lsub, j_lmul, j_i2l, j_lcmp, j_i2c, j_dup, j_dup2, j_pop, j_goto, j_ieq, j_ine, j_ilt, j_ige, j_igt, j_ile, j_eq, j_ne, j_lt, j_ge, j_gt, j_le, xsw, j_tsw, j_lsw2, j_gI, j_gJ, j_gR, j_pI, j_pJ, j_gs, j_iald, j_iast, j_cald, j_cast, j_lald, j_last, j_aald, j_cpy, j_min, j_max, j_abs, j_iret, j_zret, j_lret, j_dret, j_ret0, j_V0, j_V1, j_V2, j_V3, j_V4, j_V5, j_S1, j_S2, j_S3, xget, xset, xset2, xclr, xc1, xcat, Nat.reduceAdd, Nat.reduceEqDiff, Nat.reduceLT, Nat.reduceLeDiff, Nat.reduceMul, List.cons_append, List.nil_append, true_and, and_true, List.singleton_append, fX8_fine_0, fX8_fine_1, fX8_fine_2, fX8_fine_3, fX8_fine_4, fX8_fine_7, fX8_fine_9, fX8_fine_10, fX8_fine_13, fX8_fine_14, fX8_fine_15, fX8_fine_18, fX8_fine_21, fX8_fine_22, fX8_fine_23, fX8_fine_26, fX8_fine_29, fX8_fine_30, fX8_fine_33, fX8_fine_35, fX8_fine_36, fX8_fine_37, fX8_fine_38, fX8_fine_40, fX8_fine_43, fX8_fine_44, fX8_fine_45, fX8_fine_46, fX8_fine_47, fX8_fine_48, fX8_fine_51, fX8_fine_54, fX8_fine_55, fX8_fine_58, fX8_fine_59, fX8_fine_60, fX8_fine_61, fX8_fine_62, fX8_fine_63, fX8_fine_66, fX8_fine_67, fX8_fine_70, fX8_fine_71, fX8_fine_74, fX8_fine_77, fX8_fine_79, fX8_fine_80, fX8_fine_81, fX8_fine_83, fX8_fine_86, fX8_fine_87, fX8_fine_88, fX8_fine_89, fX8_fine_90, fX8_fine_93, fX8_fine_94, fX8_fine_95, fX8_fine_98, fX8_fine_99, fX8_fine_100, fX8_fine_103, fX8_fine_104, fX8_fine_107, fX8_fine_108, fX8_fine_109, fX8_fine_110, fX8_fine_113, fX8_fine_114, fX8_fine_116, fX8_fine_118, fX8_fine_119, fX8_fine_122, fX8_fine_123, fX8_fine_126, fX8_fine_128, fX8_fine_130, fX8_fine_131, fX8_fine_132, fX8_fine_134, fX8_fine_136, fX8_fine_139, fX8_fine_140, fX8_fine_143, fX8_fine_145, fX8_fine_146, fX8_fine_147, fX8_fine_149, fX8_fine_150, fX8_fine_151, fX8_fine_154, fX8_fine_157, sX8_works, sX8_owedTo, sX8_ofUnit, sX8_addTo, xvz_20, xvz_21, xrz_21, xdz_21, xlen, xcat, xc1, Nat.zero_le, Nat.reduceLeDiff, hI, e9, r9, ru, g1, h0, u12, u31, s0, y6, y7, y8, z10, ← hlt, ro, ho', rlt, rla, rgr, hbit, Int.le_refl, xr_c (n := 0) rfl, xr_c (n := 1) rfl]
          have q := h74 x3 x4
          rw [hlo] at q
          exact ⟨fun _ => q, fun _ => q⟩
      · have ho' : F 14 f u 6 + F 14 f u 7 ≤ 0 := by omega
        have q := hno (by unfold wtG; rw [if_pos (hsi.mpr (by omega))]) (by unfold pun; rw [if_neg (fun q => q.1 (hsi.mpr (by omega)))])
        refine yru_ok hC [2, 151] 60 _ _ _ _ ?_
        simp only [ykk_ap, Int.reduceEq, Int.reduceLT, Int.reduceLE, Int.reduceNeg, Int.reduceAdd, Int.reduceSub, Int.reduceMul, and_self, false_and, and_false, not_true_eq_false, not_false_eq_true, true_implies, false_implies, xq0, xq1, xq2, xq3, xq4, xq5, xqR, xq1R, xq3R, xt1, xt2, xt3, List.mem_cons, List.not_mem_nil, or_false, false_or, or_self, if_false, if_true, reduceIte, reduceCtorEq, xent, xen, List.length_cons, List.length_nil, List.replicate, j_c, j_cJ, j_ild, j_ald, j_lld, j_ist, j_ast, j_lst, j_inc, j_add, j_sub, j_mul, j_neg, j_div, j_rem, j_and, j_shr, j_shl1, j_or, j_ladd, j_lsub, j_lmul, j_i2l, j_lcmp, j_i2c, j_dup, j_dup2, j_pop, j_goto, j_ieq, j_ine, j_ilt, j_ige, j_igt, j_ile, j_eq, j_ne, j_lt, j_ge, j_gt, j_le, xsw, j_tsw, j_lsw2, j_gI, j_gJ, j_gR, j_pI, j_pJ, j_gs, j_iald, j_iast, j_cald, j_cast, j_lald, j_last, j_aald, j_cpy, j_min, j_max, j_abs, j_iret, j_zret, j_lret, j_dret, j_ret0, j_V0, j_V1, j_V2, j_V3, j_V4, j_V5, j_S1, j_S2, j_S3, xget, xset, xset2, xclr, xc1, xcat, Nat.reduceAdd, Nat.reduceEqDiff, Nat.reduceLT, Nat.reduceLeDiff, Nat.reduceMul, List.cons_append, List.nil_append, true_and, and_true, List.singleton_append, fX8_fine_0, fX8_fine_1, fX8_fine_2, fX8_fine_3, fX8_fine_4, fX8_fine_7, fX8_fine_9, fX8_fine_10, fX8_fine_13, fX8_fine_14, fX8_fine_15, fX8_fine_18, fX8_fine_21, fX8_fine_22, fX8_fine_23, fX8_fine_26, fX8_fine_29, fX8_fine_30, fX8_fine_33, fX8_fine_35, fX8_fine_36, fX8_fine_37, fX8_fine_38, fX8_fine_40, fX8_fine_43, fX8_fine_44, fX8_fine_45, fX8_fine_46, fX8_fine_47, fX8_fine_48, fX8_fine_51, fX8_fine_54, fX8_fine_55, fX8_fine_58, fX8_fine_59, fX8_fine_60, fX8_fine_61, fX8_fine_62, fX8_fine_63, fX8_fine_66, fX8_fine_67, fX8_fine_70, fX8_fine_71, fX8_fine_74, fX8_fine_77, fX8_fine_79, fX8_fine_80, fX8_fine_81, fX8_fine_83, fX8_fine_86, fX8_fine_87, fX8_fine_88, fX8_fine_89, fX8_fine_90, fX8_fine_93, fX8_fine_94, fX8_fine_95, fX8_fine_98, fX8_fine_99, fX8_fine_100, fX8_fine_103, fX8_fine_104, fX8_fine_107, fX8_fine_108, fX8_fine_109, fX8_fine_110, fX8_fine_113, fX8_fine_114, fX8_fine_116, fX8_fine_118, fX8_fine_119, fX8_fine_122, fX8_fine_123, fX8_fine_126, fX8_fine_128, fX8_fine_130, fX8_fine_131, fX8_fine_132, fX8_fine_134, fX8_fine_136, fX8_fine_139, fX8_fine_140, fX8_fine_143, fX8_fine_145, fX8_fine_146, fX8_fine_147, fX8_fine_149, fX8_fine_150, fX8_fine_151, fX8_fine_154, fX8_fine_157, sX8_works, sX8_owedTo, sX8_ofUnit, sX8_addTo, xvz_20, xvz_21, xrz_21, xdz_21, xlen, xcat, xc1, Nat.zero_le, Nat.reduceLeDiff, hI, e9, r9, ru, g1, h0, u12, s0, y6, y7, ro, ho', Int.le_refl, xr_c (n := 0) rfl, xr_c (n := 1) rfl]
        exact q
    · have s0 : ¬ M 21 0 0 (73 + 12 * u + 0) = 0 := by rw [e0]; exact hs
      have q := hno (by unfold wtG; rw [if_pos (hw0 hs).2.2.2.2]) (by unfold pun; rw [if_neg (fun q => q.1 (hw0 hs).2.2.2.2)])
      refine yru_ok hC [2, 151] 60 _ _ _ _ ?_
      simp only [ykk_ap, Int.reduceEq, Int.reduceLT, Int.reduceLE, Int.reduceNeg, Int.reduceAdd, Int.reduceSub, Int.reduceMul, and_self, false_and, and_false, not_true_eq_false, not_false_eq_true, true_implies, false_implies, xq0, xq1, xq2, xq3, xq4, xq5, xqR, xq1R, xq3R, xt1, xt2, xt3, List.mem_cons, List.not_mem_nil, or_false, false_or, or_self, if_false, if_true, reduceIte, reduceCtorEq, xent, xen, List.length_cons, List.length_nil, List.replicate, j_c, j_cJ, j_ild, j_ald, j_lld, j_ist, j_ast, j_lst, j_inc, j_add, j_sub, j_mul, j_neg, j_div, j_rem, j_and, j_shr, j_shl1, j_or, j_ladd, j_lsub, j_lmul, j_i2l, j_lcmp, j_i2c, j_dup, j_dup2, j_pop, j_goto, j_ieq, j_ine, j_ilt, j_ige, j_igt, j_ile, j_eq, j_ne, j_lt, j_ge, j_gt, j_le, xsw, j_tsw, j_lsw2, j_gI, j_gJ, j_gR, j_pI, j_pJ, j_gs, j_iald, j_iast, j_cald, j_cast, j_lald, j_last, j_aald, j_cpy, j_min, j_max, j_abs, j_iret, j_zret, j_lret, j_dret, j_ret0, j_V0, j_V1, j_V2, j_V3, j_V4, j_V5, j_S1, j_S2, j_S3, xget, xset, xset2, xclr, xc1, xcat, Nat.reduceAdd, Nat.reduceEqDiff, Nat.reduceLT, Nat.reduceLeDiff, Nat.reduceMul, List.cons_append, List.nil_append, true_and, and_true, List.singleton_append, fX8_fine_0, fX8_fine_1, fX8_fine_2, fX8_fine_3, fX8_fine_4, fX8_fine_7, fX8_fine_9, fX8_fine_10, fX8_fine_13, fX8_fine_14, fX8_fine_15, fX8_fine_18, fX8_fine_21, fX8_fine_22, fX8_fine_23, fX8_fine_26, fX8_fine_29, fX8_fine_30, fX8_fine_33, fX8_fine_35, fX8_fine_36, fX8_fine_37, fX8_fine_38, fX8_fine_40, fX8_fine_43, fX8_fine_44, fX8_fine_45, fX8_fine_46, fX8_fine_47, fX8_fine_48, fX8_fine_51, fX8_fine_54, fX8_fine_55, fX8_fine_58, fX8_fine_59, fX8_fine_60, fX8_fine_61, fX8_fine_62, fX8_fine_63, fX8_fine_66, fX8_fine_67, fX8_fine_70, fX8_fine_71, fX8_fine_74, fX8_fine_77, fX8_fine_79, fX8_fine_80, fX8_fine_81, fX8_fine_83, fX8_fine_86, fX8_fine_87, fX8_fine_88, fX8_fine_89, fX8_fine_90, fX8_fine_93, fX8_fine_94, fX8_fine_95, fX8_fine_98, fX8_fine_99, fX8_fine_100, fX8_fine_103, fX8_fine_104, fX8_fine_107, fX8_fine_108, fX8_fine_109, fX8_fine_110, fX8_fine_113, fX8_fine_114, fX8_fine_116, fX8_fine_118, fX8_fine_119, fX8_fine_122, fX8_fine_123, fX8_fine_126, fX8_fine_128, fX8_fine_130, fX8_fine_131, fX8_fine_132, fX8_fine_134, fX8_fine_136, fX8_fine_139, fX8_fine_140, fX8_fine_143, fX8_fine_145, fX8_fine_146, fX8_fine_147, fX8_fine_149, fX8_fine_150, fX8_fine_151, fX8_fine_154, fX8_fine_157, sX8_works, sX8_owedTo, sX8_ofUnit, sX8_addTo, xvz_20, xvz_21, xrz_21, xdz_21, xlen, xcat, xc1, Nat.zero_le, Nat.reduceLeDiff, hI, e9, r9, ru, g1, h0, u12, s0, Int.le_refl, xr_c (n := 0) rfl]
      exact q
def sX8_fine : XSp := xq0 20 (fun _ _ M Q => ∃ (F : XM) (f c b : Int) (P : Int → Int), (GZ 60 F f (M 21 0 0) ∧ fI c b F f ∧ c ≤ 80000000 ∧ grOK P (M 20 0 0 7) (F 1 f 0 10) ∧ 0 ≤ M 20 0 0 6 ∧ M 20 0 0 6 ≤ 100000) ∧ (∀ M' : XM, zf6 M M' → M' 20 0 0 6 = lgR P F f (F 1 f 0 10).toNat 0 (M 20 0 0 6) → 0 ≤ M' 20 0 0 6 ∧ M' 20 0 0 6 ≤ 100000 → GZ 60 (pPunish F f) f (M' 21 0 0) → Q [] M'))
theorem xg_fine {F : XM}{f c b : Int}{P : Int → Int} {M : XM} {Q : XPo} (hc : GZ 60 F f (M 21 0 0) ∧ fI c b F f ∧ c ≤ 80000000 ∧ grOK P (M 20 0 0 7) (F 1 f 0 10) ∧ 0 ≤ M 20 0 0 6 ∧ M 20 0 0 6 ≤ 100000) (h : ∀ M' : XM, zf6 M M' → M' 20 0 0 6 = lgR P F f (F 1 f 0 10).toNat 0 (M 20 0 0 6) → 0 ≤ M' 20 0 0 6 ∧ M' 20 0 0 6 ≤ 100000 → GZ 60 (pPunish F f) f (M' 21 0 0) → Q [] M') : sX8_fine [xR 20 0 0] M Q := @id ((20 = 20 ∧ xval 20 0 0) ∧ ∃ (F : XM) (f c b : Int) (P : Int → Int), (GZ 60 F f (M 21 0 0) ∧ fI c b F f ∧ c ≤ 80000000 ∧ grOK P (M 20 0 0 7) (F 1 f 0 10) ∧ 0 ≤ M 20 0 0 6 ∧ M 20 0 0 6 ≤ 100000) ∧ (∀ M' : XM, zf6 M M' → M' 20 0 0 6 = lgR P F f (F 1 f 0 10).toNat 0 (M 20 0 0 6) → 0 ≤ M' 20 0 0 6 ∧ M' 20 0 0 6 ≤ 100000 → GZ 60 (pPunish F f) f (M' 21 0 0) → Q [] M')) ⟨⟨rfl, xvz_20⟩, F, f, c, b, P, hc, h⟩
set_option maxRecDepth 100000 in
theorem kX8_fine : XCn yX8_fine wX8_fine rX8_fine sX8_fine := XC0 pX8_fine rfl rfl aX8_fine (by decide) (fun i0 k0 M Post hv h WW hC => by
  obtain ⟨rfl, rfl⟩ := xk20 hv
  obtain ⟨F, f, c, b, P, ⟨hz, hG, hc, hg, hl⟩, h⟩ := h
  have c10 := hG.1.2.2.2.1
  have hk := kX8_fine_loop hC hc (F 1 f 0 10).toNat 0 F M none none none hz hG hg hl (by decide) (by omega) h
  show WW 0 [some (xR 20 0 0), none, none, none, none] [] M
  refine yru_ok hC [2] 60 _ _ _ _ ?_
  simp only [ykk_ap, Int.reduceEq, Int.reduceLT, Int.reduceLE, Int.reduceNeg, Int.reduceAdd, Int.reduceSub, Int.reduceMul, and_self, false_and, and_false, not_true_eq_false, not_false_eq_true, true_implies, false_implies, xq0, xq1, xq2, xq3, xq4, xq5, xqR, xq1R, xq3R, xt1, xt2, xt3, List.mem_cons, List.not_mem_nil, or_false, false_or, or_self, if_false, if_true, reduceIte, reduceCtorEq, xent, xen, List.length_cons, List.length_nil, List.replicate, j_c, j_cJ, j_ild, j_ald, j_lld, j_ist, j_ast, j_lst, j_inc, j_add, j_sub, j_mul, j_neg, j_div, j_rem, j_and, j_shr, j_shl1, j_or, j_ladd, j_lsub, j_lmul, j_i2l, j_lcmp, j_i2c, j_dup, j_dup2, j_pop, j_goto, j_ieq, j_ine, j_ilt, j_ige, j_igt, j_ile, j_eq, j_ne, j_lt, j_ge, j_gt, j_le, xsw, j_tsw, j_lsw2, j_gI, j_gJ, j_gR, j_pI, j_pJ, j_gs, j_iald, j_iast, j_cald, j_cast, j_lald, j_last, j_aald, j_cpy, j_min, j_max, j_abs, j_iret, j_zret, j_lret, j_dret, j_ret0, j_V0, j_V1, j_V2, j_V3, j_V4, j_V5, j_S1, j_S2, j_S3, xget, xset, xset2, xclr, xc1, xcat, Nat.reduceAdd, Nat.reduceEqDiff, Nat.reduceLT, Nat.reduceLeDiff, Nat.reduceMul, List.cons_append, List.nil_append, true_and, and_true, List.singleton_append, fX8_fine_0, fX8_fine_1, fX8_fine_2, fX8_fine_3, fX8_fine_4, fX8_fine_7, fX8_fine_9, fX8_fine_10, fX8_fine_13, fX8_fine_14, fX8_fine_15, fX8_fine_18, fX8_fine_21, fX8_fine_22, fX8_fine_23, fX8_fine_26, fX8_fine_29, fX8_fine_30, fX8_fine_33, fX8_fine_35, fX8_fine_36, fX8_fine_37, fX8_fine_38, fX8_fine_40, fX8_fine_43, fX8_fine_44, fX8_fine_45, fX8_fine_46, fX8_fine_47, fX8_fine_48, fX8_fine_51, fX8_fine_54, fX8_fine_55, fX8_fine_58, fX8_fine_59, fX8_fine_60, fX8_fine_61, fX8_fine_62, fX8_fine_63, fX8_fine_66, fX8_fine_67, fX8_fine_70, fX8_fine_71, fX8_fine_74, fX8_fine_77, fX8_fine_79, fX8_fine_80, fX8_fine_81, fX8_fine_83, fX8_fine_86, fX8_fine_87, fX8_fine_88, fX8_fine_89, fX8_fine_90, fX8_fine_93, fX8_fine_94, fX8_fine_95, fX8_fine_98, fX8_fine_99, fX8_fine_100, fX8_fine_103, fX8_fine_104, fX8_fine_107, fX8_fine_108, fX8_fine_109, fX8_fine_110, fX8_fine_113, fX8_fine_114, fX8_fine_116, fX8_fine_118, fX8_fine_119, fX8_fine_122, fX8_fine_123, fX8_fine_126, fX8_fine_128, fX8_fine_130, fX8_fine_131, fX8_fine_132, fX8_fine_134, fX8_fine_136, fX8_fine_139, fX8_fine_140, fX8_fine_143, fX8_fine_145, fX8_fine_146, fX8_fine_147, fX8_fine_149, fX8_fine_150, fX8_fine_151, fX8_fine_154, fX8_fine_157, sX8_works, sX8_owedTo, sX8_ofUnit, sX8_addTo, xvz_20, xvz_21, xrz_21, xdz_21, xlen, xcat, xc1, Nat.zero_le, Nat.reduceLeDiff]
  exact hk)
theorem lgR_same {P : Int → Int} {F F' : XM} {f : Int} : True := trivial
theorem pPunish_8 (F : XM) (f : Int) (u : Int) : pPunish F f 14 f u 8 = F 14 f u 8 := by
  unfold pPunish
  exact xit_ind (P := fun N => N 14 f u 8 = F 14 f u 8) (lo := 0) (hi := 0 + (F 1 f 0 10).toNat) (fun v N _ _ h => by
    unfold pun
    split
    · simp only [xup_app, Int.reduceEq, and_false, if_false]
      exact h
    · exact h) (F 1 f 0 10).toNat 0 F (Int.le_refl _) (Int.le_refl _) rfl
theorem pPunish_1 (F : XM) (f : Int) : pPunish F f 1 = F 1 := by
  unfold pPunish
  exact xit_ind (P := fun N => N 1 = F 1) (lo := 0) (hi := 0 + (F 1 f 0 10).toNat) (fun v N _ _ h => by rw [pun_tag (by decide)]; exact h) (F 1 f 0 10).toNat 0 F (Int.le_refl _) (Int.le_refl _) rfl
theorem pServe_1 (F : XM) (f : Int) : pServe F f 1 = F 1 := by
  unfold pServe
  exact xit_ind (P := fun N => N 1 = F 1) (lo := 0) (hi := 0 + (F 1 f 0 10).toNat) (fun v N _ _ h => by rw [srv_tag (by decide) (by decide) (by decide) (by decide)]; exact h) (F 1 f 0 10).toNat 0 F (Int.le_refl _) (Int.le_refl _) rfl
theorem pCall_1 (F : XM) (f s : Int) (hs : ¬ s = 1) : pCall F f 1 f 0 s = F 1 f 0 s := by
  unfold pCall
  exact xit_ind (P := fun N => N 1 f 0 s = F 1 f 0 s) (lo := 0) (hi := 0 + (F 1 f 0 10).toNat) (fun v N _ _ h => by rw [cal_1 hs]; exact h) (F 1 f 0 10).toNat 0 F (Int.le_refl _) (Int.le_refl _) rfl
theorem pThrow_1 (F : XM) (f : Int) : pThrow F f 1 = F 1 := by
  unfold pThrow
  refine xit_ind (P := fun N => N 1 = F 1) (lo := 0) (hi := 0 + (F 1 f 0 8).toNat) (fun v N _ _ h => by rw [thLo_tag (by decide) (by decide) (by decide)]; exact h) (F 1 f 0 8).toNat 0 _ (Int.le_refl _) (Int.le_refl _) ?_
  exact xit_ind (P := fun N => N 1 = F 1) (lo := 0) (hi := 0 + (F 1 f 0 6).toNat) (fun v N _ _ h => by rw [thK_tag (by decide) (by decide) (by decide)]; exact h) (F 1 f 0 6).toNat 0 F (Int.le_refl _) (Int.le_refl _) rfl
theorem pCook_1 (F : XM) (f : Int) : pCook F f 1 = F 1 := by
  unfold pCook
  exact xit_ind (P := fun N => N 1 = F 1) (lo := 0) (hi := 0 + (F 1 f 0 6).toNat) (fun v N _ _ h => by rw [kCook_tag (by decide) (by decide) (by decide)]; exact h) (F 1 f 0 6).toNat 0 F (Int.le_refl _) (Int.le_refl _) rfl
theorem pDrive_1 (F : XM) (f : Int) : pDrive F f 1 = F 1 := by
  unfold pDrive
  exact xit_ind (P := fun N => N 1 = F 1) (lo := 0) (hi := 0 + (F 1 f 0 8).toNat) (fun v N _ _ h => by rw [lDrive_tag (by decide)]; exact h) (F 1 f 0 8).toNat 0 F (Int.le_refl _) (Int.le_refl _) rfl
theorem fPass_10 (F : XM) (f s : Int) (h0 : ¬ s = 0) (h1 : ¬ s = 1) : fPass F f 1 f 0 s = F 1 f 0 s := by
  unfold fPass
  rw [pPunish_1, pServe_1, pCall_1 _ _ _ h1, pThrow_1, pCook_1, pDrive_1, xup_app, if_neg (fun q => h0 q.2.2.2)]
/-- UnitKitchensModel.minute()V -/
abbrev wX8_minute : List Cond := Cond.code yX8_minute cX8_minute 1 none :: xT
abbrev rX8_minute : Room := { frames := 4, cells := 0, slots := 0, locals := 100 }
def pX8_minute (Post : XPo) : List (Nat × XStp) := [(0, j_ald 0 1), (1, j_gR 20 (fun i k => (21, 0, 0))), (4, j_c 10 2), (6, j_dup2), (7, j_iald), (8, j_c 1 1), (9, j_add), (10, j_iast), (11, j_ald 0 1), (12, j_V0 20 sX8_clearMinute), (15, j_ald 0 1), (16, j_V0 20 sX8_moveLorries), (19, j_ald 0 1), (20, j_V0 20 sX8_cookAll), (23, j_ald 0 1), (24, j_V0 20 sX8_throwAway), (27, j_ald 0 1), (28, j_V0 20 sX8_callAll), (31, j_ald 0 1), (32, j_V0 20 sX8_serveAll), (35, j_ald 0 1), (36, j_V0 20 sX8_fine), (39, j_ret0 Post)]
set_option maxRecDepth 100000 in
theorem aX8_minute (Post : XPo) : XAll rX8_minute cX8_minute 1 RX8 wX8_minute none Post (pX8_minute Post) := XAll.cons (xs_aload_n dX8_minute_0 rfl) (XAll.cons (fgX8_0 tw_1048 dX8_minute_1) (XAll.cons (xs_bipush dX8_minute_4 rfl) (XAll.cons (xs_dup2 dX8_minute_6) (XAll.cons (xs_iald dX8_minute_7) (XAll.cons (xs_iconst dX8_minute_8) (XAll.cons (xs_iadd dX8_minute_9) (XAll.cons (xs_iast dX8_minute_10) (XAll.cons (xs_aload_n dX8_minute_11 rfl) (XAll.cons (xs_V0 kX8_clearMinute ⟨⟨rfl, rfl, by decide, by decide⟩, ⟨by decide, by decide, by decide +kernel⟩, ⟨tw_1269, tw_1271, tp_33, tw_9, tw_1272⟩, 8, TX8, _, rfl, fun G ρ f i k => ⟨_, rfl⟩⟩ dX8_minute_12) (XAll.cons (xs_aload_n dX8_minute_15 rfl) (XAll.cons (xs_V0 kX8_moveLorries ⟨⟨rfl, rfl, by decide, by decide⟩, ⟨by decide, by decide, by decide +kernel⟩, ⟨tw_1273, tw_1275, tp_34, tw_9, tw_1276⟩, 8, TX8, _, rfl, fun G ρ f i k => ⟨_, rfl⟩⟩ dX8_minute_16) (XAll.cons (xs_aload_n dX8_minute_19 rfl) (XAll.cons (xs_V0 kX8_cookAll ⟨⟨rfl, rfl, by decide, by decide⟩, ⟨by decide, by decide, by decide +kernel⟩, ⟨tw_1277, tw_1279, tp_35, tw_9, tw_1280⟩, 8, TX8, _, rfl, fun G ρ f i k => ⟨_, rfl⟩⟩ dX8_minute_20) (XAll.cons (xs_aload_n dX8_minute_23 rfl) (XAll.cons (xs_V0 kX8_throwAway ⟨⟨rfl, rfl, by decide, by decide⟩, ⟨by decide, by decide, by decide +kernel⟩, ⟨tw_1281, tw_1283, tp_36, tw_9, tw_1284⟩, 8, TX8, _, rfl, fun G ρ f i k => ⟨_, rfl⟩⟩ dX8_minute_24) (XAll.cons (xs_aload_n dX8_minute_27 rfl) (XAll.cons (xs_V0 kX8_callAll ⟨⟨rfl, rfl, by decide, by decide⟩, ⟨by decide, by decide, by decide +kernel⟩, ⟨tw_1285, tw_1287, tp_37, tw_9, tw_1288⟩, 8, TX8, _, rfl, fun G ρ f i k => ⟨_, rfl⟩⟩ dX8_minute_28) (XAll.cons (xs_aload_n dX8_minute_31 rfl) (XAll.cons (xs_V0 kX8_serveAll ⟨⟨rfl, rfl, by decide, by decide⟩, ⟨by decide, by decide, by decide +kernel⟩, ⟨tw_1289, tw_1291, tp_38, tw_9, tw_1292⟩, 8, TX8, _, rfl, fun G ρ f i k => ⟨_, rfl⟩⟩ dX8_minute_32) (XAll.cons (xs_aload_n dX8_minute_35 rfl) (XAll.cons (xs_V0 kX8_fine ⟨⟨rfl, rfl, by decide, by decide⟩, ⟨by decide, by decide, by decide +kernel⟩, ⟨tw_1301, tw_1303, tp_41, tw_9, tw_1304⟩, 8, TX8, _, rfl, fun G ρ f i k => ⟨_, rfl⟩⟩ dX8_minute_36) (XAll.cons (xs_vret rfl dX8_minute_39) (XAll.nil)))))))))))))))))))))))
theorem fX8_minute_0 (Post : XPo) (cut : List Nat) (WW : XK) (n : Nat) (L : XLs) (st : List XV) (M : XM) : yru (xlk (pX8_minute Post)) cut WW (n + 1) 0 L st M = j_ald 0 1 0 L st M (ykk (xlk (pX8_minute Post)) cut WW n) := yf rfl
theorem fX8_minute_1 (Post : XPo) (cut : List Nat) (WW : XK) (n : Nat) (L : XLs) (st : List XV) (M : XM) : yru (xlk (pX8_minute Post)) cut WW (n + 1) 1 L st M = j_gR 20 (fun i k => (21, 0, 0)) 1 L st M (ykk (xlk (pX8_minute Post)) cut WW n) := yf rfl
theorem fX8_minute_4 (Post : XPo) (cut : List Nat) (WW : XK) (n : Nat) (L : XLs) (st : List XV) (M : XM) : yru (xlk (pX8_minute Post)) cut WW (n + 1) 4 L st M = j_c 10 2 4 L st M (ykk (xlk (pX8_minute Post)) cut WW n) := yf rfl
theorem fX8_minute_6 (Post : XPo) (cut : List Nat) (WW : XK) (n : Nat) (L : XLs) (st : List XV) (M : XM) : yru (xlk (pX8_minute Post)) cut WW (n + 1) 6 L st M = j_dup2 6 L st M (ykk (xlk (pX8_minute Post)) cut WW n) := yf rfl
theorem fX8_minute_7 (Post : XPo) (cut : List Nat) (WW : XK) (n : Nat) (L : XLs) (st : List XV) (M : XM) : yru (xlk (pX8_minute Post)) cut WW (n + 1) 7 L st M = j_iald 7 L st M (ykk (xlk (pX8_minute Post)) cut WW n) := yf rfl
theorem fX8_minute_8 (Post : XPo) (cut : List Nat) (WW : XK) (n : Nat) (L : XLs) (st : List XV) (M : XM) : yru (xlk (pX8_minute Post)) cut WW (n + 1) 8 L st M = j_c 1 1 8 L st M (ykk (xlk (pX8_minute Post)) cut WW n) := yf rfl
theorem fX8_minute_9 (Post : XPo) (cut : List Nat) (WW : XK) (n : Nat) (L : XLs) (st : List XV) (M : XM) : yru (xlk (pX8_minute Post)) cut WW (n + 1) 9 L st M = j_add 9 L st M (ykk (xlk (pX8_minute Post)) cut WW n) := yf rfl
theorem fX8_minute_10 (Post : XPo) (cut : List Nat) (WW : XK) (n : Nat) (L : XLs) (st : List XV) (M : XM) : yru (xlk (pX8_minute Post)) cut WW (n + 1) 10 L st M = j_iast 10 L st M (ykk (xlk (pX8_minute Post)) cut WW n) := yf rfl
theorem fX8_minute_11 (Post : XPo) (cut : List Nat) (WW : XK) (n : Nat) (L : XLs) (st : List XV) (M : XM) : yru (xlk (pX8_minute Post)) cut WW (n + 1) 11 L st M = j_ald 0 1 11 L st M (ykk (xlk (pX8_minute Post)) cut WW n) := yf rfl
theorem fX8_minute_12 (Post : XPo) (cut : List Nat) (WW : XK) (n : Nat) (L : XLs) (st : List XV) (M : XM) : yru (xlk (pX8_minute Post)) cut WW (n + 1) 12 L st M = j_V0 20 sX8_clearMinute 12 L st M (ykk (xlk (pX8_minute Post)) cut WW n) := yf rfl
theorem fX8_minute_15 (Post : XPo) (cut : List Nat) (WW : XK) (n : Nat) (L : XLs) (st : List XV) (M : XM) : yru (xlk (pX8_minute Post)) cut WW (n + 1) 15 L st M = j_ald 0 1 15 L st M (ykk (xlk (pX8_minute Post)) cut WW n) := yf rfl
theorem fX8_minute_16 (Post : XPo) (cut : List Nat) (WW : XK) (n : Nat) (L : XLs) (st : List XV) (M : XM) : yru (xlk (pX8_minute Post)) cut WW (n + 1) 16 L st M = j_V0 20 sX8_moveLorries 16 L st M (ykk (xlk (pX8_minute Post)) cut WW n) := yf rfl
theorem fX8_minute_19 (Post : XPo) (cut : List Nat) (WW : XK) (n : Nat) (L : XLs) (st : List XV) (M : XM) : yru (xlk (pX8_minute Post)) cut WW (n + 1) 19 L st M = j_ald 0 1 19 L st M (ykk (xlk (pX8_minute Post)) cut WW n) := yf rfl
theorem fX8_minute_20 (Post : XPo) (cut : List Nat) (WW : XK) (n : Nat) (L : XLs) (st : List XV) (M : XM) : yru (xlk (pX8_minute Post)) cut WW (n + 1) 20 L st M = j_V0 20 sX8_cookAll 20 L st M (ykk (xlk (pX8_minute Post)) cut WW n) := yf rfl
theorem fX8_minute_23 (Post : XPo) (cut : List Nat) (WW : XK) (n : Nat) (L : XLs) (st : List XV) (M : XM) : yru (xlk (pX8_minute Post)) cut WW (n + 1) 23 L st M = j_ald 0 1 23 L st M (ykk (xlk (pX8_minute Post)) cut WW n) := yf rfl
theorem fX8_minute_24 (Post : XPo) (cut : List Nat) (WW : XK) (n : Nat) (L : XLs) (st : List XV) (M : XM) : yru (xlk (pX8_minute Post)) cut WW (n + 1) 24 L st M = j_V0 20 sX8_throwAway 24 L st M (ykk (xlk (pX8_minute Post)) cut WW n) := yf rfl
theorem fX8_minute_27 (Post : XPo) (cut : List Nat) (WW : XK) (n : Nat) (L : XLs) (st : List XV) (M : XM) : yru (xlk (pX8_minute Post)) cut WW (n + 1) 27 L st M = j_ald 0 1 27 L st M (ykk (xlk (pX8_minute Post)) cut WW n) := yf rfl
theorem fX8_minute_28 (Post : XPo) (cut : List Nat) (WW : XK) (n : Nat) (L : XLs) (st : List XV) (M : XM) : yru (xlk (pX8_minute Post)) cut WW (n + 1) 28 L st M = j_V0 20 sX8_callAll 28 L st M (ykk (xlk (pX8_minute Post)) cut WW n) := yf rfl
theorem fX8_minute_31 (Post : XPo) (cut : List Nat) (WW : XK) (n : Nat) (L : XLs) (st : List XV) (M : XM) : yru (xlk (pX8_minute Post)) cut WW (n + 1) 31 L st M = j_ald 0 1 31 L st M (ykk (xlk (pX8_minute Post)) cut WW n) := yf rfl
theorem fX8_minute_32 (Post : XPo) (cut : List Nat) (WW : XK) (n : Nat) (L : XLs) (st : List XV) (M : XM) : yru (xlk (pX8_minute Post)) cut WW (n + 1) 32 L st M = j_V0 20 sX8_serveAll 32 L st M (ykk (xlk (pX8_minute Post)) cut WW n) := yf rfl
theorem fX8_minute_35 (Post : XPo) (cut : List Nat) (WW : XK) (n : Nat) (L : XLs) (st : List XV) (M : XM) : yru (xlk (pX8_minute Post)) cut WW (n + 1) 35 L st M = j_ald 0 1 35 L st M (ykk (xlk (pX8_minute Post)) cut WW n) := yf rfl
theorem fX8_minute_36 (Post : XPo) (cut : List Nat) (WW : XK) (n : Nat) (L : XLs) (st : List XV) (M : XM) : yru (xlk (pX8_minute Post)) cut WW (n + 1) 36 L st M = j_V0 20 sX8_fine 36 L st M (ykk (xlk (pX8_minute Post)) cut WW n) := yf rfl
theorem fX8_minute_39 (Post : XPo) (cut : List Nat) (WW : XK) (n : Nat) (L : XLs) (st : List XV) (M : XM) : yru (xlk (pX8_minute Post)) cut WW (n + 1) 39 L st M = j_ret0 Post 39 L st M (ykk (xlk (pX8_minute Post)) cut WW n) := yf rfl
def sX8_minute : XSp := xq0 20 (fun _ _ M Q => ∃ (F : XM) (f c b : Int) (P : Int → Int), (GZ 60 F f (M 21 0 0) ∧ fI c b F f ∧ c + 3600 ≤ 80000000 ∧ b + 60 ≤ 2000000 ∧ F 1 f 0 0 < 30000 ∧ grOK P (M 20 0 0 7) (F 1 f 0 10) ∧ 0 ≤ M 20 0 0 6 ∧ M 20 0 0 6 ≤ 100000) ∧ (∀ M' : XM, zf6 M M' → M' 20 0 0 6 = lgR P (fPass F f) f (F 1 f 0 10).toNat 0 (M 20 0 0 6) → 0 ≤ M' 20 0 0 6 ∧ M' 20 0 0 6 ≤ 100000 → GZ 60 (fPass F f) f (M' 21 0 0) → Q [] M'))
theorem xg_minute {F : XM}{f c b : Int}{P : Int → Int} {M : XM} {Q : XPo} (hc : GZ 60 F f (M 21 0 0) ∧ fI c b F f ∧ c + 3600 ≤ 80000000 ∧ b + 60 ≤ 2000000 ∧ F 1 f 0 0 < 30000 ∧ grOK P (M 20 0 0 7) (F 1 f 0 10) ∧ 0 ≤ M 20 0 0 6 ∧ M 20 0 0 6 ≤ 100000) (h : ∀ M' : XM, zf6 M M' → M' 20 0 0 6 = lgR P (fPass F f) f (F 1 f 0 10).toNat 0 (M 20 0 0 6) → 0 ≤ M' 20 0 0 6 ∧ M' 20 0 0 6 ≤ 100000 → GZ 60 (fPass F f) f (M' 21 0 0) → Q [] M') : sX8_minute [xR 20 0 0] M Q := @id ((20 = 20 ∧ xval 20 0 0) ∧ ∃ (F : XM) (f c b : Int) (P : Int → Int), (GZ 60 F f (M 21 0 0) ∧ fI c b F f ∧ c + 3600 ≤ 80000000 ∧ b + 60 ≤ 2000000 ∧ F 1 f 0 0 < 30000 ∧ grOK P (M 20 0 0 7) (F 1 f 0 10) ∧ 0 ≤ M 20 0 0 6 ∧ M 20 0 0 6 ≤ 100000) ∧ (∀ M' : XM, zf6 M M' → M' 20 0 0 6 = lgR P (fPass F f) f (F 1 f 0 10).toNat 0 (M 20 0 0 6) → 0 ≤ M' 20 0 0 6 ∧ M' 20 0 0 6 ≤ 100000 → GZ 60 (fPass F f) f (M' 21 0 0) → Q [] M')) ⟨⟨rfl, xvz_20⟩, F, f, c, b, P, hc, h⟩
set_option maxRecDepth 100000 in
theorem kX8_minute : XCn yX8_minute wX8_minute rX8_minute sX8_minute := XC0 pX8_minute rfl rfl aX8_minute (by decide) (fun i0 k0 M Post hv h WW hC => by
  obtain ⟨rfl, rfl⟩ := xk20 hv
  obtain ⟨F, f, c, b, P, ⟨hz, hG, hc, hb, hm, hg, hl⟩, h⟩ := h
  have hd := GZ_min hz hG.1
  have hc0 := GZ_new0 hz hG.1
  have m0 := hG.1.2.2.2.2.1
  have z10 := hz.2.2.1.2.2.2.2
  obtain ⟨F1, eF1⟩ : ∃ F1 : XM, F1 = xup F 1 f 0 0 (F 1 f 0 0 + 1) := ⟨_, rfl⟩
  rw [← eF1] at hd hc0
  have hG1 : fI c b F1 f := by rw [eF1]; exact fI_min (by omega) (by omega) hG
  rw [← xup_sup] at hd
  obtain ⟨M1, eM1⟩ : ∃ M1 : XM, M1 = xup M 21 0 0 10 (M 21 0 0 10 + 1) := ⟨_, rfl⟩
  rw [← eM1] at hd
  have hcl : ∀ s d : Int, 0 ≤ s → s < 7 → 0 ≤ d → d ≤ 2 → M1 21 0 0 (217 + 192 * s + mS d (M1 21 0 0 10)) = 0 := fun s d a1 a2 a3 a4 => GZ_clear hd hc0 a1 a2 a3 a4
  have hB1 := GZ_zB hd hG1.1
  have f1 : zfr M M1 := by rw [eM1]; exact zfr_xup _ _ _
  show WW 0 [some (xR 20 0 0)] [] M
  refine yru_ok hC [] 60 _ _ _ _ ?_
  simp only [ykk_ap, Int.reduceEq, Int.reduceLT, Int.reduceLE, Int.reduceNeg, Int.reduceAdd, Int.reduceSub, Int.reduceMul, and_self, false_and, and_false, not_true_eq_false, not_false_eq_true, true_implies, false_implies, xq0, xq1, xq2, xq3, xq4, xq5, xqR, xq1R, xq3R, xt1, xt2, xt3, List.mem_cons, List.not_mem_nil, or_false, false_or, or_self, if_false, if_true, reduceIte, reduceCtorEq, xent, xen, List.length_cons, List.length_nil, List.replicate, j_c, j_cJ, j_ild, j_ald, j_lld, j_ist, j_ast, j_lst, j_inc, j_add, j_sub, j_mul, j_neg, j_div, j_rem, j_and, j_shr, j_shl1, j_or, j_ladd, j_lsub, j_lmul, j_i2l, j_lcmp, j_i2c, j_dup, j_dup2, j_pop, j_goto, j_ieq, j_ine, j_ilt, j_ige, j_igt, j_ile, j_eq, j_ne, j_lt, j_ge, j_gt, j_le, xsw, j_tsw, j_lsw2, j_gI, j_gJ, j_gR, j_pI, j_pJ, j_gs, j_iald, j_iast, j_cald, j_cast, j_lald, j_last, j_aald, j_cpy, j_min, j_max, j_abs, j_iret, j_zret, j_lret, j_dret, j_ret0, j_V0, j_V1, j_V2, j_V3, j_V4, j_V5, j_S1, j_S2, j_S3, xget, xset, xset2, xclr, xc1, xcat, Nat.reduceAdd, Nat.reduceEqDiff, Nat.reduceLT, Nat.reduceLeDiff, Nat.reduceMul, List.cons_append, List.nil_append, true_and, and_true, List.singleton_append, fX8_minute_0, fX8_minute_1, fX8_minute_4, fX8_minute_6, fX8_minute_7, fX8_minute_8, fX8_minute_9, fX8_minute_10, fX8_minute_11, fX8_minute_12, fX8_minute_15, fX8_minute_16, fX8_minute_19, fX8_minute_20, fX8_minute_23, fX8_minute_24, fX8_minute_27, fX8_minute_28, fX8_minute_31, fX8_minute_32, fX8_minute_35, fX8_minute_36, fX8_minute_39, sX8_clearMinute, xvz_20, xvz_21, xrz_21, xdz_21, xlen, xcat, xc1, Nat.zero_le, Nat.reduceLeDiff, ← eM1, hB1, hcl, implies_true]
  refine ⟨hcl, ?_⟩
  refine xg_moveLorries ⟨hd, hG1⟩ (fun M2 f2 z2 => ?_)
  have G2 := fI_pDrive hG1
  simp only [ykk_ap, Int.reduceEq, Int.reduceLT, Int.reduceLE, Int.reduceNeg, Int.reduceAdd, Int.reduceSub, Int.reduceMul, and_self, false_and, and_false, not_true_eq_false, not_false_eq_true, true_implies, false_implies, xq0, xq1, xq2, xq3, xq4, xq5, xqR, xq1R, xq3R, xt1, xt2, xt3, List.mem_cons, List.not_mem_nil, or_false, false_or, or_self, if_false, if_true, reduceIte, reduceCtorEq, xent, xen, List.length_cons, List.length_nil, List.replicate, j_c, j_cJ, j_ild, j_ald, j_lld, j_ist, j_ast, j_lst, j_inc, j_add, j_sub, j_mul, j_neg, j_div, j_rem, j_and, j_shr, j_shl1, j_or, j_ladd, j_lsub, j_lmul, j_i2l, j_lcmp, j_i2c, j_dup, j_dup2, j_pop, j_goto, j_ieq, j_ine, j_ilt, j_ige, j_igt, j_ile, j_eq, j_ne, j_lt, j_ge, j_gt, j_le, xsw, j_tsw, j_lsw2, j_gI, j_gJ, j_gR, j_pI, j_pJ, j_gs, j_iald, j_iast, j_cald, j_cast, j_lald, j_last, j_aald, j_cpy, j_min, j_max, j_abs, j_iret, j_zret, j_lret, j_dret, j_ret0, j_V0, j_V1, j_V2, j_V3, j_V4, j_V5, j_S1, j_S2, j_S3, xget, xset, xset2, xclr, xc1, xcat, Nat.reduceAdd, Nat.reduceEqDiff, Nat.reduceLT, Nat.reduceLeDiff, Nat.reduceMul, List.cons_append, List.nil_append, true_and, and_true, List.singleton_append, fX8_minute_0, fX8_minute_1, fX8_minute_4, fX8_minute_6, fX8_minute_7, fX8_minute_8, fX8_minute_9, fX8_minute_10, fX8_minute_11, fX8_minute_12, fX8_minute_15, fX8_minute_16, fX8_minute_19, fX8_minute_20, fX8_minute_23, fX8_minute_24, fX8_minute_27, fX8_minute_28, fX8_minute_31, fX8_minute_32, fX8_minute_35, fX8_minute_36, fX8_minute_39, sX8_clearMinute, xvz_20, xvz_21, xrz_21, xdz_21, xlen, xcat, xc1, Nat.zero_le, Nat.reduceLeDiff]
  refine xg_cookAll ⟨by decide, z2, G2, hb⟩ (fun M3 f3 z3 => ?_)
  have G3 := fI_pCook G2
  simp only [ykk_ap, Int.reduceEq, Int.reduceLT, Int.reduceLE, Int.reduceNeg, Int.reduceAdd, Int.reduceSub, Int.reduceMul, and_self, false_and, and_false, not_true_eq_false, not_false_eq_true, true_implies, false_implies, xq0, xq1, xq2, xq3, xq4, xq5, xqR, xq1R, xq3R, xt1, xt2, xt3, List.mem_cons, List.not_mem_nil, or_false, false_or, or_self, if_false, if_true, reduceIte, reduceCtorEq, xent, xen, List.length_cons, List.length_nil, List.replicate, j_c, j_cJ, j_ild, j_ald, j_lld, j_ist, j_ast, j_lst, j_inc, j_add, j_sub, j_mul, j_neg, j_div, j_rem, j_and, j_shr, j_shl1, j_or, j_ladd, j_lsub, j_lmul, j_i2l, j_lcmp, j_i2c, j_dup, j_dup2, j_pop, j_goto, j_ieq, j_ine, j_ilt, j_ige, j_igt, j_ile, j_eq, j_ne, j_lt, j_ge, j_gt, j_le, xsw, j_tsw, j_lsw2, j_gI, j_gJ, j_gR, j_pI, j_pJ, j_gs, j_iald, j_iast, j_cald, j_cast, j_lald, j_last, j_aald, j_cpy, j_min, j_max, j_abs, j_iret, j_zret, j_lret, j_dret, j_ret0, j_V0, j_V1, j_V2, j_V3, j_V4, j_V5, j_S1, j_S2, j_S3, xget, xset, xset2, xclr, xc1, xcat, Nat.reduceAdd, Nat.reduceEqDiff, Nat.reduceLT, Nat.reduceLeDiff, Nat.reduceMul, List.cons_append, List.nil_append, true_and, and_true, List.singleton_append, fX8_minute_0, fX8_minute_1, fX8_minute_4, fX8_minute_6, fX8_minute_7, fX8_minute_8, fX8_minute_9, fX8_minute_10, fX8_minute_11, fX8_minute_12, fX8_minute_15, fX8_minute_16, fX8_minute_19, fX8_minute_20, fX8_minute_23, fX8_minute_24, fX8_minute_27, fX8_minute_28, fX8_minute_31, fX8_minute_32, fX8_minute_35, fX8_minute_36, fX8_minute_39, sX8_clearMinute, xvz_20, xvz_21, xrz_21, xdz_21, xlen, xcat, xc1, Nat.zero_le, Nat.reduceLeDiff]
  refine xg_throwAway ⟨z3, G3, hb⟩ (fun M4 f4 z4 => ?_)
  have G4 := fI_pThrow G3
  simp only [ykk_ap, Int.reduceEq, Int.reduceLT, Int.reduceLE, Int.reduceNeg, Int.reduceAdd, Int.reduceSub, Int.reduceMul, and_self, false_and, and_false, not_true_eq_false, not_false_eq_true, true_implies, false_implies, xq0, xq1, xq2, xq3, xq4, xq5, xqR, xq1R, xq3R, xt1, xt2, xt3, List.mem_cons, List.not_mem_nil, or_false, false_or, or_self, if_false, if_true, reduceIte, reduceCtorEq, xent, xen, List.length_cons, List.length_nil, List.replicate, j_c, j_cJ, j_ild, j_ald, j_lld, j_ist, j_ast, j_lst, j_inc, j_add, j_sub, j_mul, j_neg, j_div, j_rem, j_and, j_shr, j_shl1, j_or, j_ladd, j_lsub, j_lmul, j_i2l, j_lcmp, j_i2c, j_dup, j_dup2, j_pop, j_goto, j_ieq, j_ine, j_ilt, j_ige, j_igt, j_ile, j_eq, j_ne, j_lt, j_ge, j_gt, j_le, xsw, j_tsw, j_lsw2, j_gI, j_gJ, j_gR, j_pI, j_pJ, j_gs, j_iald, j_iast, j_cald, j_cast, j_lald, j_last, j_aald, j_cpy, j_min, j_max, j_abs, j_iret, j_zret, j_lret, j_dret, j_ret0, j_V0, j_V1, j_V2, j_V3, j_V4, j_V5, j_S1, j_S2, j_S3, xget, xset, xset2, xclr, xc1, xcat, Nat.reduceAdd, Nat.reduceEqDiff, Nat.reduceLT, Nat.reduceLeDiff, Nat.reduceMul, List.cons_append, List.nil_append, true_and, and_true, List.singleton_append, fX8_minute_0, fX8_minute_1, fX8_minute_4, fX8_minute_6, fX8_minute_7, fX8_minute_8, fX8_minute_9, fX8_minute_10, fX8_minute_11, fX8_minute_12, fX8_minute_15, fX8_minute_16, fX8_minute_19, fX8_minute_20, fX8_minute_23, fX8_minute_24, fX8_minute_27, fX8_minute_28, fX8_minute_31, fX8_minute_32, fX8_minute_35, fX8_minute_36, fX8_minute_39, sX8_clearMinute, xvz_20, xvz_21, xrz_21, xdz_21, xlen, xcat, xc1, Nat.zero_le, Nat.reduceLeDiff]
  refine xg_callAll ⟨z4, G4, hc⟩ (fun M5 f5 z5 => ?_)
  have G5 := fI_pCall G4
  simp only [ykk_ap, Int.reduceEq, Int.reduceLT, Int.reduceLE, Int.reduceNeg, Int.reduceAdd, Int.reduceSub, Int.reduceMul, and_self, false_and, and_false, not_true_eq_false, not_false_eq_true, true_implies, false_implies, xq0, xq1, xq2, xq3, xq4, xq5, xqR, xq1R, xq3R, xt1, xt2, xt3, List.mem_cons, List.not_mem_nil, or_false, false_or, or_self, if_false, if_true, reduceIte, reduceCtorEq, xent, xen, List.length_cons, List.length_nil, List.replicate, j_c, j_cJ, j_ild, j_ald, j_lld, j_ist, j_ast, j_lst, j_inc, j_add, j_sub, j_mul, j_neg, j_div, j_rem, j_and, j_shr, j_shl1, j_or, j_ladd, j_lsub, j_lmul, j_i2l, j_lcmp, j_i2c, j_dup, j_dup2, j_pop, j_goto, j_ieq, j_ine, j_ilt, j_ige, j_igt, j_ile, j_eq, j_ne, j_lt, j_ge, j_gt, j_le, xsw, j_tsw, j_lsw2, j_gI, j_gJ, j_gR, j_pI, j_pJ, j_gs, j_iald, j_iast, j_cald, j_cast, j_lald, j_last, j_aald, j_cpy, j_min, j_max, j_abs, j_iret, j_zret, j_lret, j_dret, j_ret0, j_V0, j_V1, j_V2, j_V3, j_V4, j_V5, j_S1, j_S2, j_S3, xget, xset, xset2, xclr, xc1, xcat, Nat.reduceAdd, Nat.reduceEqDiff, Nat.reduceLT, Nat.reduceLeDiff, Nat.reduceMul, List.cons_append, List.nil_append, true_and, and_true, List.singleton_append, fX8_minute_0, fX8_minute_1, fX8_minute_4, fX8_minute_6, fX8_minute_7, fX8_minute_8, fX8_minute_9, fX8_minute_10, fX8_minute_11, fX8_minute_12, fX8_minute_15, fX8_minute_16, fX8_minute_19, fX8_minute_20, fX8_minute_23, fX8_minute_24, fX8_minute_27, fX8_minute_28, fX8_minute_31, fX8_minute_32, fX8_minute_35, fX8_minute_36, fX8_minute_39, sX8_clearMinute, xvz_20, xvz_21, xrz_21, xdz_21, xlen, xcat, xc1, Nat.zero_le, Nat.reduceLeDiff]
  refine xg_serveAll ⟨z5, G5, hc, hb⟩ (fun M6 f6 z6 => ?_)
  have G6 := fI_pServe G5
  simp only [ykk_ap, Int.reduceEq, Int.reduceLT, Int.reduceLE, Int.reduceNeg, Int.reduceAdd, Int.reduceSub, Int.reduceMul, and_self, false_and, and_false, not_true_eq_false, not_false_eq_true, true_implies, false_implies, xq0, xq1, xq2, xq3, xq4, xq5, xqR, xq1R, xq3R, xt1, xt2, xt3, List.mem_cons, List.not_mem_nil, or_false, false_or, or_self, if_false, if_true, reduceIte, reduceCtorEq, xent, xen, List.length_cons, List.length_nil, List.replicate, j_c, j_cJ, j_ild, j_ald, j_lld, j_ist, j_ast, j_lst, j_inc, j_add, j_sub, j_mul, j_neg, j_div, j_rem, j_and, j_shr, j_shl1, j_or, j_ladd, j_lsub, j_lmul, j_i2l, j_lcmp, j_i2c, j_dup, j_dup2, j_pop, j_goto, j_ieq, j_ine, j_ilt, j_ige, j_igt, j_ile, j_eq, j_ne, j_lt, j_ge, j_gt, j_le, xsw, j_tsw, j_lsw2, j_gI, j_gJ, j_gR, j_pI, j_pJ, j_gs, j_iald, j_iast, j_cald, j_cast, j_lald, j_last, j_aald, j_cpy, j_min, j_max, j_abs, j_iret, j_zret, j_lret, j_dret, j_ret0, j_V0, j_V1, j_V2, j_V3, j_V4, j_V5, j_S1, j_S2, j_S3, xget, xset, xset2, xclr, xc1, xcat, Nat.reduceAdd, Nat.reduceEqDiff, Nat.reduceLT, Nat.reduceLeDiff, Nat.reduceMul, List.cons_append, List.nil_append, true_and, and_true, List.singleton_append, fX8_minute_0, fX8_minute_1, fX8_minute_4, fX8_minute_6, fX8_minute_7, fX8_minute_8, fX8_minute_9, fX8_minute_10, fX8_minute_11, fX8_minute_12, fX8_minute_15, fX8_minute_16, fX8_minute_19, fX8_minute_20, fX8_minute_23, fX8_minute_24, fX8_minute_27, fX8_minute_28, fX8_minute_31, fX8_minute_32, fX8_minute_35, fX8_minute_36, fX8_minute_39, sX8_clearMinute, xvz_20, xvz_21, xrz_21, xdz_21, xlen, xcat, xc1, Nat.zero_le, Nat.reduceLeDiff]
  have fr := zfr_trans f1 (zfr_trans f2 (zfr_trans f3 (zfr_trans f4 (zfr_trans f5 f6))))
  have e20 : M6 20 = M 20 := fr 20 (by decide)
  have ecnt : (pServe (pCall (pThrow (pCook (pDrive F1 f) f) f) f) f) 1 f 0 10 = F 1 f 0 10 := by
    rw [pServe_1, pCall_1 _ _ _ (by decide), pThrow_1, pCook_1, pDrive_1, eF1, xup_app, if_neg (fun q => absurd q.2.2.2 (by decide))]
  have efp : fPass F f = pPunish (pServe (pCall (pThrow (pCook (pDrive F1 f) f) f) f) f) f := by
    unfold fPass
    rw [← eF1]
  refine xg_fine (P := P) ⟨z6, G6, hc, by rw [e20, ecnt]; exact hg, by rw [e20]; exact hl⟩ (fun M7 f7 l7 b7 z7 => ?_)
  have hend := h M7 (zf6_trans (zf6_of fr) f7) (by
    rw [l7, efp, lgR_congr (fun u => pPunish_8 _ f u) (by rw [pPunish_1]), ecnt, e20]) b7 (by
    rw [efp]
    exact z7)
  simp only [ykk_ap, Int.reduceEq, Int.reduceLT, Int.reduceLE, Int.reduceNeg, Int.reduceAdd, Int.reduceSub, Int.reduceMul, and_self, false_and, and_false, not_true_eq_false, not_false_eq_true, true_implies, false_implies, xq0, xq1, xq2, xq3, xq4, xq5, xqR, xq1R, xq3R, xt1, xt2, xt3, List.mem_cons, List.not_mem_nil, or_false, false_or, or_self, if_false, if_true, reduceIte, reduceCtorEq, xent, xen, List.length_cons, List.length_nil, List.replicate, j_c, j_cJ, j_ild, j_ald, j_lld, j_ist, j_ast, j_lst, j_inc, j_add, j_sub, j_mul, j_neg, j_div, j_rem, j_and, j_shr, j_shl1, j_or, j_ladd, j_lsub, j_lmul, j_i2l, j_lcmp, j_i2c, j_dup, j_dup2, j_pop, j_goto, j_ieq, j_ine, j_ilt, j_ige, j_igt, j_ile, j_eq, j_ne, j_lt, j_ge, j_gt, j_le, xsw, j_tsw, j_lsw2, j_gI, j_gJ, j_gR, j_pI, j_pJ, j_gs, j_iald, j_iast, j_cald, j_cast, j_lald, j_last, j_aald, j_cpy, j_min, j_max, j_abs, j_iret, j_zret, j_lret, j_dret, j_ret0, j_V0, j_V1, j_V2, j_V3, j_V4, j_V5, j_S1, j_S2, j_S3, xget, xset, xset2, xclr, xc1, xcat, Nat.reduceAdd, Nat.reduceEqDiff, Nat.reduceLT, Nat.reduceLeDiff, Nat.reduceMul, List.cons_append, List.nil_append, true_and, and_true, List.singleton_append, fX8_minute_0, fX8_minute_1, fX8_minute_4, fX8_minute_6, fX8_minute_7, fX8_minute_8, fX8_minute_9, fX8_minute_10, fX8_minute_11, fX8_minute_12, fX8_minute_15, fX8_minute_16, fX8_minute_19, fX8_minute_20, fX8_minute_23, fX8_minute_24, fX8_minute_27, fX8_minute_28, fX8_minute_31, fX8_minute_32, fX8_minute_35, fX8_minute_36, fX8_minute_39, sX8_clearMinute, xvz_20, xvz_21, xrz_21, xdz_21, xlen, xcat, xc1, Nat.zero_le, Nat.reduceLeDiff]
  exact hend)
end XRd

