section XN6
/-! the whole minute -/
theorem pun_at (u : Int) (N : XM) (v s : Int) : pun 0 u N 14 0 v s = if v = u ∧ s = 10 then pv N u else N 14 0 v s := by
  unfold pun pv
  by_cases c : ¬ N 14 0 u 8 = -1 ∧ N 2 0 0 1 < N 1 0 0 0 - N 14 0 u 8
  · rw [if_pos c, if_pos c]
    simp only [xup_app, true_and]
  · rw [if_neg c, if_neg c]
    split
    next z => rw [z.1, z.2]
    next => rfl
theorem pv_pun {u v : Int} {N : XM} (h : ¬ v = u) : pv (pun 0 u N) v = pv N v := by
  have e : ∀ s : Int, pun 0 u N 14 0 v s = N 14 0 v s := fun s => by rw [pun_at, if_neg (fun z => h z.1)]
  unfold pv
  rw [e, e, e, e, pun_tag (by decide), pun_tag (by decide)]
theorem xit_pun_at : ∀ (n : Nat) (u : Int) (N : XM) (v s : Int), xit (pun 0) n u N 14 0 v s = if s = 10 ∧ u ≤ v ∧ v < u + n then pv N v else N 14 0 v s
  | 0, u, N, v, s => by
    rw [if_neg (by omega)]
    rfl
  | n + 1, u, N, v, s => by
    show xit (pun 0) n (u + 1) (pun 0 u N) 14 0 v s = _
    rw [xit_pun_at n (u + 1) (pun 0 u N) v s, pun_at]
    by_cases e : v = u
    · subst e
      rw [if_neg (by omega)]
      by_cases s10 : s = 10
      · rw [if_pos ⟨rfl, s10⟩, if_pos ⟨s10, by omega, by omega⟩]
      · rw [if_neg (fun z => s10 z.2), if_neg (fun z => s10 z.1)]
    · rw [if_neg (show ¬ (v = u ∧ s = 10) from fun z => e z.1), pv_pun e]
      by_cases c : s = 10 ∧ u + 1 ≤ v ∧ v < u + 1 + n
      · rw [if_pos c, if_pos ⟨c.1, by omega, by omega⟩]
      · rw [if_neg c, if_neg (fun z => c ⟨z.1, by omega, by omega⟩)]
theorem xit_pun_t (n : Nat) (u : Int) (N : XM) {t : Nat} (h : ¬ t = 14) : xit (pun 0) n u N t = N t :=
  xit_ind (P := fun N' => N' t = N t) (lo := u) (hi := u + n) (fun v N' _ _ e => by rw [pun_tag h]; exact e) n u N (Int.le_refl _) (Int.le_refl _) rfl
theorem RY_pun {a w n3 : Int} {d : Int → Int} {N M : XM} {F : Int → Int} {T : Int} (h : RY a d w (Gp n3 N) M F T) (hn : N 1 0 0 10 = n3) (h0 : 0 ≤ n3) : RY a d w (pPunish N 0) M F T := by
  have q : ∀ t : Nat, ¬ t = 14 → pPunish N 0 t = Gp n3 N t := fun t ht => by
    unfold pPunish
    rw [xit_pun_t _ _ _ ht, Gp_t ht]
  refine RY_cg (fun s => by rw [q 1 (by decide)]) (q 2 (by decide)) (q 3 (by decide)) (q 4 (by decide)) (q 15 (by decide)) (q 8 (by decide)) (q 9 (by decide)) (fun l s _ => by rw [q 13 (by decide)]) (fun v s v0 v5 s0 s1 => ?_) (fun j x _ _ _ => by rw [q 11 (by decide)]) h
  unfold pPunish
  rw [xit_pun_at, hn]
  by_cases s10 : s = 10
  · subst s10
    rw [Gp_10 v0]
    by_cases c : v < n3
    · rw [if_pos c, if_pos ⟨rfl, v0, by omega⟩]
    · rw [if_neg c, if_neg (by omega)]
  · rw [Gp_s s10, if_neg (fun z => s10 z.1)]
theorem RY_Gp0 {a w : Int} {d : Int → Int} {G M : XM} {F : Int → Int} {T : Int} (h : RY a d w G M F T) : RY a d w (Gp 0 G) M F T := by
  refine RY_cg (fun s => by rw [Gp_t (by decide)]) (Gp_t (by decide)) (Gp_t (by decide)) (Gp_t (by decide)) (Gp_t (by decide)) (Gp_t (by decide)) (Gp_t (by decide)) (fun l s _ => by rw [Gp_t (by decide)]) (fun v s v0 v5 s0 s1 => ?_) (fun j x _ _ _ => by rw [Gp_t (by decide)]) h
  by_cases s10 : s = 10
  · subst s10
    rw [Gp_10 v0, if_neg (by omega)]
  · rw [Gp_s s10]
theorem RY_d {a w : Int} {d d' : Int → Int} {G M : XM} {F : Int → Int} {T : Int} (h : RY a d w G M F T) (e : ∀ u : Int, 0 ≤ u → u < M 20 0 0 3 → d' u = d u) : RY a d' w G M F T := by
  obtain ⟨q1, q2, q3, q4, q5, q6, q7, q8, q9⟩ := h
  exact ⟨q1, q2, q3, q4, fun u u0 u5 => ⟨fun z => by rw [e u u0 z]; exact (q5 u u0 u5).1 z, (q5 u u0 u5).2⟩, q6, q7, q8, q9⟩
/-- the next minute begins -/
theorem RY_next {a : Int} {G M : XM} {F : Int → Int} {T : Int} (h : RY a (fun _ => 1) 40 G M F T) : RY a (fun _ => 0) 41 (xup G 1 0 0 0 (G 1 0 0 0 + 1)) (xup M 20 0 0 4 (M 20 0 0 4 + 1)) F T := by
  obtain ⟨q1, q2, q3, q4, q5, q6, q7, q8, q9⟩ := h
  have g : ∀ t : Nat, ¬ t = 1 → xup G 1 0 0 0 (G 1 0 0 0 + 1) t = G t := fun t z => xup_tag z
  have m : ∀ t : Nat, ¬ t = 20 → xup M 20 0 0 4 (M 20 0 0 4 + 1) t = M t := fun t z => xup_tag z
  have m20 : ∀ s : Int, ¬ s = 4 → xup M 20 0 0 4 (M 20 0 0 4 + 1) 20 0 0 s = M 20 0 0 s := fun s z => by rw [xup_app, if_neg (fun y => z y.2.2.2)]
  have m4 : xup M 20 0 0 4 (M 20 0 0 4 + 1) 20 0 0 4 = M 20 0 0 4 + 1 := by rw [xup_app, if_pos ⟨rfl, rfl, rfl, rfl⟩]
  have g1 : ∀ s : Int, ¬ s = 0 → xup G 1 0 0 0 (G 1 0 0 0 + 1) 1 0 0 s = G 1 0 0 s := fun s z => by rw [xup_app, if_neg (fun y => z y.2.2.2)]
  have g10 : xup G 1 0 0 0 (G 1 0 0 0 + 1) 1 0 0 0 = G 1 0 0 0 + 1 := by rw [xup_app, if_pos ⟨rfl, rfl, rfl, rfl⟩]
  refine ⟨?_, rP_c (g 3 (by decide)) (g 4 (by decide)) (m20 0 (by decide)) (m 21 (by decide)) q2, fun k b c => rK1_c (fun s _ => by rw [g 8 (by decide)]) (fun x => by rw [g 9 (by decide)]) (m20 0 (by decide)) (by rw [m 22 (by decide)]) (fun x _ _ => by rw [m 23 (by decide)]) (by rw [m 24 (by decide)]) (by rw [m 25 (by decide)]) (q3 k b c), fun l b c => rL1_c (fun s _ => by rw [g 13 (by decide)]) (m20 0 (by decide)) (by rw [m 26 (by decide)]) (by rw [m 27 (by decide)]) (q4 l b c), fun u u0 u5 => ?_, rT_c (fun k s _ => by rw [g 8 (by decide)]) (fun l => by rw [g 13 (by decide)]) (fun u s _ _ _ => by rw [g 14 (by decide)]) (g1 1 (by decide)) (fun s z _ => m20 s (by omega)) q6, BM_c (m20 12 (by decide)) (m 29 (by decide)) q7, ?_, ?_⟩
  · obtain ⟨c1, c2, c3, c4, c5', c6, c7, c8⟩ := q1
    unfold rC
    rw [m20 0 (by decide), m20 1 (by decide), m20 2 (by decide), m20 3 (by decide), m4, m20 5 (by decide), m20 6 (by decide), m20 7 (by decide), m20 8 (by decide), m20 9 (by decide), m20 10 (by decide), m20 11 (by decide), g 2 (by decide), g 15 (by decide), g1 3 (by decide), g1 6 (by decide), g1 8 (by decide), g1 10 (by decide), g10]
    exact ⟨c1, c2, c3, c4, c5', ⟨c6.1, c6.2.1, c6.2.2.1, c6.2.2.2.1, by omega⟩, by omega, c8⟩
  · rw [m20 3 (by decide)]
    obtain ⟨p1, p2⟩ := q5 u u0 u5
    refine ⟨fun z => ?_, fun z => rU0_c (fun s _ _ => by rw [g 14 (by decide)]) (p2 z)⟩
    obtain ⟨a1, b, c, d, e, f⟩ := p1 z
    have ex : ∀ s : Int, xU (xup M 20 0 0 4 (M 20 0 0 4 + 1)) u s = xU M u s := fun s => xU_c (m 28 (by decide)) u s
    unfold rU1
    simp only [ex, m4, m20 0 (by decide), g 14 (by decide)]
    refine ⟨a1, b, by omega, d, fun y => ?_, f⟩
    obtain ⟨e1, e2, e3, e4, e5, e6, e7, e8, e9⟩ := e y
    have e4' : M 20 0 0 4 + 1 ≤ xU M u 4 := e4
    exact ⟨e1, e2, e3, (show M 20 0 0 4 + 1 + 0 ≤ xU M u 4 by omega), e5, e6, e7, by omega, e9⟩
  · rw [m4]
    refine ⟨fun q hq => ?_, fun j hj x x0 x1 => ?_⟩
    · have := q8.1 q hq
      exact ⟨this.1, this.2.1, by omega, by omega⟩
    · rw [g 11 (by decide), q8.2 j hj x x0 x1]
      have k1 := kx_st (t := M 20 0 0 4) (stc_in hj) x0 x1
      have k2 := kx_st (t := M 20 0 0 4 + 1) (stc_in hj) x0 x1
      by_cases c : (M 20 0 0 4 - x) % 64 = 63
      · have z1 : F (kx (M 20 0 0 4) (stc j) x) = 0 := by
          by_cases z : F (kx (M 20 0 0 4) (stc j) x) = 0
          · exact z
          · have := q8.1 _ z
            omega
        have z2 : F (kx (M 20 0 0 4 + 1) (stc j) x) = 0 := by
          by_cases z : F (kx (M 20 0 0 4 + 1) (stc j) x) = 0
          · exact z
          · have := q8.1 _ z
            omega
        rw [z1, z2]
      · have e : kx (M 20 0 0 4 + 1) (stc j) x = kx (M 20 0 0 4) (stc j) x := by
          unfold kx
          have : (M 20 0 0 4 + 1 - x) % 64 = (M 20 0 0 4 - x) % 64 + 1 := by omega
          rw [this]
          omega
        rw [e]
  · obtain ⟨l1, l2, l3, l4, l5, l6⟩ := q9
    unfold rB
    rw [m20 13 (by decide), m20 15 (by decide), m20 16 (by decide), m20 3 (by decide), m20 12 (by decide), m 25 (by decide), g 14 (by decide), s5_congr (f := fun u => if u < M 20 0 0 3 then xU (xup M 20 0 0 4 (M 20 0 0 4 + 1)) u 4 else 0) (g := fun u => if u < M 20 0 0 3 then xU M u 4 else 0) (fun u _ _ => by rw [xU_c (m 28 (by decide))])]
    exact ⟨l1, l2, l3, l4, l5, l6⟩
set_option maxRecDepth 100000 in
theorem kL_min_E {Post : XPo} {WW : XK} (hC : XCl (xlk (pL_minute Post)) WW) {a t n3 P0 : Int} (ht1 : 1 ≤ t) (ht : t ≤ 2700) (hP : 2 * P0 ≤ 25 * ((t - 1) * (t - 1)) + 2600 * (t - 1)) : ∀ (n : Nat) (u : Int) (G M : XM) (F : Int → Int) (T : Int) (x9 : Option XV), RY a (fun _ => 1) 40 (Gp u G) M F T → 0 ≤ u → u + n = n3 → M 20 0 0 3 = n3 → M 20 0 0 4 = t → M 20 0 0 18 ≤ P0 + oZ u G → (∀ (M' : XM) (F' : Int → Int) (T' : Int), RY a (fun _ => 1) 40 (Gp n3 (xit (srv 0) n u G)) M' F' T' → M' 20 0 0 4 = t → M' 20 0 0 18 ≤ P0 + oZ n3 (xit (srv 0) n u G) → EQ M' M → Post [] M') → WW 349 [some (xR 20 0 0), some (xR 22 0 0), some (xR 24 0 0), some (xR 25 0 0), some (xR 26 0 0), some (xR 27 0 0), some (xR 28 0 0), some (xR 29 0 0), some (xI (12 * u)), x9] [] M := by
  intro n
  induction n with
  | zero =>
    intro u G M F T x9 hR h0 hu h3 h4 h18 h
    have e : u = n3 := by omega
    subst e
    have hn := hR.1.2.2.2.2.1
    rw [h3] at hn
    have hb := h M F T hR h4 h18 (EQ_refl M)
    have r3 : XInR (12 * u) := ⟨by omega, by omega⟩
    refine yru_ok hC [517, 360] 9 _ _ _ _ ?_
    simp only [ykk_ap, Int.reduceEq, Int.reduceLT, Int.reduceLE, Int.reduceNeg, Int.reduceAdd, Int.reduceSub, Int.reduceMul, and_self, false_and, and_false, not_true_eq_false, not_false_eq_true, true_implies, false_implies, xq0, xq1, xq2, xq3, xq4, xq5, xqR, xq1R, xq3R, xt1, xt2, xt3, List.mem_cons, List.not_mem_nil, or_false, false_or, or_self, if_false, if_true, reduceIte, reduceCtorEq, xent, xen, List.length_cons, List.length_nil, List.replicate, j_c, j_cJ, j_ild, j_ald, j_lld, j_ist, j_ast, j_lst, j_inc, j_add, j_sub, j_mul, j_neg, j_div, j_rem, j_and, j_shr, j_shl1, j_or, j_ladd, j_lsub, j_lmul, j_i2l, j_lcmp, j_i2c, j_dup, j_dup2, j_pop, j_goto, j_ieq, j_ine, j_ilt, j_ige, j_igt, j_ile, j_eq, j_ne, j_lt, j_ge, j_gt, j_le, xsw, j_tsw, j_gI, j_gJ, j_gR, j_pI, j_pJ, j_gs, j_iald, j_iast, j_cald, j_cast, j_aald, j_cpy, j_min, j_max, j_abs, j_iret, j_zret, j_lret, j_dret, j_ret0, j_V0, j_V1, j_V2, j_V3, j_V4, j_V5, j_S1, j_S2, j_S3, xget, xset, xset2, xclr, xc1, xcat, Nat.reduceAdd, Nat.reduceEqDiff, Nat.reduceLT, Nat.reduceLeDiff, Nat.reduceMul, List.cons_append, List.nil_append, true_and, and_true, List.singleton_append, j_lsw2, j_Sn, j_ush, j_dupx2, List.take_succ_cons, List.take_zero, List.drop_succ_cons, List.drop_zero, List.reverse_cons, List.reverse_nil, Nat.le_refl, fL_minute_349, fL_minute_351, fL_minute_353, fL_minute_354, fL_minute_355, fL_minute_356, fL_minute_357, xvz_20, xvz_21, xvz_22, xvz_23, xvz_24, xvz_25, xvz_26, xvz_27, xvz_28, xvz_29, xrz_20, xrz_21, xrz_22, xrz_23, xrz_24, xrz_25, xrz_26, xrz_27, xrz_28, xrz_29, xdz_20, xdz_21, xdz_22, xdz_23, xdz_24, xdz_25, xdz_26, xdz_27, xdz_28, xdz_29, xlen, xcat, xc1, Nat.zero_le, Nat.reduceLeDiff, List.length_cons, List.length_nil, r3, h3, Int.le_refl]
    refine yru_ok hC [] 3 _ _ _ _ ?_
    simp only [ykk_ap, Int.reduceEq, Int.reduceLT, Int.reduceLE, Int.reduceNeg, Int.reduceAdd, Int.reduceSub, Int.reduceMul, and_self, false_and, and_false, not_true_eq_false, not_false_eq_true, true_implies, false_implies, xq0, xq1, xq2, xq3, xq4, xq5, xqR, xq1R, xq3R, xt1, xt2, xt3, List.mem_cons, List.not_mem_nil, or_false, false_or, or_self, if_false, if_true, reduceIte, reduceCtorEq, xent, xen, List.length_cons, List.length_nil, List.replicate, j_c, j_cJ, j_ild, j_ald, j_lld, j_ist, j_ast, j_lst, j_inc, j_add, j_sub, j_mul, j_neg, j_div, j_rem, j_and, j_shr, j_shl1, j_or, j_ladd, j_lsub, j_lmul, j_i2l, j_lcmp, j_i2c, j_dup, j_dup2, j_pop, j_goto, j_ieq, j_ine, j_ilt, j_ige, j_igt, j_ile, j_eq, j_ne, j_lt, j_ge, j_gt, j_le, xsw, j_tsw, j_gI, j_gJ, j_gR, j_pI, j_pJ, j_gs, j_iald, j_iast, j_cald, j_cast, j_aald, j_cpy, j_min, j_max, j_abs, j_iret, j_zret, j_lret, j_dret, j_ret0, j_V0, j_V1, j_V2, j_V3, j_V4, j_V5, j_S1, j_S2, j_S3, xget, xset, xset2, xclr, xc1, xcat, Nat.reduceAdd, Nat.reduceEqDiff, Nat.reduceLT, Nat.reduceLeDiff, Nat.reduceMul, List.cons_append, List.nil_append, true_and, and_true, List.singleton_append, j_lsw2, j_Sn, j_ush, j_dupx2, List.take_succ_cons, List.take_zero, List.drop_succ_cons, List.drop_zero, List.reverse_cons, List.reverse_nil, Nat.le_refl, fL_minute_517, xvz_20, xvz_21, xvz_22, xvz_23, xvz_24, xvz_25, xvz_26, xvz_27, xvz_28, xvz_29, xrz_20, xrz_21, xrz_22, xrz_23, xrz_24, xrz_25, xrz_26, xrz_27, xrz_28, xrz_29, xdz_20, xdz_21, xdz_22, xdz_23, xdz_24, xdz_25, xdz_26, xdz_27, xdz_28, xdz_29, xlen, xcat, xc1, Nat.zero_le, Nat.reduceLeDiff, List.length_cons, List.length_nil, r3, h3, Int.le_refl]
    exact hb
  | succ n ih =>
    intro u G M F T x9 hR h0 hu h3 h4 h18 h
    refine kL_min_E1 hC hR h0 (by omega) (by omega) (by omega) (by rw [h4]; exact hP) h18 (fun M' F' T' y9 hR' g3 g4 g18 gE => ?_)
    have hb := ih (u + 1) (srv 0 u G) M' F' T' y9 hR' (by omega) (by omega) (by omega) (by omega) g18 (fun M2 F2 T2 b1 b2 b3 b4 => h M2 F2 T2 b1 b2 b3 (EQ_trans b4 gE))
    rw [show 12 * (u + 1) = 12 * u + 12 by omega] at hb
    exact hb
def sL_minute : XSp := fun av M Q => match av with
  | [.inr (.inl (some o0)), .inr (.inl (some o1)), .inr (.inl (some o2)), .inr (.inl (some o3)), .inr (.inl (some o4)), .inr (.inl (some o5)), .inr (.inl (some o6)), .inr (.inl (some o7))] => (o0 = (20, 0, 0) ∧ o1 = (22, 0, 0) ∧ o2 = (24, 0, 0) ∧ o3 = (25, 0, 0) ∧ o4 = (26, 0, 0) ∧ o5 = (27, 0, 0) ∧ o6 = (28, 0, 0) ∧ o7 = (29, 0, 0)) ∧ ∃ (a tb : Int) (G : XM), Rel a tb G M ∧ tb + 1 ≤ 2700 ∧ ∀ M' : XM, Rel a (tb + 1) (fPass G 0) M' → EQ M' M → Q [] M'
  | _ => False
set_option maxRecDepth 100000 in
theorem kL_minute : XCn yL_minute wL_minute rL_minute sL_minute := XCn.of pL_minute rfl rfl aL_minute (fun av M Post h => by
  simp only [sL_minute] at h
  split at h
  · exact (by decide : 8 ≤ 10)
  · exact h.elim) (fun av M Post h WW hC => by
  simp only [sL_minute] at h
  split at h
  next o0 o1 o2 o3 o4 o5 o6 o7 =>
    obtain ⟨⟨rfl, rfl, rfl, rfl, rfl, rfl, rfl, rfl⟩, a, tb, G, ⟨hX, F, T, hR⟩, htb, h⟩ := h
    obtain ⟨M1, hM1⟩ : ∃ M1 : XM, M1 = xup M 20 0 0 4 (M 20 0 0 4 + 1) := ⟨_, rfl⟩
    obtain ⟨G1, hG1⟩ : ∃ G1 : XM, G1 = xup G 1 0 0 0 (G 1 0 0 0 + 1) := ⟨_, rfl⟩
    have hR1 := RY_next hR
    rw [← hM1, ← hG1] at hR1
    have t4 : M1 20 0 0 4 = M 20 0 0 4 + 1 := by rw [hM1, xup_app, if_pos ⟨rfl, rfl, rfl, rfl⟩]
    have t18 : M1 20 0 0 18 = M 20 0 0 18 := by rw [hM1, xup_app, if_neg (by decide)]
    have E1 : EQ M1 M := fun t ht => by rw [hM1, xup_tag (by omega)]
    have h04 := hR.1.2.2.2.2.2.2.1
    have ht4 : M1 20 0 0 4 ≤ 2700 := by have := hX.1; omega
    have hR2 := rY_drive (l := 1) (rY_drive (l := 0) hR1)
    rw [← pDrive_2 hR1.1.2.2.2.2.2.1.2.2.1] at hR2
    obtain ⟨M2, hM2⟩ : ∃ M2 : XM, M2 = drA 1 (drA 0 M1) := ⟨_, rfl⟩
    have E2 : EQ M2 M1 := fun t ht => by rw [hM2, drA_tag (by omega), drA_tag (by omega)]
    have s4 : ∀ s : Int, M2 20 0 0 s = M1 20 0 0 s := fun s => by rw [hM2, drA_tag (by decide), drA_tag (by decide)]
    rw [← hM2] at hR2
    have l0 := (hR1.2.2.2.1 0 (by decide) (by decide)).2.1
    have l1 := (hR1.2.2.2.1 1 (by decide) (by decide)).2.1
    obtain ⟨G2, hG2⟩ : ∃ G2 : XM, G2 = pDrive G1 0 := ⟨_, rfl⟩
    rw [← hG2] at hR2
    have goA := kL_min_A hC (M := M1) (x9 := none) hR1.1.2.2.2.1.2 ⟨by omega, by omega⟩ ⟨by omega, by omega⟩
    show WW 0 [some (xR 20 0 0), some (xR 22 0 0), some (xR 24 0 0), some (xR 25 0 0), some (xR 26 0 0), some (xR 27 0 0), some (xR 28 0 0), some (xR 29 0 0), none, none] [] M
    refine yru_ok hC [10] 11 _ _ _ _ ?_
    simp only [ykk_ap, Int.reduceEq, Int.reduceLT, Int.reduceLE, Int.reduceNeg, Int.reduceAdd, Int.reduceSub, Int.reduceMul, and_self, false_and, and_false, not_true_eq_false, not_false_eq_true, true_implies, false_implies, xq0, xq1, xq2, xq3, xq4, xq5, xqR, xq1R, xq3R, xt1, xt2, xt3, List.mem_cons, List.not_mem_nil, or_false, false_or, or_self, if_false, if_true, reduceIte, reduceCtorEq, xent, xen, List.length_cons, List.length_nil, List.replicate, j_c, j_cJ, j_ild, j_ald, j_lld, j_ist, j_ast, j_lst, j_inc, j_add, j_sub, j_mul, j_neg, j_div, j_rem, j_and, j_shr, j_shl1, j_or, j_ladd, j_lsub, j_lmul, j_i2l, j_lcmp, j_i2c, j_dup, j_dup2, j_pop, j_goto, j_ieq, j_ine, j_ilt, j_ige, j_igt, j_ile, j_eq, j_ne, j_lt, j_ge, j_gt, j_le, xsw, j_tsw, j_gI, j_gJ, j_gR, j_pI, j_pJ, j_gs, j_iald, j_iast, j_cald, j_cast, j_aald, j_cpy, j_min, j_max, j_abs, j_iret, j_zret, j_lret, j_dret, j_ret0, j_V0, j_V1, j_V2, j_V3, j_V4, j_V5, j_S1, j_S2, j_S3, xget, xset, xset2, xclr, xc1, xcat, Nat.reduceAdd, Nat.reduceEqDiff, Nat.reduceLT, Nat.reduceLeDiff, Nat.reduceMul, List.cons_append, List.nil_append, true_and, and_true, List.singleton_append, j_lsw2, j_Sn, j_ush, j_dupx2, List.take_succ_cons, List.take_zero, List.drop_succ_cons, List.drop_zero, List.reverse_cons, List.reverse_nil, Nat.le_refl, fL_minute_0, fL_minute_1, fL_minute_2, fL_minute_3, fL_minute_4, fL_minute_5, fL_minute_6, fL_minute_7, fL_minute_8, xvz_20, xvz_21, xvz_22, xvz_23, xvz_24, xvz_25, xvz_26, xvz_27, xvz_28, xvz_29, xrz_20, xrz_21, xrz_22, xrz_23, xrz_24, xrz_25, xrz_26, xrz_27, xrz_28, xrz_29, xdz_20, xdz_21, xdz_22, xdz_23, xdz_24, xdz_25, xdz_26, xdz_27, xdz_28, xdz_29, xlen, xcat, xc1, Nat.zero_le, Nat.reduceLeDiff, List.length_cons, List.length_nil]
    rw [← hM1]
    refine goA ?_
    rw [← hM2]
    refine kL_min_B hC (Or.inl rfl) hR2 (by rw [s4]; exact ht4) (fun M3 F3 T3 y9 hR3 a3 b3 E3 => ?_)
    refine kL_min_B (k := 1) hC (Or.inr rfl) hR3 (by rw [a3, s4]; exact ht4) (fun M4 F4 T4 z9 hR4 a4 b4 E4 => ?_)
    have e2 : G2 1 0 0 0 = M2 20 0 0 4 ∧ G2 1 0 0 6 = 2 ∧ G2 2 0 0 4 = 5 := ⟨hR2.1.2.2.2.2.2.1.2.2.2.2, hR2.1.2.2.2.2.2.1.2.1, hR2.1.2.1.2.2.2.2.1⟩
    rw [a3, ← e2.1, ← e2.2.2, ← pCook_2 e2.2.1] at hR4
    obtain ⟨G4, hG4⟩ : ∃ G4 : XM, G4 = pCook G2 0 := ⟨_, rfl⟩
    rw [← hG4] at hR4
    have m44 : M4 20 0 0 4 = M1 20 0 0 4 := by rw [a4, a3, s4]
    have n1 := hR4.1.2.2.2.1.1
    refine yru_ok hC [127, 52] 7 _ _ _ _ ?_
    simp only [ykk_ap, Int.reduceEq, Int.reduceLT, Int.reduceLE, Int.reduceNeg, Int.reduceAdd, Int.reduceSub, Int.reduceMul, and_self, false_and, and_false, not_true_eq_false, not_false_eq_true, true_implies, false_implies, xq0, xq1, xq2, xq3, xq4, xq5, xqR, xq1R, xq3R, xt1, xt2, xt3, List.mem_cons, List.not_mem_nil, or_false, false_or, or_self, if_false, if_true, reduceIte, reduceCtorEq, xent, xen, List.length_cons, List.length_nil, List.replicate, j_c, j_cJ, j_ild, j_ald, j_lld, j_ist, j_ast, j_lst, j_inc, j_add, j_sub, j_mul, j_neg, j_div, j_rem, j_and, j_shr, j_shl1, j_or, j_ladd, j_lsub, j_lmul, j_i2l, j_lcmp, j_i2c, j_dup, j_dup2, j_pop, j_goto, j_ieq, j_ine, j_ilt, j_ige, j_igt, j_ile, j_eq, j_ne, j_lt, j_ge, j_gt, j_le, xsw, j_tsw, j_gI, j_gJ, j_gR, j_pI, j_pJ, j_gs, j_iald, j_iast, j_cald, j_cast, j_aald, j_cpy, j_min, j_max, j_abs, j_iret, j_zret, j_lret, j_dret, j_ret0, j_V0, j_V1, j_V2, j_V3, j_V4, j_V5, j_S1, j_S2, j_S3, xget, xset, xset2, xclr, xc1, xcat, Nat.reduceAdd, Nat.reduceEqDiff, Nat.reduceLT, Nat.reduceLeDiff, Nat.reduceMul, List.cons_append, List.nil_append, true_and, and_true, List.singleton_append, j_lsw2, j_Sn, j_ush, j_dupx2, List.take_succ_cons, List.take_zero, List.drop_succ_cons, List.drop_zero, List.reverse_cons, List.reverse_nil, Nat.le_refl, fL_minute_44, fL_minute_46, fL_minute_47, fL_minute_48, fL_minute_49, xvz_20, xvz_21, xvz_22, xvz_23, xvz_24, xvz_25, xvz_26, xvz_27, xvz_28, xvz_29, xrz_20, xrz_21, xrz_22, xrz_23, xrz_24, xrz_25, xrz_26, xrz_27, xrz_28, xrz_29, xdz_20, xdz_21, xdz_22, xdz_23, xdz_24, xdz_25, xdz_26, xdz_27, xdz_28, xdz_29, xlen, xcat, xc1, Nat.zero_le, Nat.reduceLeDiff, List.length_cons, List.length_nil, n1, Int.reduceAdd, xr_c (n := 0) rfl, xr_c (n := 2) rfl]
    refine kL_min_C hC hR4 (by omega) (fun M5 F5 T5 hR5 a5 b5 E5 => ?_)
    obtain ⟨G5, hG5⟩ : ∃ G5 : XM, G5 = pThrow G4 0 := ⟨_, rfl⟩
    rw [← hG5] at hR5
    have h3 := hR5.1.2.2.2.2.1
    have hR5' := RY_d (d' := dU 0) hR5 (fun u u0 _ => by unfold dU; rw [if_neg (by omega)])
    have goD := kL_min_D hC (x9 := z9) (t := M5 20 0 0 4) (n3 := M5 20 0 0 3) (p18 := M5 20 0 0 18) (by omega) (M5 20 0 0 3).toNat 0 G5 M5 F5 T5 hR5' (by decide) (by omega) rfl rfl rfl
    rw [show (12 : Int) * 0 = 0 from rfl] at goD
    refine goD (fun M6 hR6 a6 b6 c6 E6 => ?_)
    have e10 : G5 1 0 0 10 = M5 20 0 0 3 := hR5.1.2.2.2.2.2.1.2.2.2.1
    rw [← e10, ← pCall_x] at hR6
    obtain ⟨G6, hG6⟩ : ∃ G6 : XM, G6 = pCall G5 0 := ⟨_, rfl⟩
    rw [← hG6] at hR6
    have hR6' := RY_Gp0 (RY_d (d' := fun _ => 1) hR6 (fun u u0 u3 => by unfold dU; rw [if_pos (by omega)]))
    have hP : 2 * M 20 0 0 18 ≤ 25 * ((M5 20 0 0 4 - 1) * (M5 20 0 0 4 - 1)) + 2600 * (M5 20 0 0 4 - 1) := by
      have := hX.2
      rw [Int.sub_zero] at this
      rw [show M5 20 0 0 4 - 1 = M 20 0 0 4 by omega]
      exact this
    have goE := kL_min_E hC (t := M5 20 0 0 4) (n3 := M5 20 0 0 3) (P0 := M 20 0 0 18) (by omega) (by omega) hP (M5 20 0 0 3).toNat 0 G6 M6 F5 T5 z9 hR6' (by decide) (by omega) c6 a6 (by
      have z : oZ 0 G6 = 0 := by
        unfold oZ
        rw [s5_congr (g := fun _ => 0) (fun v v0 _ => if_neg (by omega))]
        rfl
      rw [z, b6, b5, b4, b3, s4, t18]
      omega)
    rw [show (12 : Int) * 0 = 0 from rfl] at goE
    refine goE (fun M7 F7 T7 hR7 a7 b7 E7 => ?_)
    have e11 : G6 1 0 0 10 = M5 20 0 0 3 := by rw [← c6]; exact hR6.1.2.2.2.2.2.1.2.2.2.1
    have eS : xit (srv 0) (M5 20 0 0 3).toNat 0 G6 = pServe G6 0 := by
      unfold pServe
      rw [e11]
    rw [eS] at hR7 b7
    have e12 : pServe G6 0 1 0 0 10 = M5 20 0 0 3 := by
      rw [← e11]
      unfold pServe
      exact xit_ind (P := fun N => N 1 0 0 10 = G6 1 0 0 10) (lo := 0) (hi := 0 + (G6 1 0 0 10).toNat) (fun v N _ _ h => by rw [srv_tag (by decide) (by decide) (by decide) (by decide)]; exact h) (G6 1 0 0 10).toNat 0 G6 (Int.le_refl _) (Int.le_refl _) rfl
    have hR8 := RY_pun hR7 e12 h3.1
    have ef : pPunish (pServe G6 0) 0 = fPass G 0 := by rw [hG6, hG5, hG4, hG2, hG1]; rfl
    rw [ef] at hR8
    have ozle := oZ_le hR7 (M5 20 0 0 3)
    have h16 := rY_16 hR7
    have pb := pen_b (P0 := M 20 0 0 18) (t := M5 20 0 0 4) (z := oZ (M5 20 0 0 3) (pServe G6 0)) hP (by omega) (by omega) (by omega)
    refine h M7 ⟨⟨⟨by have := hX.1; omega, htb⟩, ?_⟩, F7, T7, hR8⟩ (EQ_trans E7 (EQ_trans E6 (EQ_trans E5 (EQ_trans E4 (EQ_trans E3 (EQ_trans E2 E1))))))
    rw [Int.sub_zero, a7]
    have := pb.2
    omega
  next => exact h.elim)
theorem ug_minute {a tb : Int} {G M : XM} {Q : XPo} (hR : Rel a tb G M) (htb : tb + 1 ≤ 2700) (h : ∀ M' : XM, Rel a (tb + 1) (fPass G 0) M' → EQ M' M → Q [] M') : sL_minute [xR 20 0 0, xR 22 0 0, xR 24 0 0, xR 25 0 0, xR 26 0 0, xR 27 0 0, xR 28 0 0, xR 29 0 0] M Q := ⟨⟨rfl, rfl, rfl, rfl, rfl, rfl, rfl, rfl⟩, a, tb, G, hR, htb, h⟩
end XN6

