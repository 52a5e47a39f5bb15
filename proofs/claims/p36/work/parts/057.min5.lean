section XN5
/-! a minute: its last part, and all of it -/
def oZ (u : Int) (G : XM) : Int := s5 (fun v => if v < u then G 14 0 v 6 + G 14 0 v 7 else 0)
theorem uv_serve {a u : Int} {G M H M' : XM} {F F' : Int → Int} {T T' s meat ds : Int} {Q : XPo} (hR : RY a (fun _ => 1) 40 (Gp u G) M F T) (h0 : 0 ≤ u) (h1 : u < M 20 0 0 3) (ht : M 20 0 0 4 ≤ 2700) (hz : xU M u 0 = 0) (hV : RV (M 20 0 0 4) u G M H M' F' T T') (hs : s = 6 ∨ s = 7) (hk : mdk meat ds)
    (h : ∀ (M'' : XM) (F'' : Int → Int) (T'' : Int), RV (M 20 0 0 4) u G M (sv s meat 0 u H) M'' F'' T T'' → Q [] M'') : sL_serve [xR 20 0 0, xR 22 0 0, xR 26 0 0, xR 27 0 0, xR 28 0 0, xR 29 0 0, xI (12 * u), xI s, xI ds] M' Q := by
  have hm : meat = 0 ∨ meat = 1 := by rcases hk with z | z <;> omega
  have hu5 : u < 5 := by have := hR.1.2.2.2.2.1; omega
  have h16 := rY_16 hR
  have hgG := rY_uG hR h0 hu5
  unfold uG at hgG
  rw [Gp_s (by decide), Gp_s (by decide), Gp_s (by decide), Gp_s (by decide)] at hgG
  have hpp := rU_p hR.2.2.2.2.1 h0 hu5
  rw [Gp_s (by decide), Gp_s (by decide), Gp_s (by decide), Gp_s (by decide), Gp_s (show ¬ (11 : Int) = 10 by decide)] at hpp
  obtain ⟨q1, q2, q3, q4, q5, q6, q7, q8, q9⟩ := hR
  obtain ⟨c1, c2, c3, c4, c5', c6, c7, c8⟩ := q1
  rw [Gp_t (by decide)] at c6
  have e1 := ((q5 u h0 hu5).1 h1).2.2.2.2.1 hz
  have hV' := hV
  obtain ⟨a1, a2, a3, a4, a5, a6, a7, a8, a9, a10, a11, a12, a13, a14, a15⟩ := hV
  have eH : ∀ t : Nat, ¬ t = 11 → ¬ t = 12 → ¬ t = 13 → ¬ t = 14 → H t = G t := a1
  have x1 : M' 28 0 0 (12 * u + 1) = H 14 0 u 1 := by
    rw [a9, if_neg (by omega), if_neg (by omega), if_neg (by omega), a4 1 (by decide) (by decide) (by decide) (by decide)]
    have := e1.1 1 (by decide) (by decide)
    rw [Gp_s (by decide)] at this
    exact this.symm
  have x1' : H 14 0 u 1 = xU M u 1 := by
    rw [a4 1 (by decide) (by decide) (by decide) (by decide)]
    have := e1.1 1 (by decide) (by decide)
    rw [Gp_s (by decide)] at this
    exact this
  have xs : M' 28 0 0 (12 * u + s) = H 14 0 u s := by
    rw [a9]
    rcases hs with rfl | rfl
    · rw [if_pos rfl]
    · rw [if_neg (by omega), if_pos rfl]
  have hsw : H 14 0 u s ≤ 1000000000 ∧ 0 ≤ H 14 0 u s := by rcases hs with rfl | rfl <;> omega
  refine ug_serve (G := H) (F := F') (t := M 20 0 0 4) (T := T') (w := H 14 0 u s) (meat := meat) (p := H 14 0 u 1) hk (by omega) hs hsw.1 (by rw [eH 1 (by decide) (by decide) (by decide) (by decide)]; exact c6.2.2.2.2) xs ⟨x1, by rw [x1']; exact ⟨e1.2.1.1, by omega⟩⟩ ⟨by rw [a8.2 1 (by decide) (by decide)]; exact c4.1, by rw [a8.2 2 (by decide) (by decide)]; exact c4.2⟩ ⟨by rw [eH 1 (by decide) (by decide) (by decide) (by decide)]; exact c6.2.1, by rw [eH 1 (by decide) (by decide) (by decide) (by decide)]; exact c6.2.2.1⟩ (by rw [a8.2 0 (by decide) (by decide)]; omega) (fun l b c => rL1_c (G := Gp u G) (M := M) (fun s z => by rw [a2 l s (by omega), Gp_t (by decide)]) (by rw [a8.2 0 (by decide) (by decide)]) (by rw [a8.1 26 (by decide) (by decide) (by decide)]) (by rw [a8.1 27 (by decide) (by decide) (by decide)]) (q4 l b c)) (fun k b c => ?_) ⟨by rw [Int.sub_self]; exact vTo_refl M' _ _, a12, by omega, a14, ⟨hsw.2, Int.le_refl _⟩, ⟨fun _ _ _ _ => rfl, fun _ _ _ => rfl⟩⟩ (fun M'' F'' T'' hJ => h M'' F'' T'' (RV_sv hs hm c6.2.1 c6.2.2.1 c6.2.2.2.2 rfl hV' hJ))
  have k1 := (q3 k b c).1
  rw [Gp_t (by decide)] at k1
  rw [eH 8 (by decide) (by decide) (by decide) (by decide), a8.1 22 (by decide) (by decide) (by decide)]
  exact ⟨k1.1, k1.2.1, by omega⟩
theorem RV_0 {a u : Int} {G M : XM} {F : Int → Int} {T : Int} (hR : RY a (fun _ => 1) 40 (Gp u G) M F T) (h0 : 0 ≤ u) (h1 : u < M 20 0 0 3) (hz : xU M u 0 = 0) : RV (M 20 0 0 4) u G M G M F T T := by
  have hu5 : u < 5 := by have := hR.1.2.2.2.2.1; omega
  obtain ⟨q1, q2, q3, q4, q5, q6, q7, q8, q9⟩ := hR
  obtain ⟨⟨b0, b9, b10, b11⟩, b, c, d, e, f⟩ := (q5 u h0 hu5).1 h1
  obtain ⟨e1, e2, e3, e4, e5, e6, e7, e8, e9⟩ := e hz
  rw [Gp_s (by decide)] at b9
  have w : ∀ s : Int, 1 ≤ s → s ≤ 8 → G 14 0 u s = xU M u s := fun s s0 s1 => by
    have := e1 s s0 s1
    rw [Gp_s (by omega)] at this
    exact this
  have w6 := w 6 (by decide) (by decide)
  have w7 := w 7 (by decide) (by decide)
  have w8 := w 8 (by decide) (by decide)
  refine ⟨fun _ _ _ _ _ => rfl, fun _ _ _ => rfl, fun _ _ _ => rfl, fun _ _ _ _ _ => rfl, rfl, ⟨by omega, by omega, Int.le_refl _⟩, ?_, vSame_refl M, fun n => ?_, by omega, Int.le_refl _, q7, Int.le_refl _, ⟨q8.1, fun j hj x x0 x1 => by have := q8.2 j hj x x0 x1; rw [Gp_t (by decide)] at this; exact this⟩, fun _ _ _ => rfl⟩
  · rw [w6, w7, w8]
    by_cases z : xU M u 6 + xU M u 7 = 0
    · rw [if_pos z]
      exact e7.mpr z
    · rw [if_neg z]
  · split
    next z => rw [z, w6]; rfl
    next => split
            next z => rw [z, w7]; rfl
            next => split
                    next z => rw [z, b9]; rfl
                    next => rfl
theorem srv_ne {u v s : Int} {G : XM} (hv : ¬ v = u) : srv 0 u G 14 0 v s = G 14 0 v s := by
  have f : ∀ (x meat : Int) (N : XM), x = 6 ∨ x = 7 → sv x meat 0 u N 14 0 v s = N 14 0 v s := fun x meat N hx => by
    unfold sv
    rw [uServe_at hx, if_neg hv, (tM_q N 0 (N 14 0 u 1) meat (N 14 0 u x)).1 14 (by decide) (by decide) (by decide)]
  unfold srv
  split
  · rw [f 7 0 _ (by decide), f 7 1 _ (by decide), f 6 0 _ (by decide)]
  · rfl
theorem oZ_le {a w u : Int} {d : Int → Int} {G M : XM} {F : Int → Int} {T : Int} (hR : RY a d w (Gp u G) M F T) (x : Int) : oZ x G ≤ M 20 0 0 16 := by
  have h7 := hR.2.2.2.2.2.1.2.2.2.2.2.2
  rw [h7]
  refine s5_le (fun v v0 v5 => ?_)
  have q := rU_p hR.2.2.2.2.1 v0 v5
  unfold uG
  simp only [Gp_s (show ¬ (6 : Int) = 10 by decide), Gp_s (show ¬ (7 : Int) = 10 by decide), Gp_s (show ¬ (9 : Int) = 10 by decide), Gp_s (show ¬ (11 : Int) = 10 by decide)] at q ⊢
  split <;> omega
theorem pen_b {P0 t z : Int} (hP : 2 * P0 ≤ 25 * ((t - 1) * (t - 1)) + 2600 * (t - 1)) (h1 : 1 ≤ t) (h2 : t ≤ 2700) (hz : z ≤ 25 * (t + 50)) : P0 + z ≤ 100000000 ∧ 2 * (P0 + z) ≤ 25 * (t * t) + 2600 * t := by
  have e : (t - 1) * (t - 1) ≤ 2699 * (t - 1) := Int.mul_le_mul_of_nonneg_right (by omega) (by omega)
  have e2 : (t - 1) * (t - 1) = t * t - 2 * t + 1 := by
    rw [Int.sub_mul, Int.mul_sub, Int.mul_one, Int.one_mul]
    omega
  refine ⟨by omega, by omega⟩
theorem kL_min_E0 {a u : Int} {G M : XM} {F : Int → Int} {T : Int} (hR : RY a (fun _ => 1) 40 (Gp u G) M F T) (h0 : 0 ≤ u) (hu5 : u < 5) (h8 : G 14 0 u 8 = -1) : RY a (fun _ => 1) 40 (Gp (u + 1) G) M F T := by
  refine RY_cg (fun s => by rw [Gp_t (by decide), Gp_t (by decide)]) (by rw [Gp_t (by decide), Gp_t (by decide)]) (by rw [Gp_t (by decide), Gp_t (by decide)]) (by rw [Gp_t (by decide), Gp_t (by decide)]) (by rw [Gp_t (by decide), Gp_t (by decide)]) (by rw [Gp_t (by decide), Gp_t (by decide)]) (by rw [Gp_t (by decide), Gp_t (by decide)]) (fun l s _ => by rw [Gp_t (by decide), Gp_t (by decide)]) (fun v s v0 v5 s0 s1 => ?_) (fun j x _ _ _ => by rw [Gp_t (by decide), Gp_t (by decide)]) hR
  by_cases s10 : s = 10
  · subst s10
    rw [Gp_10 v0, Gp_10 v0]
    by_cases c : v < u
    · rw [if_pos c, if_pos (by omega)]
    · rw [if_neg c]
      by_cases ev : v = u
      · subst ev
        rw [if_pos (by omega)]
        unfold pv
        rw [if_neg (fun z => z.1 h8)]
      · rw [if_neg (by omega)]
  · rw [Gp_s s10, Gp_s s10]
/-- after the three servings and the punishing -/
theorem kL_min_E2 {a u : Int} {G M H M' M'' : XM} {F F' : Int → Int} {T T' : Int} (hR : RY a (fun _ => 1) 40 (Gp u G) M F T) (h0 : 0 ≤ u) (h1 : u < M 20 0 0 3) (hz : xU M u 0 = 0) (hH : H = sv 7 0 0 u (sv 7 1 0 u (sv 6 0 0 u G))) (hV : RV (M 20 0 0 4) u G M H M' F' T T') (hE : RE u (pv H u - G 14 0 u 10) M H M' M'') (hp : 0 ≤ pv H u) : RY a (fun _ => 1) 40 (Gp (u + 1) (srv 0 u G)) M'' F' T' := by
  have hu5 : u < 5 := by have := hR.1.2.2.2.2.1; omega
  have k := rY_srv hR h0 h1 hz hV hE hp
  have hpp := rU_p hR.2.2.2.2.1 h0 hu5
  rw [Gp_s (by decide), Gp_s (by decide), Gp_s (by decide), Gp_s (by decide), Gp_s (show ¬ (11 : Int) = 10 by decide)] at hpp
  by_cases c : 0 < G 14 0 u 6 + G 14 0 u 7
  · rw [show srv 0 u G = H by unfold srv; rw [if_pos c, hH]]
    exact k
  · rw [show srv 0 u G = G by unfold srv; rw [if_neg c]]
    obtain ⟨a1, a2, a3, a4, a5, a6, a7, a8, a9, a10, a11, a12, a13, a14, a15⟩ := hV
    have h14 : ∀ v s : Int, H 14 0 v s = G 14 0 v s := fun v s => by
      by_cases ev : v = u
      · subst ev
        by_cases s6 : s = 6
        · subst s6; omega
        · by_cases s7 : s = 7
          · subst s7; omega
          · by_cases s9 : s = 9
            · subst s9; omega
            · by_cases s8 : s = 8
              · subst s8
                rw [a7, if_pos (by omega)]
                have e7 := (((hR.2.2.2.2.1 v h0 hu5).1 h1).2.2.2.2.1 hz)
                have w6 := e7.1 6 (by decide) (by decide)
                have w7 := e7.1 7 (by decide) (by decide)
                have w8 := e7.1 8 (by decide) (by decide)
                rw [Gp_s (by decide)] at w6 w7 w8
                rw [w8]
                exact (e7.2.2.2.2.2.2.1.mpr (by omega)).symm
              · exact a4 s s6 s7 s8 s9
      · exact a3 v s ev
    have hpv : ∀ v : Int, pv G v = pv H v := fun v => by
      unfold pv
      rw [h14, h14, h14, h14, a1 1 (by decide) (by decide) (by decide) (by decide), a1 2 (by decide) (by decide) (by decide) (by decide)]
    refine RY_cg (fun s => by rw [Gp_t (by decide), Gp_t (by decide), a1 1 (by decide) (by decide) (by decide) (by decide)]) (by rw [Gp_t (by decide), Gp_t (by decide), a1 2 (by decide) (by decide) (by decide) (by decide)]) (by rw [Gp_t (by decide), Gp_t (by decide), a1 3 (by decide) (by decide) (by decide) (by decide)]) (by rw [Gp_t (by decide), Gp_t (by decide), a1 4 (by decide) (by decide) (by decide) (by decide)]) (by rw [Gp_t (by decide), Gp_t (by decide), a1 15 (by decide) (by decide) (by decide) (by decide)]) (by rw [Gp_t (by decide), Gp_t (by decide), a1 8 (by decide) (by decide) (by decide) (by decide)]) (by rw [Gp_t (by decide), Gp_t (by decide), a1 9 (by decide) (by decide) (by decide) (by decide)]) (fun l s z => by rw [Gp_t (by decide), Gp_t (by decide), a2 l s z]) (fun v s v0 v5 s0 s1 => ?_) (fun j x _ _ _ => by rw [Gp_t (by decide), Gp_t (by decide), a15 (by omega)]) k
    by_cases s10 : s = 10
    · subst s10
      rw [Gp_10 v0, Gp_10 v0, hpv, h14]
    · rw [Gp_s s10, Gp_s s10, h14]
set_option maxRecDepth 100000 in
theorem kL_min_E1 {Post : XPo} {WW : XK} (hC : XCl (xlk (pL_minute Post)) WW) {a u P0 : Int} {G M : XM} {F : Int → Int} {T : Int} {x9 : Option XV} (hR : RY a (fun _ => 1) 40 (Gp u G) M F T) (h0 : 0 ≤ u) (h1 : u < M 20 0 0 3) (ht1 : 1 ≤ M 20 0 0 4) (ht : M 20 0 0 4 ≤ 2700) (hP : 2 * P0 ≤ 25 * ((M 20 0 0 4 - 1) * (M 20 0 0 4 - 1)) + 2600 * (M 20 0 0 4 - 1)) (hP1 : M 20 0 0 18 ≤ P0 + oZ u G)
    (h : ∀ (M' : XM) (F' : Int → Int) (T' : Int) (y9 : Option XV), RY a (fun _ => 1) 40 (Gp (u + 1) (srv 0 u G)) M' F' T' → M' 20 0 0 3 = M 20 0 0 3 → M' 20 0 0 4 = M 20 0 0 4 → M' 20 0 0 18 ≤ P0 + oZ (u + 1) (srv 0 u G) → EQ M' M → WW 349 [some (xR 20 0 0), some (xR 22 0 0), some (xR 24 0 0), some (xR 25 0 0), some (xR 26 0 0), some (xR 27 0 0), some (xR 28 0 0), some (xR 29 0 0), some (xI (12 * u + 12)), y9] [] M') : WW 349 [some (xR 20 0 0), some (xR 22 0 0), some (xR 24 0 0), some (xR 25 0 0), some (xR 26 0 0), some (xR 27 0 0), some (xR 28 0 0), some (xR 29 0 0), some (xI (12 * u)), x9] [] M := by
  have hu5 : u < 5 := by have := hR.1.2.2.2.2.1; omega
  have hn := hR.1.2.2.2.2.1
  have h16 := rY_16 hR
  have hgG := rY_uG hR h0 hu5
  unfold uG at hgG
  rw [Gp_s (by decide), Gp_s (by decide), Gp_s (by decide), Gp_s (by decide)] at hgG
  have hpp := rU_p hR.2.2.2.2.1 h0 hu5
  rw [Gp_s (by decide), Gp_s (by decide), Gp_s (by decide), Gp_s (by decide), Gp_10 h0, if_neg (Int.lt_irrefl u), Gp_s (show ¬ (11 : Int) = 10 by decide)] at hpp
  have hU := (hR.2.2.2.2.1 u h0 hu5).1 h1
  obtain ⟨⟨a0, a9, a10, a11⟩, b, ⟨c4a, c4b⟩, ⟨d9, d10, d11⟩, e, f⟩ := hU
  rw [Gp_s (by decide)] at a0 a9 a11
  rw [Gp_10 h0, if_neg (Int.lt_irrefl u)] at a10
  have c := hR.1
  obtain ⟨c1, c2, c3, c4, c5', c6, c7, c8⟩ := c
  rw [Gp_t (by decide)] at c2 c6
  have r3 : XInR (12 * M 20 0 0 3) := ⟨by omega, by omega⟩
  have ru : XInR (12 * u) := ⟨by omega, by omega⟩
  have hlt : ¬ 12 * M 20 0 0 3 ≤ 12 * u := by omega
  have i0 : 0 ≤ 12 * u := by omega
  have i60 : 12 * u < 60 := by omega
  have z0 : M 28 0 0 (12 * u) = xU M u 0 := by unfold xU; rw [Int.add_zero]
  have rx0 : XInR (xU M u 0) := ⟨by omega, by omega⟩
  have zN : ∀ N : XM, (∀ v s : Int, ¬ v = u → N 14 0 v s = G 14 0 v s) → oZ (u + 1) N = oZ u G + (N 14 0 u 6 + N 14 0 u 7) := fun N hN => by
    have := s5_one (f := fun v => if v < u then G 14 0 v 6 + G 14 0 v 7 else 0) (g := fun v => if v < u + 1 then N 14 0 v 6 + N 14 0 v 7 else 0) h0 hu5 (fun v v0 v5 ev => by
      rw [hN v 6 ev, hN v 7 ev]
      by_cases c : v < u
      · rw [if_pos c, if_pos (by omega)]
      · rw [if_neg c, if_neg (by omega)])
    unfold oZ
    rw [this, if_pos (by omega), if_neg (by omega)]
    omega
  by_cases hz : xU M u 0 = 0
  case neg =>
    have f' := f hz
    rw [Gp_s (by decide), Gp_s (by decide), Gp_s (by decide), Gp_s (by decide), Gp_s (show ¬ (8 : Int) = 10 by decide)] at f'
    have es : srv 0 u G = G := by unfold srv; rw [if_neg (by omega)]
    have hb := h M F T x9 (by rw [es]; exact kL_min_E0 hR h0 hu5 f'.2.2.2.2) rfl rfl (by rw [es, zN G (fun _ _ _ => rfl)]; omega) (EQ_refl M)
    refine yru_ok hC [517, 360] 9 _ _ _ _ ?_
    simp only [ykk_ap, Int.reduceEq, Int.reduceLT, Int.reduceLE, Int.reduceNeg, Int.reduceAdd, Int.reduceSub, Int.reduceMul, and_self, false_and, and_false, not_true_eq_false, not_false_eq_true, true_implies, false_implies, xq0, xq1, xq2, xq3, xq4, xq5, xqR, xq1R, xq3R, xt1, xt2, xt3, List.mem_cons, List.not_mem_nil, or_false, false_or, or_self, if_false, if_true, reduceIte, reduceCtorEq, xent, xen, List.length_cons, List.length_nil, List.replicate, j_c, j_cJ, j_ild, j_ald, j_lld, j_ist, j_ast, j_lst, j_inc, j_add, j_sub, j_mul, j_neg, j_div, j_rem, j_and, j_shr, j_shl1, j_or, j_ladd, j_lsub, j_lmul, j_i2l, j_lcmp, j_i2c, j_dup, j_dup2, j_pop, j_goto, j_ieq, j_ine, j_ilt, j_ige, j_igt, j_ile, j_eq, j_ne, j_lt, j_ge, j_gt, j_le, xsw, j_tsw, j_gI, j_gJ, j_gR, j_pI, j_pJ, j_gs, j_iald, j_iast, j_cald, j_cast, j_aald, j_cpy, j_min, j_max, j_abs, j_iret, j_zret, j_lret, j_dret, j_ret0, j_V0, j_V1, j_V2, j_V3, j_V4, j_V5, j_S1, j_S2, j_S3, xget, xset, xset2, xclr, xc1, xcat, Nat.reduceAdd, Nat.reduceEqDiff, Nat.reduceLT, Nat.reduceLeDiff, Nat.reduceMul, List.cons_append, List.nil_append, true_and, and_true, List.singleton_append, j_lsw2, j_Sn, j_ush, j_dupx2, List.take_succ_cons, List.take_zero, List.drop_succ_cons, List.drop_zero, List.reverse_cons, List.reverse_nil, Nat.le_refl, fL_minute_349, fL_minute_351, fL_minute_353, fL_minute_354, fL_minute_355, fL_minute_356, fL_minute_357, xvz_20, xvz_21, xvz_22, xvz_23, xvz_24, xvz_25, xvz_26, xvz_27, xvz_28, xvz_29, xrz_20, xrz_21, xrz_22, xrz_23, xrz_24, xrz_25, xrz_26, xrz_27, xrz_28, xrz_29, xdz_20, xdz_21, xdz_22, xdz_23, xdz_24, xdz_25, xdz_26, xdz_27, xdz_28, xdz_29, xlen, xcat, xc1, Nat.zero_le, Nat.reduceLeDiff, List.length_cons, List.length_nil, r3, ru, hlt, i0, i60, z0, rx0, hz]
    refine yru_ok hC [511, 368] 6 _ _ _ _ ?_
    simp only [ykk_ap, Int.reduceEq, Int.reduceLT, Int.reduceLE, Int.reduceNeg, Int.reduceAdd, Int.reduceSub, Int.reduceMul, and_self, false_and, and_false, not_true_eq_false, not_false_eq_true, true_implies, false_implies, xq0, xq1, xq2, xq3, xq4, xq5, xqR, xq1R, xq3R, xt1, xt2, xt3, List.mem_cons, List.not_mem_nil, or_false, false_or, or_self, if_false, if_true, reduceIte, reduceCtorEq, xent, xen, List.length_cons, List.length_nil, List.replicate, j_c, j_cJ, j_ild, j_ald, j_lld, j_ist, j_ast, j_lst, j_inc, j_add, j_sub, j_mul, j_neg, j_div, j_rem, j_and, j_shr, j_shl1, j_or, j_ladd, j_lsub, j_lmul, j_i2l, j_lcmp, j_i2c, j_dup, j_dup2, j_pop, j_goto, j_ieq, j_ine, j_ilt, j_ige, j_igt, j_ile, j_eq, j_ne, j_lt, j_ge, j_gt, j_le, xsw, j_tsw, j_gI, j_gJ, j_gR, j_pI, j_pJ, j_gs, j_iald, j_iast, j_cald, j_cast, j_aald, j_cpy, j_min, j_max, j_abs, j_iret, j_zret, j_lret, j_dret, j_ret0, j_V0, j_V1, j_V2, j_V3, j_V4, j_V5, j_S1, j_S2, j_S3, xget, xset, xset2, xclr, xc1, xcat, Nat.reduceAdd, Nat.reduceEqDiff, Nat.reduceLT, Nat.reduceLeDiff, Nat.reduceMul, List.cons_append, List.nil_append, true_and, and_true, List.singleton_append, j_lsw2, j_Sn, j_ush, j_dupx2, List.take_succ_cons, List.take_zero, List.drop_succ_cons, List.drop_zero, List.reverse_cons, List.reverse_nil, Nat.le_refl, fL_minute_360, fL_minute_362, fL_minute_364, fL_minute_365, xvz_20, xvz_21, xvz_22, xvz_23, xvz_24, xvz_25, xvz_26, xvz_27, xvz_28, xvz_29, xrz_20, xrz_21, xrz_22, xrz_23, xrz_24, xrz_25, xrz_26, xrz_27, xrz_28, xrz_29, xdz_20, xdz_21, xdz_22, xdz_23, xdz_24, xdz_25, xdz_26, xdz_27, xdz_28, xdz_29, xlen, xcat, xc1, Nat.zero_le, Nat.reduceLeDiff, List.length_cons, List.length_nil, r3, ru, hlt, i0, i60, z0, rx0, hz]
    refine yru_ok hC [349] 4 _ _ _ _ ?_
    simp only [ykk_ap, Int.reduceEq, Int.reduceLT, Int.reduceLE, Int.reduceNeg, Int.reduceAdd, Int.reduceSub, Int.reduceMul, and_self, false_and, and_false, not_true_eq_false, not_false_eq_true, true_implies, false_implies, xq0, xq1, xq2, xq3, xq4, xq5, xqR, xq1R, xq3R, xt1, xt2, xt3, List.mem_cons, List.not_mem_nil, or_false, false_or, or_self, if_false, if_true, reduceIte, reduceCtorEq, xent, xen, List.length_cons, List.length_nil, List.replicate, j_c, j_cJ, j_ild, j_ald, j_lld, j_ist, j_ast, j_lst, j_inc, j_add, j_sub, j_mul, j_neg, j_div, j_rem, j_and, j_shr, j_shl1, j_or, j_ladd, j_lsub, j_lmul, j_i2l, j_lcmp, j_i2c, j_dup, j_dup2, j_pop, j_goto, j_ieq, j_ine, j_ilt, j_ige, j_igt, j_ile, j_eq, j_ne, j_lt, j_ge, j_gt, j_le, xsw, j_tsw, j_gI, j_gJ, j_gR, j_pI, j_pJ, j_gs, j_iald, j_iast, j_cald, j_cast, j_aald, j_cpy, j_min, j_max, j_abs, j_iret, j_zret, j_lret, j_dret, j_ret0, j_V0, j_V1, j_V2, j_V3, j_V4, j_V5, j_S1, j_S2, j_S3, xget, xset, xset2, xclr, xc1, xcat, Nat.reduceAdd, Nat.reduceEqDiff, Nat.reduceLT, Nat.reduceLeDiff, Nat.reduceMul, List.cons_append, List.nil_append, true_and, and_true, List.singleton_append, j_lsw2, j_Sn, j_ush, j_dupx2, List.take_succ_cons, List.take_zero, List.drop_succ_cons, List.drop_zero, List.reverse_cons, List.reverse_nil, Nat.le_refl, fL_minute_511, fL_minute_514, xvz_20, xvz_21, xvz_22, xvz_23, xvz_24, xvz_25, xvz_26, xvz_27, xvz_28, xvz_29, xrz_20, xrz_21, xrz_22, xrz_23, xrz_24, xrz_25, xrz_26, xrz_27, xrz_28, xrz_29, xdz_20, xdz_21, xdz_22, xdz_23, xdz_24, xdz_25, xdz_26, xdz_27, xdz_28, xdz_29, xlen, xcat, xc1, Nat.zero_le, Nat.reduceLeDiff, List.length_cons, List.length_nil, r3, ru, hlt, i0, i60, z0, rx0, hz]
    exact hb
  have V0 := RV_0 hR h0 h1 hz
  refine yru_ok hC [517, 360] 9 _ _ _ _ ?_
  simp only [ykk_ap, Int.reduceEq, Int.reduceLT, Int.reduceLE, Int.reduceNeg, Int.reduceAdd, Int.reduceSub, Int.reduceMul, and_self, false_and, and_false, not_true_eq_false, not_false_eq_true, true_implies, false_implies, xq0, xq1, xq2, xq3, xq4, xq5, xqR, xq1R, xq3R, xt1, xt2, xt3, List.mem_cons, List.not_mem_nil, or_false, false_or, or_self, if_false, if_true, reduceIte, reduceCtorEq, xent, xen, List.length_cons, List.length_nil, List.replicate, j_c, j_cJ, j_ild, j_ald, j_lld, j_ist, j_ast, j_lst, j_inc, j_add, j_sub, j_mul, j_neg, j_div, j_rem, j_and, j_shr, j_shl1, j_or, j_ladd, j_lsub, j_lmul, j_i2l, j_lcmp, j_i2c, j_dup, j_dup2, j_pop, j_goto, j_ieq, j_ine, j_ilt, j_ige, j_igt, j_ile, j_eq, j_ne, j_lt, j_ge, j_gt, j_le, xsw, j_tsw, j_gI, j_gJ, j_gR, j_pI, j_pJ, j_gs, j_iald, j_iast, j_cald, j_cast, j_aald, j_cpy, j_min, j_max, j_abs, j_iret, j_zret, j_lret, j_dret, j_ret0, j_V0, j_V1, j_V2, j_V3, j_V4, j_V5, j_S1, j_S2, j_S3, xget, xset, xset2, xclr, xc1, xcat, Nat.reduceAdd, Nat.reduceEqDiff, Nat.reduceLT, Nat.reduceLeDiff, Nat.reduceMul, List.cons_append, List.nil_append, true_and, and_true, List.singleton_append, j_lsw2, j_Sn, j_ush, j_dupx2, List.take_succ_cons, List.take_zero, List.drop_succ_cons, List.drop_zero, List.reverse_cons, List.reverse_nil, Nat.le_refl, fL_minute_349, fL_minute_351, fL_minute_353, fL_minute_354, fL_minute_355, fL_minute_356, fL_minute_357, xvz_20, xvz_21, xvz_22, xvz_23, xvz_24, xvz_25, xvz_26, xvz_27, xvz_28, xvz_29, xrz_20, xrz_21, xrz_22, xrz_23, xrz_24, xrz_25, xrz_26, xrz_27, xrz_28, xrz_29, xdz_20, xdz_21, xdz_22, xdz_23, xdz_24, xdz_25, xdz_26, xdz_27, xdz_28, xdz_29, xlen, xcat, xc1, Nat.zero_le, Nat.reduceLeDiff, List.length_cons, List.length_nil, r3, ru, hlt, i0, i60, z0, rx0, hz, xr_c (n := 0) rfl]
  refine yru_ok hC [511, 368] 6 _ _ _ _ ?_
  simp only [ykk_ap, Int.reduceEq, Int.reduceLT, Int.reduceLE, Int.reduceNeg, Int.reduceAdd, Int.reduceSub, Int.reduceMul, and_self, false_and, and_false, not_true_eq_false, not_false_eq_true, true_implies, false_implies, xq0, xq1, xq2, xq3, xq4, xq5, xqR, xq1R, xq3R, xt1, xt2, xt3, List.mem_cons, List.not_mem_nil, or_false, false_or, or_self, if_false, if_true, reduceIte, reduceCtorEq, xent, xen, List.length_cons, List.length_nil, List.replicate, j_c, j_cJ, j_ild, j_ald, j_lld, j_ist, j_ast, j_lst, j_inc, j_add, j_sub, j_mul, j_neg, j_div, j_rem, j_and, j_shr, j_shl1, j_or, j_ladd, j_lsub, j_lmul, j_i2l, j_lcmp, j_i2c, j_dup, j_dup2, j_pop, j_goto, j_ieq, j_ine, j_ilt, j_ige, j_igt, j_ile, j_eq, j_ne, j_lt, j_ge, j_gt, j_le, xsw, j_tsw, j_gI, j_gJ, j_gR, j_pI, j_pJ, j_gs, j_iald, j_iast, j_cald, j_cast, j_aald, j_cpy, j_min, j_max, j_abs, j_iret, j_zret, j_lret, j_dret, j_ret0, j_V0, j_V1, j_V2, j_V3, j_V4, j_V5, j_S1, j_S2, j_S3, xget, xset, xset2, xclr, xc1, xcat, Nat.reduceAdd, Nat.reduceEqDiff, Nat.reduceLT, Nat.reduceLeDiff, Nat.reduceMul, List.cons_append, List.nil_append, true_and, and_true, List.singleton_append, j_lsw2, j_Sn, j_ush, j_dupx2, List.take_succ_cons, List.take_zero, List.drop_succ_cons, List.drop_zero, List.reverse_cons, List.reverse_nil, Nat.le_refl, fL_minute_360, fL_minute_362, fL_minute_364, fL_minute_365, xvz_20, xvz_21, xvz_22, xvz_23, xvz_24, xvz_25, xvz_26, xvz_27, xvz_28, xvz_29, xrz_20, xrz_21, xrz_22, xrz_23, xrz_24, xrz_25, xrz_26, xrz_27, xrz_28, xrz_29, xdz_20, xdz_21, xdz_22, xdz_23, xdz_24, xdz_25, xdz_26, xdz_27, xdz_28, xdz_29, xlen, xcat, xc1, Nat.zero_le, Nat.reduceLeDiff, List.length_cons, List.length_nil, r3, ru, hlt, i0, i60, z0, rx0, hz, xr_c (n := 0) rfl]
  refine yru_ok hC [386] 12 _ _ _ _ ?_
  simp only [ykk_ap, Int.reduceEq, Int.reduceLT, Int.reduceLE, Int.reduceNeg, Int.reduceAdd, Int.reduceSub, Int.reduceMul, and_self, false_and, and_false, not_true_eq_false, not_false_eq_true, true_implies, false_implies, xq0, xq1, xq2, xq3, xq4, xq5, xqR, xq1R, xq3R, xt1, xt2, xt3, List.mem_cons, List.not_mem_nil, or_false, false_or, or_self, if_false, if_true, reduceIte, reduceCtorEq, xent, xen, List.length_cons, List.length_nil, List.replicate, j_c, j_cJ, j_ild, j_ald, j_lld, j_ist, j_ast, j_lst, j_inc, j_add, j_sub, j_mul, j_neg, j_div, j_rem, j_and, j_shr, j_shl1, j_or, j_ladd, j_lsub, j_lmul, j_i2l, j_lcmp, j_i2c, j_dup, j_dup2, j_pop, j_goto, j_ieq, j_ine, j_ilt, j_ige, j_igt, j_ile, j_eq, j_ne, j_lt, j_ge, j_gt, j_le, xsw, j_tsw, j_gI, j_gJ, j_gR, j_pI, j_pJ, j_gs, j_iald, j_iast, j_cald, j_cast, j_aald, j_cpy, j_min, j_max, j_abs, j_iret, j_zret, j_lret, j_dret, j_ret0, j_V0, j_V1, j_V2, j_V3, j_V4, j_V5, j_S1, j_S2, j_S3, xget, xset, xset2, xclr, xc1, xcat, Nat.reduceAdd, Nat.reduceEqDiff, Nat.reduceLT, Nat.reduceLeDiff, Nat.reduceMul, List.cons_append, List.nil_append, true_and, and_true, List.singleton_append, j_lsw2, j_Sn, j_ush, j_dupx2, List.take_succ_cons, List.take_zero, List.drop_succ_cons, List.drop_zero, List.reverse_cons, List.reverse_nil, Nat.le_refl, fL_minute_368, fL_minute_369, fL_minute_370, fL_minute_372, fL_minute_374, fL_minute_376, fL_minute_378, fL_minute_380, fL_minute_382, fL_minute_383, xvz_20, xvz_21, xvz_22, xvz_23, xvz_24, xvz_25, xvz_26, xvz_27, xvz_28, xvz_29, xrz_20, xrz_21, xrz_22, xrz_23, xrz_24, xrz_25, xrz_26, xrz_27, xrz_28, xrz_29, xdz_20, xdz_21, xdz_22, xdz_23, xdz_24, xdz_25, xdz_26, xdz_27, xdz_28, xdz_29, xlen, xcat, xc1, Nat.zero_le, Nat.reduceLeDiff, List.length_cons, List.length_nil, r3, ru, hlt, i0, i60, z0, rx0, hz, xr_c (n := 0) rfl]
  refine uv_serve hR h0 h1 ht hz V0 (Or.inl rfl) (Or.inl ⟨rfl, rfl⟩) (fun M1 F1 T1 V1 => ?_)
  refine yru_ok hC [404] 12 _ _ _ _ ?_
  simp only [ykk_ap, Int.reduceEq, Int.reduceLT, Int.reduceLE, Int.reduceNeg, Int.reduceAdd, Int.reduceSub, Int.reduceMul, and_self, false_and, and_false, not_true_eq_false, not_false_eq_true, true_implies, false_implies, xq0, xq1, xq2, xq3, xq4, xq5, xqR, xq1R, xq3R, xt1, xt2, xt3, List.mem_cons, List.not_mem_nil, or_false, false_or, or_self, if_false, if_true, reduceIte, reduceCtorEq, xent, xen, List.length_cons, List.length_nil, List.replicate, j_c, j_cJ, j_ild, j_ald, j_lld, j_ist, j_ast, j_lst, j_inc, j_add, j_sub, j_mul, j_neg, j_div, j_rem, j_and, j_shr, j_shl1, j_or, j_ladd, j_lsub, j_lmul, j_i2l, j_lcmp, j_i2c, j_dup, j_dup2, j_pop, j_goto, j_ieq, j_ine, j_ilt, j_ige, j_igt, j_ile, j_eq, j_ne, j_lt, j_ge, j_gt, j_le, xsw, j_tsw, j_gI, j_gJ, j_gR, j_pI, j_pJ, j_gs, j_iald, j_iast, j_cald, j_cast, j_aald, j_cpy, j_min, j_max, j_abs, j_iret, j_zret, j_lret, j_dret, j_ret0, j_V0, j_V1, j_V2, j_V3, j_V4, j_V5, j_S1, j_S2, j_S3, xget, xset, xset2, xclr, xc1, xcat, Nat.reduceAdd, Nat.reduceEqDiff, Nat.reduceLT, Nat.reduceLeDiff, Nat.reduceMul, List.cons_append, List.nil_append, true_and, and_true, List.singleton_append, j_lsw2, j_Sn, j_ush, j_dupx2, List.take_succ_cons, List.take_zero, List.drop_succ_cons, List.drop_zero, List.reverse_cons, List.reverse_nil, Nat.le_refl, fL_minute_386, fL_minute_387, fL_minute_388, fL_minute_390, fL_minute_392, fL_minute_394, fL_minute_396, fL_minute_398, fL_minute_400, fL_minute_401, xvz_20, xvz_21, xvz_22, xvz_23, xvz_24, xvz_25, xvz_26, xvz_27, xvz_28, xvz_29, xrz_20, xrz_21, xrz_22, xrz_23, xrz_24, xrz_25, xrz_26, xrz_27, xrz_28, xrz_29, xdz_20, xdz_21, xdz_22, xdz_23, xdz_24, xdz_25, xdz_26, xdz_27, xdz_28, xdz_29, xlen, xcat, xc1, Nat.zero_le, Nat.reduceLeDiff, List.length_cons, List.length_nil]
  refine uv_serve hR h0 h1 ht hz V1 (Or.inr rfl) (Or.inr ⟨rfl, rfl⟩) (fun M2 F2 T2 V2 => ?_)
  refine yru_ok hC [422] 12 _ _ _ _ ?_
  simp only [ykk_ap, Int.reduceEq, Int.reduceLT, Int.reduceLE, Int.reduceNeg, Int.reduceAdd, Int.reduceSub, Int.reduceMul, and_self, false_and, and_false, not_true_eq_false, not_false_eq_true, true_implies, false_implies, xq0, xq1, xq2, xq3, xq4, xq5, xqR, xq1R, xq3R, xt1, xt2, xt3, List.mem_cons, List.not_mem_nil, or_false, false_or, or_self, if_false, if_true, reduceIte, reduceCtorEq, xent, xen, List.length_cons, List.length_nil, List.replicate, j_c, j_cJ, j_ild, j_ald, j_lld, j_ist, j_ast, j_lst, j_inc, j_add, j_sub, j_mul, j_neg, j_div, j_rem, j_and, j_shr, j_shl1, j_or, j_ladd, j_lsub, j_lmul, j_i2l, j_lcmp, j_i2c, j_dup, j_dup2, j_pop, j_goto, j_ieq, j_ine, j_ilt, j_ige, j_igt, j_ile, j_eq, j_ne, j_lt, j_ge, j_gt, j_le, xsw, j_tsw, j_gI, j_gJ, j_gR, j_pI, j_pJ, j_gs, j_iald, j_iast, j_cald, j_cast, j_aald, j_cpy, j_min, j_max, j_abs, j_iret, j_zret, j_lret, j_dret, j_ret0, j_V0, j_V1, j_V2, j_V3, j_V4, j_V5, j_S1, j_S2, j_S3, xget, xset, xset2, xclr, xc1, xcat, Nat.reduceAdd, Nat.reduceEqDiff, Nat.reduceLT, Nat.reduceLeDiff, Nat.reduceMul, List.cons_append, List.nil_append, true_and, and_true, List.singleton_append, j_lsw2, j_Sn, j_ush, j_dupx2, List.take_succ_cons, List.take_zero, List.drop_succ_cons, List.drop_zero, List.reverse_cons, List.reverse_nil, Nat.le_refl, fL_minute_404, fL_minute_405, fL_minute_406, fL_minute_408, fL_minute_410, fL_minute_412, fL_minute_414, fL_minute_416, fL_minute_418, fL_minute_419, xvz_20, xvz_21, xvz_22, xvz_23, xvz_24, xvz_25, xvz_26, xvz_27, xvz_28, xvz_29, xrz_20, xrz_21, xrz_22, xrz_23, xrz_24, xrz_25, xrz_26, xrz_27, xrz_28, xrz_29, xdz_20, xdz_21, xdz_22, xdz_23, xdz_24, xdz_25, xdz_26, xdz_27, xdz_28, xdz_29, xlen, xcat, xc1, Nat.zero_le, Nat.reduceLeDiff, List.length_cons, List.length_nil]
  refine uv_serve hR h0 h1 ht hz V2 (Or.inr rfl) (Or.inl ⟨rfl, rfl⟩) (fun M3 F3 T3 V3 => ?_)
  obtain ⟨H, hH⟩ : ∃ H : XM, H = sv 7 0 0 u (sv 7 1 0 u (sv 6 0 0 u G)) := ⟨_, rfl⟩
  rw [← hH] at V3
  have V3' := V3
  obtain ⟨v1, v2, v3, v4, v5, v6, v7, v8, v9, v10, v11, v12, v13, v14, v15⟩ := V3'
  obtain ⟨e1, e2, e3, e4, e5, e6, e7, e8, e9⟩ := e hz
  have w8 := e1 8 (by decide) (by decide)
  have w6 := e1 6 (by decide) (by decide)
  have w7 := e1 7 (by decide) (by decide)
  rw [Gp_s (by decide)] at w8 w6 w7
  have j6 : 0 ≤ 12 * u + 6 ∧ 12 * u + 6 < 60 := by omega
  have j7 : 0 ≤ 12 * u + 7 ∧ 12 * u + 7 < 60 := by omega
  have j8 : 0 ≤ 12 * u + 8 ∧ 12 * u + 8 < 60 := by omega
  have j10 : 0 ≤ 12 * u + 10 ∧ 12 * u + 10 < 60 := by omega
  have x6 : M3 28 0 0 (12 * u + 6) = H 14 0 u 6 := by rw [v9, if_pos rfl]
  have x7 : M3 28 0 0 (12 * u + 7) = H 14 0 u 7 := by rw [v9, if_neg (by omega), if_pos rfl]
  have x8 : M3 28 0 0 (12 * u + 8) = xU M u 8 := by rw [v9, if_neg (by omega), if_neg (by omega), if_neg (by omega)]; rfl
  have x10 : M3 28 0 0 (12 * u + 10) = G 14 0 u 10 := by rw [v9, if_neg (by omega), if_neg (by omega), if_neg (by omega), a10]; rfl
  have m4 : M3 20 0 0 4 = M 20 0 0 4 := v8.2 4 (by decide) (by decide)
  have m7 : M3 20 0 0 7 = 15 := by rw [v8.2 7 (by decide) (by decide)]; exact c1.2.1
  have m8 : M3 20 0 0 8 = 1 := by rw [v8.2 8 (by decide) (by decide)]; exact c1.2.2.1
  have m18 : M3 20 0 0 18 = M 20 0 0 18 := v8.2 18 (by decide) (by decide)
  have H10 : H 14 0 u 10 = G 14 0 u 10 := v4 10 (by decide) (by decide) (by decide) (by decide)
  have H1 : H 1 = G 1 := v1 1 (by decide) (by decide) (by decide) (by decide)
  have H2 : H 2 = G 2 := v1 2 (by decide) (by decide) (by decide) (by decide)
  have ro : XInR (H 14 0 u 6 + H 14 0 u 7) := ⟨by omega, by omega⟩
  have r15 : XInR (M 20 0 0 4 - xU M u 8) := ⟨by omega, by omega⟩
  have ozle := oZ_le hR (u + 1)
  have zG := zN G (fun _ _ _ => rfl)
  have pb := pen_b (z := oZ (u + 1) G) hP ht1 ht (by omega)
  have fin : ∀ (M4 : XM) (y9 : Option XV), RE u (pv H u - G 14 0 u 10) M H M3 M4 → 0 ≤ pv H u → pv H u - G 14 0 u 10 ≤ H 14 0 u 6 + H 14 0 u 7 → WW 349 [some (xR 20 0 0), some (xR 22 0 0), some (xR 24 0 0), some (xR 25 0 0), some (xR 26 0 0), some (xR 27 0 0), some (xR 28 0 0), some (xR 29 0 0), some (xI (12 * u + 12)), y9] [] M4 := fun M4 y9 hE hp hle => by
    refine h M4 F3 T3 y9 (kL_min_E2 hR h0 h1 hz hH V3 hE hp) (by rw [hE.2.1 3 (by decide), v8.2 3 (by decide) (by decide)]) (by rw [hE.2.1 4 (by decide), m4]) ?_ (fun t ht => by rw [hE.1 t (by omega) (by omega), v8.1 t (by omega) (by omega) (by omega)])
    rw [hE.2.2.1, zN _ (fun v s ev => srv_ne ev)]
    by_cases c : 0 < G 14 0 u 6 + G 14 0 u 7
    · rw [show srv 0 u G = H by unfold srv; rw [if_pos c, hH]]
      omega
    · rw [show srv 0 u G = G by unfold srv; rw [if_neg c]]
      omega
  by_cases ho : H 14 0 u 6 + H 14 0 u 7 = 0
  · have h8 : H 14 0 u 8 = -1 := by rw [v7, if_pos ho]
    have ep : pv H u = G 14 0 u 10 := by unfold pv; rw [if_neg (fun z => z.1 h8), H10]
    have fin' := fun y9 => fin (xup M3 28 0 0 (12 * u + 8) (-1)) y9 ⟨fun t x y => by rw [xup_tag y], fun s x => by rw [xup_tag (by decide)], by rw [xup_tag (by decide), m18, ep]; omega, fun n => by
      rw [xup_row, h8, ep]
      simp only [sup_at]
      by_cases n8 : n = 12 * u + 8
      · rw [if_pos n8, if_pos n8]
      · rw [if_neg n8, if_neg n8]
        by_cases n10 : n = 12 * u + 10
        · rw [if_pos n10, n10, x10]
        · rw [if_neg n10]⟩ (by rw [ep]; omega) (by omega)
    refine yru_ok hC [455, 446] 16 _ _ _ _ ?_
    simp only [ykk_ap, Int.reduceEq, Int.reduceLT, Int.reduceLE, Int.reduceNeg, Int.reduceAdd, Int.reduceSub, Int.reduceMul, and_self, false_and, and_false, not_true_eq_false, not_false_eq_true, true_implies, false_implies, xq0, xq1, xq2, xq3, xq4, xq5, xqR, xq1R, xq3R, xt1, xt2, xt3, List.mem_cons, List.not_mem_nil, or_false, false_or, or_self, if_false, if_true, reduceIte, reduceCtorEq, xent, xen, List.length_cons, List.length_nil, List.replicate, j_c, j_cJ, j_ild, j_ald, j_lld, j_ist, j_ast, j_lst, j_inc, j_add, j_sub, j_mul, j_neg, j_div, j_rem, j_and, j_shr, j_shl1, j_or, j_ladd, j_lsub, j_lmul, j_i2l, j_lcmp, j_i2c, j_dup, j_dup2, j_pop, j_goto, j_ieq, j_ine, j_ilt, j_ige, j_igt, j_ile, j_eq, j_ne, j_lt, j_ge, j_gt, j_le, xsw, j_tsw, j_gI, j_gJ, j_gR, j_pI, j_pJ, j_gs, j_iald, j_iast, j_cald, j_cast, j_aald, j_cpy, j_min, j_max, j_abs, j_iret, j_zret, j_lret, j_dret, j_ret0, j_V0, j_V1, j_V2, j_V3, j_V4, j_V5, j_S1, j_S2, j_S3, xget, xset, xset2, xclr, xc1, xcat, Nat.reduceAdd, Nat.reduceEqDiff, Nat.reduceLT, Nat.reduceLeDiff, Nat.reduceMul, List.cons_append, List.nil_append, true_and, and_true, List.singleton_append, j_lsw2, j_Sn, j_ush, j_dupx2, List.take_succ_cons, List.take_zero, List.drop_succ_cons, List.drop_zero, List.reverse_cons, List.reverse_nil, Nat.le_refl, fL_minute_422, fL_minute_424, fL_minute_426, fL_minute_428, fL_minute_429, fL_minute_430, fL_minute_432, fL_minute_434, fL_minute_436, fL_minute_437, fL_minute_438, fL_minute_439, fL_minute_441, fL_minute_443, xvz_20, xvz_21, xvz_22, xvz_23, xvz_24, xvz_25, xvz_26, xvz_27, xvz_28, xvz_29, xrz_20, xrz_21, xrz_22, xrz_23, xrz_24, xrz_25, xrz_26, xrz_27, xrz_28, xrz_29, xdz_20, xdz_21, xdz_22, xdz_23, xdz_24, xdz_25, xdz_26, xdz_27, xdz_28, xdz_29, xlen, xcat, xc1, Nat.zero_le, Nat.reduceLeDiff, List.length_cons, List.length_nil, j6, j7, j8, x6, x7, ro, ho, Int.reduceNeg, Int.le_refl, xr_c (n := 0) rfl, xr_c (n := 15) rfl]
    refine yru_ok hC [455] 8 _ _ _ _ ?_
    simp only [ykk_ap, Int.reduceEq, Int.reduceLT, Int.reduceLE, Int.reduceNeg, Int.reduceAdd, Int.reduceSub, Int.reduceMul, and_self, false_and, and_false, not_true_eq_false, not_false_eq_true, true_implies, false_implies, xq0, xq1, xq2, xq3, xq4, xq5, xqR, xq1R, xq3R, xt1, xt2, xt3, List.mem_cons, List.not_mem_nil, or_false, false_or, or_self, if_false, if_true, reduceIte, reduceCtorEq, xent, xen, List.length_cons, List.length_nil, List.replicate, j_c, j_cJ, j_ild, j_ald, j_lld, j_ist, j_ast, j_lst, j_inc, j_add, j_sub, j_mul, j_neg, j_div, j_rem, j_and, j_shr, j_shl1, j_or, j_ladd, j_lsub, j_lmul, j_i2l, j_lcmp, j_i2c, j_dup, j_dup2, j_pop, j_goto, j_ieq, j_ine, j_ilt, j_ige, j_igt, j_ile, j_eq, j_ne, j_lt, j_ge, j_gt, j_le, xsw, j_tsw, j_gI, j_gJ, j_gR, j_pI, j_pJ, j_gs, j_iald, j_iast, j_cald, j_cast, j_aald, j_cpy, j_min, j_max, j_abs, j_iret, j_zret, j_lret, j_dret, j_ret0, j_V0, j_V1, j_V2, j_V3, j_V4, j_V5, j_S1, j_S2, j_S3, xget, xset, xset2, xclr, xc1, xcat, Nat.reduceAdd, Nat.reduceEqDiff, Nat.reduceLT, Nat.reduceLeDiff, Nat.reduceMul, List.cons_append, List.nil_append, true_and, and_true, List.singleton_append, j_lsw2, j_Sn, j_ush, j_dupx2, List.take_succ_cons, List.take_zero, List.drop_succ_cons, List.drop_zero, List.reverse_cons, List.reverse_nil, Nat.le_refl, fL_minute_446, fL_minute_448, fL_minute_450, fL_minute_452, fL_minute_453, fL_minute_454, xvz_20, xvz_21, xvz_22, xvz_23, xvz_24, xvz_25, xvz_26, xvz_27, xvz_28, xvz_29, xrz_20, xrz_21, xrz_22, xrz_23, xrz_24, xrz_25, xrz_26, xrz_27, xrz_28, xrz_29, xdz_20, xdz_21, xdz_22, xdz_23, xdz_24, xdz_25, xdz_26, xdz_27, xdz_28, xdz_29, xlen, xcat, xc1, Nat.zero_le, Nat.reduceLeDiff, List.length_cons, List.length_nil, j6, j7, j8, x6, x7, ro, ho, Int.reduceNeg, Int.le_refl, xr_c (n := 0) rfl, xr_c (n := 15) rfl]
    refine yru_ok hC [511, 460] 4 _ _ _ _ ?_
    simp only [ykk_ap, Int.reduceEq, Int.reduceLT, Int.reduceLE, Int.reduceNeg, Int.reduceAdd, Int.reduceSub, Int.reduceMul, and_self, false_and, and_false, not_true_eq_false, not_false_eq_true, true_implies, false_implies, xq0, xq1, xq2, xq3, xq4, xq5, xqR, xq1R, xq3R, xt1, xt2, xt3, List.mem_cons, List.not_mem_nil, or_false, false_or, or_self, if_false, if_true, reduceIte, reduceCtorEq, xent, xen, List.length_cons, List.length_nil, List.replicate, j_c, j_cJ, j_ild, j_ald, j_lld, j_ist, j_ast, j_lst, j_inc, j_add, j_sub, j_mul, j_neg, j_div, j_rem, j_and, j_shr, j_shl1, j_or, j_ladd, j_lsub, j_lmul, j_i2l, j_lcmp, j_i2c, j_dup, j_dup2, j_pop, j_goto, j_ieq, j_ine, j_ilt, j_ige, j_igt, j_ile, j_eq, j_ne, j_lt, j_ge, j_gt, j_le, xsw, j_tsw, j_gI, j_gJ, j_gR, j_pI, j_pJ, j_gs, j_iald, j_iast, j_cald, j_cast, j_aald, j_cpy, j_min, j_max, j_abs, j_iret, j_zret, j_lret, j_dret, j_ret0, j_V0, j_V1, j_V2, j_V3, j_V4, j_V5, j_S1, j_S2, j_S3, xget, xset, xset2, xclr, xc1, xcat, Nat.reduceAdd, Nat.reduceEqDiff, Nat.reduceLT, Nat.reduceLeDiff, Nat.reduceMul, List.cons_append, List.nil_append, true_and, and_true, List.singleton_append, j_lsw2, j_Sn, j_ush, j_dupx2, List.take_succ_cons, List.take_zero, List.drop_succ_cons, List.drop_zero, List.reverse_cons, List.reverse_nil, Nat.le_refl, fL_minute_455, fL_minute_457, xvz_20, xvz_21, xvz_22, xvz_23, xvz_24, xvz_25, xvz_26, xvz_27, xvz_28, xvz_29, xrz_20, xrz_21, xrz_22, xrz_23, xrz_24, xrz_25, xrz_26, xrz_27, xrz_28, xrz_29, xdz_20, xdz_21, xdz_22, xdz_23, xdz_24, xdz_25, xdz_26, xdz_27, xdz_28, xdz_29, xlen, xcat, xc1, Nat.zero_le, Nat.reduceLeDiff, List.length_cons, List.length_nil, j6, j7, j8, x6, x7, ro, ho, Int.reduceNeg, Int.le_refl, xr_c (n := 0) rfl, xr_c (n := 15) rfl]
    refine yru_ok hC [349] 4 _ _ _ _ ?_
    simp only [ykk_ap, Int.reduceEq, Int.reduceLT, Int.reduceLE, Int.reduceNeg, Int.reduceAdd, Int.reduceSub, Int.reduceMul, and_self, false_and, and_false, not_true_eq_false, not_false_eq_true, true_implies, false_implies, xq0, xq1, xq2, xq3, xq4, xq5, xqR, xq1R, xq3R, xt1, xt2, xt3, List.mem_cons, List.not_mem_nil, or_false, false_or, or_self, if_false, if_true, reduceIte, reduceCtorEq, xent, xen, List.length_cons, List.length_nil, List.replicate, j_c, j_cJ, j_ild, j_ald, j_lld, j_ist, j_ast, j_lst, j_inc, j_add, j_sub, j_mul, j_neg, j_div, j_rem, j_and, j_shr, j_shl1, j_or, j_ladd, j_lsub, j_lmul, j_i2l, j_lcmp, j_i2c, j_dup, j_dup2, j_pop, j_goto, j_ieq, j_ine, j_ilt, j_ige, j_igt, j_ile, j_eq, j_ne, j_lt, j_ge, j_gt, j_le, xsw, j_tsw, j_gI, j_gJ, j_gR, j_pI, j_pJ, j_gs, j_iald, j_iast, j_cald, j_cast, j_aald, j_cpy, j_min, j_max, j_abs, j_iret, j_zret, j_lret, j_dret, j_ret0, j_V0, j_V1, j_V2, j_V3, j_V4, j_V5, j_S1, j_S2, j_S3, xget, xset, xset2, xclr, xc1, xcat, Nat.reduceAdd, Nat.reduceEqDiff, Nat.reduceLT, Nat.reduceLeDiff, Nat.reduceMul, List.cons_append, List.nil_append, true_and, and_true, List.singleton_append, j_lsw2, j_Sn, j_ush, j_dupx2, List.take_succ_cons, List.take_zero, List.drop_succ_cons, List.drop_zero, List.reverse_cons, List.reverse_nil, Nat.le_refl, fL_minute_511, fL_minute_514, xvz_20, xvz_21, xvz_22, xvz_23, xvz_24, xvz_25, xvz_26, xvz_27, xvz_28, xvz_29, xrz_20, xrz_21, xrz_22, xrz_23, xrz_24, xrz_25, xrz_26, xrz_27, xrz_28, xrz_29, xdz_20, xdz_21, xdz_22, xdz_23, xdz_24, xdz_25, xdz_26, xdz_27, xdz_28, xdz_29, xlen, xcat, xc1, Nat.zero_le, Nat.reduceLeDiff, List.length_cons, List.length_nil, j6, j7, j8, x6, x7, ro, ho, Int.reduceNeg, Int.le_refl, xr_c (n := 0) rfl, xr_c (n := 15) rfl]
    exact fin' _
  · have h8 : H 14 0 u 8 = xU M u 8 := by rw [v7, if_neg ho, w8]
    have x8n : ¬ xU M u 8 = -1 := fun z => by
      have := e7.mp z
      omega
    have hle : ¬ H 14 0 u 6 + H 14 0 u 7 ≤ 0 := by omega
    by_cases hg : M 20 0 0 4 - xU M u 8 ≤ 15
    · have ep : pv H u = G 14 0 u 10 := by
        unfold pv
        rw [if_neg (fun z => ?_), H10]
        have z2 := z.2
        rw [H1, H2, h8, c6.2.2.2.2, c2.2.1] at z2
        omega
      have fin' := fun y9 => fin M3 y9 ⟨fun t x y => rfl, fun s x => rfl, by rw [m18, ep]; omega, fun n => by
        rw [h8, ep]
        by_cases n8 : n = 12 * u + 8
        · rw [if_pos n8, n8, x8]
        · rw [if_neg n8]
          by_cases n10 : n = 12 * u + 10
          · rw [if_pos n10, n10, x10]
          · rw [if_neg n10]⟩ (by rw [ep]; omega) (by omega)
      refine yru_ok hC [455, 446] 16 _ _ _ _ ?_
      simp only [ykk_ap, Int.reduceEq, Int.reduceLT, Int.reduceLE, Int.reduceNeg, Int.reduceAdd, Int.reduceSub, Int.reduceMul, and_self, false_and, and_false, not_true_eq_false, not_false_eq_true, true_implies, false_implies, xq0, xq1, xq2, xq3, xq4, xq5, xqR, xq1R, xq3R, xt1, xt2, xt3, List.mem_cons, List.not_mem_nil, or_false, false_or, or_self, if_false, if_true, reduceIte, reduceCtorEq, xent, xen, List.length_cons, List.length_nil, List.replicate, j_c, j_cJ, j_ild, j_ald, j_lld, j_ist, j_ast, j_lst, j_inc, j_add, j_sub, j_mul, j_neg, j_div, j_rem, j_and, j_shr, j_shl1, j_or, j_ladd, j_lsub, j_lmul, j_i2l, j_lcmp, j_i2c, j_dup, j_dup2, j_pop, j_goto, j_ieq, j_ine, j_ilt, j_ige, j_igt, j_ile, j_eq, j_ne, j_lt, j_ge, j_gt, j_le, xsw, j_tsw, j_gI, j_gJ, j_gR, j_pI, j_pJ, j_gs, j_iald, j_iast, j_cald, j_cast, j_aald, j_cpy, j_min, j_max, j_abs, j_iret, j_zret, j_lret, j_dret, j_ret0, j_V0, j_V1, j_V2, j_V3, j_V4, j_V5, j_S1, j_S2, j_S3, xget, xset, xset2, xclr, xc1, xcat, Nat.reduceAdd, Nat.reduceEqDiff, Nat.reduceLT, Nat.reduceLeDiff, Nat.reduceMul, List.cons_append, List.nil_append, true_and, and_true, List.singleton_append, j_lsw2, j_Sn, j_ush, j_dupx2, List.take_succ_cons, List.take_zero, List.drop_succ_cons, List.drop_zero, List.reverse_cons, List.reverse_nil, Nat.le_refl, fL_minute_422, fL_minute_424, fL_minute_426, fL_minute_428, fL_minute_429, fL_minute_430, fL_minute_432, fL_minute_434, fL_minute_436, fL_minute_437, fL_minute_438, fL_minute_439, fL_minute_441, fL_minute_443, xvz_20, xvz_21, xvz_22, xvz_23, xvz_24, xvz_25, xvz_26, xvz_27, xvz_28, xvz_29, xrz_20, xrz_21, xrz_22, xrz_23, xrz_24, xrz_25, xrz_26, xrz_27, xrz_28, xrz_29, xdz_20, xdz_21, xdz_22, xdz_23, xdz_24, xdz_25, xdz_26, xdz_27, xdz_28, xdz_29, xlen, xcat, xc1, Nat.zero_le, Nat.reduceLeDiff, List.length_cons, List.length_nil, j6, j7, j8, x6, x7, x8, m4, m7, ro, ho, hle, hg, r15, xr_c (n := 0) rfl, xr_c (n := 15) rfl]
      refine yru_ok hC [511, 460] 4 _ _ _ _ ?_
      simp only [ykk_ap, Int.reduceEq, Int.reduceLT, Int.reduceLE, Int.reduceNeg, Int.reduceAdd, Int.reduceSub, Int.reduceMul, and_self, false_and, and_false, not_true_eq_false, not_false_eq_true, true_implies, false_implies, xq0, xq1, xq2, xq3, xq4, xq5, xqR, xq1R, xq3R, xt1, xt2, xt3, List.mem_cons, List.not_mem_nil, or_false, false_or, or_self, if_false, if_true, reduceIte, reduceCtorEq, xent, xen, List.length_cons, List.length_nil, List.replicate, j_c, j_cJ, j_ild, j_ald, j_lld, j_ist, j_ast, j_lst, j_inc, j_add, j_sub, j_mul, j_neg, j_div, j_rem, j_and, j_shr, j_shl1, j_or, j_ladd, j_lsub, j_lmul, j_i2l, j_lcmp, j_i2c, j_dup, j_dup2, j_pop, j_goto, j_ieq, j_ine, j_ilt, j_ige, j_igt, j_ile, j_eq, j_ne, j_lt, j_ge, j_gt, j_le, xsw, j_tsw, j_gI, j_gJ, j_gR, j_pI, j_pJ, j_gs, j_iald, j_iast, j_cald, j_cast, j_aald, j_cpy, j_min, j_max, j_abs, j_iret, j_zret, j_lret, j_dret, j_ret0, j_V0, j_V1, j_V2, j_V3, j_V4, j_V5, j_S1, j_S2, j_S3, xget, xset, xset2, xclr, xc1, xcat, Nat.reduceAdd, Nat.reduceEqDiff, Nat.reduceLT, Nat.reduceLeDiff, Nat.reduceMul, List.cons_append, List.nil_append, true_and, and_true, List.singleton_append, j_lsw2, j_Sn, j_ush, j_dupx2, List.take_succ_cons, List.take_zero, List.drop_succ_cons, List.drop_zero, List.reverse_cons, List.reverse_nil, Nat.le_refl, fL_minute_455, fL_minute_457, xvz_20, xvz_21, xvz_22, xvz_23, xvz_24, xvz_25, xvz_26, xvz_27, xvz_28, xvz_29, xrz_20, xrz_21, xrz_22, xrz_23, xrz_24, xrz_25, xrz_26, xrz_27, xrz_28, xrz_29, xdz_20, xdz_21, xdz_22, xdz_23, xdz_24, xdz_25, xdz_26, xdz_27, xdz_28, xdz_29, xlen, xcat, xc1, Nat.zero_le, Nat.reduceLeDiff, List.length_cons, List.length_nil, j6, j7, j8, x6, x7, x8, m4, m7, ro, ho, hle, hg, r15, xr_c (n := 0) rfl, xr_c (n := 15) rfl]
      refine yru_ok hC [511, 479] 15 _ _ _ _ ?_
      simp only [ykk_ap, Int.reduceEq, Int.reduceLT, Int.reduceLE, Int.reduceNeg, Int.reduceAdd, Int.reduceSub, Int.reduceMul, and_self, false_and, and_false, not_true_eq_false, not_false_eq_true, true_implies, false_implies, xq0, xq1, xq2, xq3, xq4, xq5, xqR, xq1R, xq3R, xt1, xt2, xt3, List.mem_cons, List.not_mem_nil, or_false, false_or, or_self, if_false, if_true, reduceIte, reduceCtorEq, xent, xen, List.length_cons, List.length_nil, List.replicate, j_c, j_cJ, j_ild, j_ald, j_lld, j_ist, j_ast, j_lst, j_inc, j_add, j_sub, j_mul, j_neg, j_div, j_rem, j_and, j_shr, j_shl1, j_or, j_ladd, j_lsub, j_lmul, j_i2l, j_lcmp, j_i2c, j_dup, j_dup2, j_pop, j_goto, j_ieq, j_ine, j_ilt, j_ige, j_igt, j_ile, j_eq, j_ne, j_lt, j_ge, j_gt, j_le, xsw, j_tsw, j_gI, j_gJ, j_gR, j_pI, j_pJ, j_gs, j_iald, j_iast, j_cald, j_cast, j_aald, j_cpy, j_min, j_max, j_abs, j_iret, j_zret, j_lret, j_dret, j_ret0, j_V0, j_V1, j_V2, j_V3, j_V4, j_V5, j_S1, j_S2, j_S3, xget, xset, xset2, xclr, xc1, xcat, Nat.reduceAdd, Nat.reduceEqDiff, Nat.reduceLT, Nat.reduceLeDiff, Nat.reduceMul, List.cons_append, List.nil_append, true_and, and_true, List.singleton_append, j_lsw2, j_Sn, j_ush, j_dupx2, List.take_succ_cons, List.take_zero, List.drop_succ_cons, List.drop_zero, List.reverse_cons, List.reverse_nil, Nat.le_refl, fL_minute_460, fL_minute_461, fL_minute_462, fL_minute_463, fL_minute_465, fL_minute_467, fL_minute_469, fL_minute_470, fL_minute_471, fL_minute_472, fL_minute_473, fL_minute_475, fL_minute_476, xvz_20, xvz_21, xvz_22, xvz_23, xvz_24, xvz_25, xvz_26, xvz_27, xvz_28, xvz_29, xrz_20, xrz_21, xrz_22, xrz_23, xrz_24, xrz_25, xrz_26, xrz_27, xrz_28, xrz_29, xdz_20, xdz_21, xdz_22, xdz_23, xdz_24, xdz_25, xdz_26, xdz_27, xdz_28, xdz_29, xlen, xcat, xc1, Nat.zero_le, Nat.reduceLeDiff, List.length_cons, List.length_nil, j6, j7, j8, x6, x7, x8, m4, m7, ro, ho, hle, hg, r15, xr_c (n := 0) rfl, xr_c (n := 15) rfl]
      refine yru_ok hC [349] 4 _ _ _ _ ?_
      simp only [ykk_ap, Int.reduceEq, Int.reduceLT, Int.reduceLE, Int.reduceNeg, Int.reduceAdd, Int.reduceSub, Int.reduceMul, and_self, false_and, and_false, not_true_eq_false, not_false_eq_true, true_implies, false_implies, xq0, xq1, xq2, xq3, xq4, xq5, xqR, xq1R, xq3R, xt1, xt2, xt3, List.mem_cons, List.not_mem_nil, or_false, false_or, or_self, if_false, if_true, reduceIte, reduceCtorEq, xent, xen, List.length_cons, List.length_nil, List.replicate, j_c, j_cJ, j_ild, j_ald, j_lld, j_ist, j_ast, j_lst, j_inc, j_add, j_sub, j_mul, j_neg, j_div, j_rem, j_and, j_shr, j_shl1, j_or, j_ladd, j_lsub, j_lmul, j_i2l, j_lcmp, j_i2c, j_dup, j_dup2, j_pop, j_goto, j_ieq, j_ine, j_ilt, j_ige, j_igt, j_ile, j_eq, j_ne, j_lt, j_ge, j_gt, j_le, xsw, j_tsw, j_gI, j_gJ, j_gR, j_pI, j_pJ, j_gs, j_iald, j_iast, j_cald, j_cast, j_aald, j_cpy, j_min, j_max, j_abs, j_iret, j_zret, j_lret, j_dret, j_ret0, j_V0, j_V1, j_V2, j_V3, j_V4, j_V5, j_S1, j_S2, j_S3, xget, xset, xset2, xclr, xc1, xcat, Nat.reduceAdd, Nat.reduceEqDiff, Nat.reduceLT, Nat.reduceLeDiff, Nat.reduceMul, List.cons_append, List.nil_append, true_and, and_true, List.singleton_append, j_lsw2, j_Sn, j_ush, j_dupx2, List.take_succ_cons, List.take_zero, List.drop_succ_cons, List.drop_zero, List.reverse_cons, List.reverse_nil, Nat.le_refl, fL_minute_511, fL_minute_514, xvz_20, xvz_21, xvz_22, xvz_23, xvz_24, xvz_25, xvz_26, xvz_27, xvz_28, xvz_29, xrz_20, xrz_21, xrz_22, xrz_23, xrz_24, xrz_25, xrz_26, xrz_27, xrz_28, xrz_29, xdz_20, xdz_21, xdz_22, xdz_23, xdz_24, xdz_25, xdz_26, xdz_27, xdz_28, xdz_29, xlen, xcat, xc1, Nat.zero_le, Nat.reduceLeDiff, List.length_cons, List.length_nil, j6, j7, j8, x6, x7, x8, m4, m7, ro, ho, hle, hg, r15, xr_c (n := 0) rfl, xr_c (n := 15) rfl]
      exact fin' _
    · have ep : pv H u = G 14 0 u 10 + (H 14 0 u 6 + H 14 0 u 7) := by
        have sP : G 14 0 u 10 ≤ M 20 0 0 18 := by
          have t6 := hR.2.2.2.2.2.1.2.2.2.2.2.1
          have := s5_at (f := fun v => Gp u G 14 0 v 10) (fun v v0 v5 => (rU_p hR.2.2.2.2.1 v0 v5).2.2.2.2.1) h0 hu5
          rw [Gp_10 h0, if_neg (Int.lt_irrefl u)] at this
          omega
        unfold pv
        rw [if_pos ⟨by rw [h8]; exact x8n, by rw [H1, H2, h8, c6.2.2.2.2, c2.2.1]; omega⟩, H2, c2.2.2.1, H10]
        omega
      have fin' := fun y9 => fin (xup (xup M3 28 0 0 (12 * u + 10) (G 14 0 u 10 + (H 14 0 u 6 + H 14 0 u 7) * 1)) 20 0 0 18 (M3 20 0 0 18 + (H 14 0 u 6 + H 14 0 u 7) * 1)) y9 ⟨fun t x y => by rw [xup_tag x, xup_tag y], fun s x => by rw [xup_app, if_neg (fun z => x z.2.2.2), xup_tag (by decide)], by rw [xup_app, if_pos ⟨rfl, rfl, rfl, rfl⟩, m18, ep]; omega, fun n => by
        rw [xup_tag (by decide), xup_row, h8, ep]
        simp only [sup_at]
        by_cases n8 : n = 12 * u + 8
        · rw [if_neg (by omega), if_pos n8, n8, x8]
        · rw [if_neg n8]
          by_cases n10 : n = 12 * u + 10
          · rw [if_pos n10, if_pos n10]
            omega
          · rw [if_neg n10, if_neg n10]⟩ (by rw [ep]; omega) (by omega)
      refine yru_ok hC [455, 446] 16 _ _ _ _ ?_
      simp only [ykk_ap, Int.reduceEq, Int.reduceLT, Int.reduceLE, Int.reduceNeg, Int.reduceAdd, Int.reduceSub, Int.reduceMul, and_self, false_and, and_false, not_true_eq_false, not_false_eq_true, true_implies, false_implies, xq0, xq1, xq2, xq3, xq4, xq5, xqR, xq1R, xq3R, xt1, xt2, xt3, List.mem_cons, List.not_mem_nil, or_false, false_or, or_self, if_false, if_true, reduceIte, reduceCtorEq, xent, xen, List.length_cons, List.length_nil, List.replicate, j_c, j_cJ, j_ild, j_ald, j_lld, j_ist, j_ast, j_lst, j_inc, j_add, j_sub, j_mul, j_neg, j_div, j_rem, j_and, j_shr, j_shl1, j_or, j_ladd, j_lsub, j_lmul, j_i2l, j_lcmp, j_i2c, j_dup, j_dup2, j_pop, j_goto, j_ieq, j_ine, j_ilt, j_ige, j_igt, j_ile, j_eq, j_ne, j_lt, j_ge, j_gt, j_le, xsw, j_tsw, j_gI, j_gJ, j_gR, j_pI, j_pJ, j_gs, j_iald, j_iast, j_cald, j_cast, j_aald, j_cpy, j_min, j_max, j_abs, j_iret, j_zret, j_lret, j_dret, j_ret0, j_V0, j_V1, j_V2, j_V3, j_V4, j_V5, j_S1, j_S2, j_S3, xget, xset, xset2, xclr, xc1, xcat, Nat.reduceAdd, Nat.reduceEqDiff, Nat.reduceLT, Nat.reduceLeDiff, Nat.reduceMul, List.cons_append, List.nil_append, true_and, and_true, List.singleton_append, j_lsw2, j_Sn, j_ush, j_dupx2, List.take_succ_cons, List.take_zero, List.drop_succ_cons, List.drop_zero, List.reverse_cons, List.reverse_nil, Nat.le_refl, fL_minute_422, fL_minute_424, fL_minute_426, fL_minute_428, fL_minute_429, fL_minute_430, fL_minute_432, fL_minute_434, fL_minute_436, fL_minute_437, fL_minute_438, fL_minute_439, fL_minute_441, fL_minute_443, xvz_20, xvz_21, xvz_22, xvz_23, xvz_24, xvz_25, xvz_26, xvz_27, xvz_28, xvz_29, xrz_20, xrz_21, xrz_22, xrz_23, xrz_24, xrz_25, xrz_26, xrz_27, xrz_28, xrz_29, xdz_20, xdz_21, xdz_22, xdz_23, xdz_24, xdz_25, xdz_26, xdz_27, xdz_28, xdz_29, xlen, xcat, xc1, Nat.zero_le, Nat.reduceLeDiff, List.length_cons, List.length_nil, j6, j7, j8, j10, x6, x7, x8, x10, m4, m7, m8, ro, ho, hle, hg, r15, xup_app, Nat.reduceEqDiff, xr_c (n := 0) rfl, xr_c (n := 15) rfl]
      refine yru_ok hC [511, 460] 4 _ _ _ _ ?_
      simp only [ykk_ap, Int.reduceEq, Int.reduceLT, Int.reduceLE, Int.reduceNeg, Int.reduceAdd, Int.reduceSub, Int.reduceMul, and_self, false_and, and_false, not_true_eq_false, not_false_eq_true, true_implies, false_implies, xq0, xq1, xq2, xq3, xq4, xq5, xqR, xq1R, xq3R, xt1, xt2, xt3, List.mem_cons, List.not_mem_nil, or_false, false_or, or_self, if_false, if_true, reduceIte, reduceCtorEq, xent, xen, List.length_cons, List.length_nil, List.replicate, j_c, j_cJ, j_ild, j_ald, j_lld, j_ist, j_ast, j_lst, j_inc, j_add, j_sub, j_mul, j_neg, j_div, j_rem, j_and, j_shr, j_shl1, j_or, j_ladd, j_lsub, j_lmul, j_i2l, j_lcmp, j_i2c, j_dup, j_dup2, j_pop, j_goto, j_ieq, j_ine, j_ilt, j_ige, j_igt, j_ile, j_eq, j_ne, j_lt, j_ge, j_gt, j_le, xsw, j_tsw, j_gI, j_gJ, j_gR, j_pI, j_pJ, j_gs, j_iald, j_iast, j_cald, j_cast, j_aald, j_cpy, j_min, j_max, j_abs, j_iret, j_zret, j_lret, j_dret, j_ret0, j_V0, j_V1, j_V2, j_V3, j_V4, j_V5, j_S1, j_S2, j_S3, xget, xset, xset2, xclr, xc1, xcat, Nat.reduceAdd, Nat.reduceEqDiff, Nat.reduceLT, Nat.reduceLeDiff, Nat.reduceMul, List.cons_append, List.nil_append, true_and, and_true, List.singleton_append, j_lsw2, j_Sn, j_ush, j_dupx2, List.take_succ_cons, List.take_zero, List.drop_succ_cons, List.drop_zero, List.reverse_cons, List.reverse_nil, Nat.le_refl, fL_minute_455, fL_minute_457, xvz_20, xvz_21, xvz_22, xvz_23, xvz_24, xvz_25, xvz_26, xvz_27, xvz_28, xvz_29, xrz_20, xrz_21, xrz_22, xrz_23, xrz_24, xrz_25, xrz_26, xrz_27, xrz_28, xrz_29, xdz_20, xdz_21, xdz_22, xdz_23, xdz_24, xdz_25, xdz_26, xdz_27, xdz_28, xdz_29, xlen, xcat, xc1, Nat.zero_le, Nat.reduceLeDiff, List.length_cons, List.length_nil, j6, j7, j8, j10, x6, x7, x8, x10, m4, m7, m8, ro, ho, hle, hg, r15, xup_app, Nat.reduceEqDiff, xr_c (n := 0) rfl, xr_c (n := 15) rfl]
      refine yru_ok hC [511, 479] 15 _ _ _ _ ?_
      simp only [ykk_ap, Int.reduceEq, Int.reduceLT, Int.reduceLE, Int.reduceNeg, Int.reduceAdd, Int.reduceSub, Int.reduceMul, and_self, false_and, and_false, not_true_eq_false, not_false_eq_true, true_implies, false_implies, xq0, xq1, xq2, xq3, xq4, xq5, xqR, xq1R, xq3R, xt1, xt2, xt3, List.mem_cons, List.not_mem_nil, or_false, false_or, or_self, if_false, if_true, reduceIte, reduceCtorEq, xent, xen, List.length_cons, List.length_nil, List.replicate, j_c, j_cJ, j_ild, j_ald, j_lld, j_ist, j_ast, j_lst, j_inc, j_add, j_sub, j_mul, j_neg, j_div, j_rem, j_and, j_shr, j_shl1, j_or, j_ladd, j_lsub, j_lmul, j_i2l, j_lcmp, j_i2c, j_dup, j_dup2, j_pop, j_goto, j_ieq, j_ine, j_ilt, j_ige, j_igt, j_ile, j_eq, j_ne, j_lt, j_ge, j_gt, j_le, xsw, j_tsw, j_gI, j_gJ, j_gR, j_pI, j_pJ, j_gs, j_iald, j_iast, j_cald, j_cast, j_aald, j_cpy, j_min, j_max, j_abs, j_iret, j_zret, j_lret, j_dret, j_ret0, j_V0, j_V1, j_V2, j_V3, j_V4, j_V5, j_S1, j_S2, j_S3, xget, xset, xset2, xclr, xc1, xcat, Nat.reduceAdd, Nat.reduceEqDiff, Nat.reduceLT, Nat.reduceLeDiff, Nat.reduceMul, List.cons_append, List.nil_append, true_and, and_true, List.singleton_append, j_lsw2, j_Sn, j_ush, j_dupx2, List.take_succ_cons, List.take_zero, List.drop_succ_cons, List.drop_zero, List.reverse_cons, List.reverse_nil, Nat.le_refl, fL_minute_460, fL_minute_461, fL_minute_462, fL_minute_463, fL_minute_465, fL_minute_467, fL_minute_469, fL_minute_470, fL_minute_471, fL_minute_472, fL_minute_473, fL_minute_475, fL_minute_476, xvz_20, xvz_21, xvz_22, xvz_23, xvz_24, xvz_25, xvz_26, xvz_27, xvz_28, xvz_29, xrz_20, xrz_21, xrz_22, xrz_23, xrz_24, xrz_25, xrz_26, xrz_27, xrz_28, xrz_29, xdz_20, xdz_21, xdz_22, xdz_23, xdz_24, xdz_25, xdz_26, xdz_27, xdz_28, xdz_29, xlen, xcat, xc1, Nat.zero_le, Nat.reduceLeDiff, List.length_cons, List.length_nil, j6, j7, j8, j10, x6, x7, x8, x10, m4, m7, m8, ro, ho, hle, hg, r15, xup_app, Nat.reduceEqDiff, xr_c (n := 0) rfl, xr_c (n := 15) rfl]
      refine yru_ok hC [511] 26 _ _ _ _ ?_
      simp only [ykk_ap, Int.reduceEq, Int.reduceLT, Int.reduceLE, Int.reduceNeg, Int.reduceAdd, Int.reduceSub, Int.reduceMul, and_self, false_and, and_false, not_true_eq_false, not_false_eq_true, true_implies, false_implies, xq0, xq1, xq2, xq3, xq4, xq5, xqR, xq1R, xq3R, xt1, xt2, xt3, List.mem_cons, List.not_mem_nil, or_false, false_or, or_self, if_false, if_true, reduceIte, reduceCtorEq, xent, xen, List.length_cons, List.length_nil, List.replicate, j_c, j_cJ, j_ild, j_ald, j_lld, j_ist, j_ast, j_lst, j_inc, j_add, j_sub, j_mul, j_neg, j_div, j_rem, j_and, j_shr, j_shl1, j_or, j_ladd, j_lsub, j_lmul, j_i2l, j_lcmp, j_i2c, j_dup, j_dup2, j_pop, j_goto, j_ieq, j_ine, j_ilt, j_ige, j_igt, j_ile, j_eq, j_ne, j_lt, j_ge, j_gt, j_le, xsw, j_tsw, j_gI, j_gJ, j_gR, j_pI, j_pJ, j_gs, j_iald, j_iast, j_cald, j_cast, j_aald, j_cpy, j_min, j_max, j_abs, j_iret, j_zret, j_lret, j_dret, j_ret0, j_V0, j_V1, j_V2, j_V3, j_V4, j_V5, j_S1, j_S2, j_S3, xget, xset, xset2, xclr, xc1, xcat, Nat.reduceAdd, Nat.reduceEqDiff, Nat.reduceLT, Nat.reduceLeDiff, Nat.reduceMul, List.cons_append, List.nil_append, true_and, and_true, List.singleton_append, j_lsw2, j_Sn, j_ush, j_dupx2, List.take_succ_cons, List.take_zero, List.drop_succ_cons, List.drop_zero, List.reverse_cons, List.reverse_nil, Nat.le_refl, fL_minute_479, fL_minute_481, fL_minute_483, fL_minute_485, fL_minute_486, fL_minute_487, fL_minute_488, fL_minute_490, fL_minute_491, fL_minute_493, fL_minute_494, fL_minute_495, fL_minute_496, fL_minute_497, fL_minute_498, fL_minute_500, fL_minute_501, fL_minute_502, fL_minute_504, fL_minute_505, fL_minute_507, fL_minute_508, fL_minute_509, fL_minute_510, xvz_20, xvz_21, xvz_22, xvz_23, xvz_24, xvz_25, xvz_26, xvz_27, xvz_28, xvz_29, xrz_20, xrz_21, xrz_22, xrz_23, xrz_24, xrz_25, xrz_26, xrz_27, xrz_28, xrz_29, xdz_20, xdz_21, xdz_22, xdz_23, xdz_24, xdz_25, xdz_26, xdz_27, xdz_28, xdz_29, xlen, xcat, xc1, Nat.zero_le, Nat.reduceLeDiff, List.length_cons, List.length_nil, j6, j7, j8, j10, x6, x7, x8, x10, m4, m7, m8, ro, ho, hle, hg, r15, xup_app, Nat.reduceEqDiff, xr_c (n := 0) rfl, xr_c (n := 15) rfl]
      refine yru_ok hC [349] 4 _ _ _ _ ?_
      simp only [ykk_ap, Int.reduceEq, Int.reduceLT, Int.reduceLE, Int.reduceNeg, Int.reduceAdd, Int.reduceSub, Int.reduceMul, and_self, false_and, and_false, not_true_eq_false, not_false_eq_true, true_implies, false_implies, xq0, xq1, xq2, xq3, xq4, xq5, xqR, xq1R, xq3R, xt1, xt2, xt3, List.mem_cons, List.not_mem_nil, or_false, false_or, or_self, if_false, if_true, reduceIte, reduceCtorEq, xent, xen, List.length_cons, List.length_nil, List.replicate, j_c, j_cJ, j_ild, j_ald, j_lld, j_ist, j_ast, j_lst, j_inc, j_add, j_sub, j_mul, j_neg, j_div, j_rem, j_and, j_shr, j_shl1, j_or, j_ladd, j_lsub, j_lmul, j_i2l, j_lcmp, j_i2c, j_dup, j_dup2, j_pop, j_goto, j_ieq, j_ine, j_ilt, j_ige, j_igt, j_ile, j_eq, j_ne, j_lt, j_ge, j_gt, j_le, xsw, j_tsw, j_gI, j_gJ, j_gR, j_pI, j_pJ, j_gs, j_iald, j_iast, j_cald, j_cast, j_aald, j_cpy, j_min, j_max, j_abs, j_iret, j_zret, j_lret, j_dret, j_ret0, j_V0, j_V1, j_V2, j_V3, j_V4, j_V5, j_S1, j_S2, j_S3, xget, xset, xset2, xclr, xc1, xcat, Nat.reduceAdd, Nat.reduceEqDiff, Nat.reduceLT, Nat.reduceLeDiff, Nat.reduceMul, List.cons_append, List.nil_append, true_and, and_true, List.singleton_append, j_lsw2, j_Sn, j_ush, j_dupx2, List.take_succ_cons, List.take_zero, List.drop_succ_cons, List.drop_zero, List.reverse_cons, List.reverse_nil, Nat.le_refl, fL_minute_511, fL_minute_514, xvz_20, xvz_21, xvz_22, xvz_23, xvz_24, xvz_25, xvz_26, xvz_27, xvz_28, xvz_29, xrz_20, xrz_21, xrz_22, xrz_23, xrz_24, xrz_25, xrz_26, xrz_27, xrz_28, xrz_29, xdz_20, xdz_21, xdz_22, xdz_23, xdz_24, xdz_25, xdz_26, xdz_27, xdz_28, xdz_29, xlen, xcat, xc1, Nat.zero_le, Nat.reduceLeDiff, List.length_cons, List.length_nil, j6, j7, j8, j10, x6, x7, x8, x10, m4, m7, m8, ro, ho, hle, hg, r15, xup_app, Nat.reduceEqDiff, xr_c (n := 0) rfl, xr_c (n := 15) rfl]
      exact fin' _
end XN5

