section XN2
/-! a minute: meals that are too old are thrown away -/
theorem BR_tot {a : Int → Int} {N T : Int} {F : Int → Int} (h : BR a N F T) (hw : ∀ q : Int, ¬ F q = 0 → (q % 8 = 0 ∨ q % 8 = 1 ∨ q % 8 = 4 ∨ q % 8 = 5) ∧ q / 8 % 4 < 3) :
    T = (mS9 a N 0 0 + mS9 a N 0 1 + mS9 a N 0 2) + (mS9 a N 1 0 + mS9 a N 1 1 + mS9 a N 1 2) + (mS9 a N 4 0 + mS9 a N 4 1 + mS9 a N 4 2) + (mS9 a N 5 0 + mS9 a N 5 1 + mS9 a N 5 2) := by
  obtain ⟨g1, g2, g3, g4, g5⟩ := h
  have key : ∀ n : Nat, (n : Int) ≤ N → sm (fun k => a k / 131072) 0 n = (mS9 a n 0 0 + mS9 a n 0 1 + mS9 a n 0 2) + (mS9 a n 1 0 + mS9 a n 1 1 + mS9 a n 1 2) + (mS9 a n 4 0 + mS9 a n 4 1 + mS9 a n 4 2) + (mS9 a n 5 0 + mS9 a n 5 1 + mS9 a n 5 2) := by
    intro n
    induction n with
    | zero => intro _; rfl
    | succ n ih =>
      intro hn
      have i1 := ih (by omega)
      have gk := g2 n (by omega) (by omega)
      have gw := hw (a n % 131072) (by omega)
      have es : ∀ st d : Int, mS9 a ((n + 1 : Nat) : Int) st d = mS9 a n st d + if a n % 8 = st ∧ a n / 8 % 4 = d then a n / 131072 else 0 := fun st d => by
        unfold mS9
        rw [show ((n + 1 : Nat) : Int).toNat = n + 1 from by omega, show ((n : Nat) : Int).toNat = n from by omega, sm, Int.zero_add]
      rw [sm, Int.zero_add, i1, es, es, es, es, es, es, es, es, es, es, es, es]
      have e8 : a n % 8 = 0 ∨ a n % 8 = 1 ∨ a n % 8 = 4 ∨ a n % 8 = 5 := by omega
      have ed : a n / 8 % 4 = 0 ∨ a n / 8 % 4 = 1 ∨ a n / 8 % 4 = 2 := by omega
      rcases e8 with e | e | e | e <;> rcases ed with f | f | f <;> rw [e, f] <;> simp only [Int.reduceEq, and_self, and_false, false_and, if_true, if_false] <;> omega
  have k1 := key N.toNat (by omega)
  rw [show ((N.toNat : Nat) : Int) = N from by omega] at k1
  rw [← g5, k1]
theorem rS_m {w t : Int} {G M : XM} {F : Int → Int} {T : Int} (hB : BM M F T) (hS : rS w t G F) (hw : w ≤ 63) {j : Int} (hj : j = 0 ∨ j = 1 ∨ j = 3 ∨ j = 4) {d : Int} (hd : 0 ≤ d ∧ d < 3) : mS9 (M 29 0 0) (M 20 0 0 12) (stc j) d = sm (G 11 0 j) (64 * d) 64 := by
  rw [mS9_eq hB (stc_in hj) hd (t := t) (fun q hq _ _ => by have := hS.1 q hq; omega)]
  exact sm_congr (fun x x0 x1 => (hS.2 j hj x (by omega) (by omega)).symm)
theorem rS_all {w t : Int} {G M : XM} {F : Int → Int} {T : Int} (hB : BM M F T) (hS : rS w t G F) (hw : w ≤ 63) {j : Int} (hj : j = 0 ∨ j = 1 ∨ j = 3 ∨ j = 4) : aL9 M (stc j) = tot3 (G 11 0 j) := by
  unfold aL9 tot3
  rw [rS_m hB hS hw hj (by decide), rS_m hB hS hw hj (by decide), rS_m hB hS hw hj (by decide)]
  rfl
theorem rS_tot {w t : Int} {G M : XM} {F : Int → Int} {T : Int} (hB : BM M F T) (hS : rS w t G F) (hw : w ≤ 63) : T = tot3 (G 11 0 0) + tot3 (G 11 0 1) + tot3 (G 11 0 3) + tot3 (G 11 0 4) := by
  have h0 := rS_all hB hS hw (j := 0) (by decide)
  have h1 := rS_all hB hS hw (j := 1) (by decide)
  have h3 := rS_all hB hS hw (j := 3) (by decide)
  have h4 := rS_all hB hS hw (j := 4) (by decide)
  have hT := BR_tot hB (fun q hq => ⟨(hS.1 q hq).1, (hS.1 q hq).2.1⟩)
  rw [← h0, ← h1, ← h3, ← h4]
  exact hT
theorem thL_mem : ∀ (n : Nat) (t a x : Int), x ∈ thL t a n ↔ ∃ d m : Int, (0 ≤ d ∧ d < 3) ∧ t - a - n < m ∧ m ≤ t - a ∧ x = mS d m
  | 0, t, a, x => by
    simp only [thL]
    constructor
    · intro h
      exact absurd h List.not_mem_nil
    · rintro ⟨d, m, -, b, c, -⟩
      omega
  | n + 1, t, a, x => by
    simp only [thL, List.mem_cons]
    rw [thL_mem n t (a + 1) x]
    constructor
    · rintro (e | e | e | ⟨d, m, hd, b, c, e⟩)
      · exact ⟨0, t - a, by decide, by omega, by omega, e⟩
      · exact ⟨1, t - a, by decide, by omega, by omega, e⟩
      · exact ⟨2, t - a, by decide, by omega, by omega, e⟩
      · exact ⟨d, m, hd, by omega, by omega, e⟩
    · rintro ⟨d, m, hd, b, c, e⟩
      by_cases em : m = t - a
      · subst em
        rcases (show d = 0 ∨ d = 1 ∨ d = 2 by omega) with rfl | rfl | rfl
        · exact Or.inl e
        · exact Or.inr (Or.inl e)
        · exact Or.inr (Or.inr (Or.inl e))
      · exact Or.inr (Or.inr (Or.inr ⟨d, m, hd, by omega, by omega, e⟩))
theorem thL_age {t x : Int} (h0 : 0 ≤ x) (h1 : x < 192) : x ∈ thL t 41 23 ↔ 40 < (t - x) % 64 := by
  rw [thL_mem]
  constructor
  · rintro ⟨d, m, hd, b, c, e⟩
    subst e
    unfold mS
    have e1 : (t - (d * 64 + m % 64)) % 64 = (t - m) % 64 := by omega
    rw [e1]
    omega
  · intro h
    refine ⟨x / 64, t - (t - x) % 64, by omega, by omega, by omega, ?_⟩
    unfold mS
    omega
/-- a store, its old meals thrown away -/
def zth (t : Int) (S : Int → Int) : Int → Int := zrL (thL t 41 23) S
theorem zth_at {t x : Int} {S : Int → Int} (h0 : 0 ≤ x) (h1 : x < 192) : zth t S x = if 40 < (t - x) % 64 then 0 else S x := by
  unfold zth
  rw [zrL_app]
  by_cases c : 40 < (t - x) % 64
  · rw [if_pos ((thL_age h0 h1).mpr c), if_pos c]
  · rw [if_neg (fun z => c ((thL_age h0 h1).mp z)), if_neg c]
theorem thS_z {t j : Int} {G : XM} (ht : G 1 0 0 0 = t) (h2 : G 2 0 0 3 = 40) : thS G 0 j = zth t (G 11 0 j) := by
  unfold thS zth
  rw [ht, h2]
  rfl
theorem thK_11 {t k : Int} {G : XM} (ht : G 1 0 0 0 = t) (h2 : G 2 0 0 3 = 40) (j x : Int) : thK 0 k G 11 0 j x = if j = k then zth t (G 11 0 k) x else G 11 0 j x := by
  unfold thK
  rw [thS_z ht h2, xup_tag (by decide)]
  simp only [mset_app, true_and, Nat.reduceEqDiff, false_and, if_false]
theorem thK_8 {t k : Int} {G : XM} (ht : G 1 0 0 0 = t) (h2 : G 2 0 0 3 = 40) (j s : Int) : thK 0 k G 8 0 j s = if j = k ∧ s = 6 then G 8 0 k 6 + (tot3 (G 11 0 k) - tot3 (zth t (G 11 0 k))) else G 8 0 j s := by
  unfold thK
  rw [thS_z ht h2]
  simp only [xup_app, true_and, mset_app, Nat.reduceEqDiff, false_and, if_false]
theorem thLo_11 {t l : Int} {G : XM} (ht : G 1 0 0 0 = t) (h2 : G 2 0 0 3 = 40) (j x : Int) : thLo 0 l G 11 0 j x = if j = l + 3 then zth t (G 11 0 (l + 3)) x else G 11 0 j x := by
  unfold thLo
  rw [thS_z ht h2, xup_tag (by decide)]
  simp only [mset_app, true_and, Nat.reduceEqDiff, false_and, if_false]
theorem thLo_13 {t l : Int} {G : XM} (ht : G 1 0 0 0 = t) (h2 : G 2 0 0 3 = 40) (j s : Int) : thLo 0 l G 13 0 j s = if j = l ∧ s = 5 then G 13 0 l 5 + (tot3 (G 11 0 (l + 3)) - tot3 (zth t (G 11 0 (l + 3)))) else G 13 0 j s := by
  unfold thLo
  rw [thS_z ht h2]
  simp only [xup_app, true_and, mset_app, Nat.reduceEqDiff, false_and, if_false]
theorem pThrow_2 {G : XM} (h6 : G 1 0 0 6 = 2) (h8 : G 1 0 0 8 = 2) : pThrow G 0 = thLo 0 1 (thLo 0 0 (thK 0 1 (thK 0 0 G))) := by
  unfold pThrow
  rw [h6, h8]
  rfl
theorem pThrow_at {t : Int} {G : XM} (h6 : G 1 0 0 6 = 2) (h8 : G 1 0 0 8 = 2) (ht : G 1 0 0 0 = t) (h2 : G 2 0 0 3 = 40) :
    (∀ t' : Nat, ¬ t' = 8 → ¬ t' = 11 → ¬ t' = 12 → ¬ t' = 13 → pThrow G 0 t' = G t') ∧ (∀ j : Int, j = 0 ∨ j = 1 ∨ j = 3 ∨ j = 4 → ∀ x : Int, pThrow G 0 11 0 j x = zth t (G 11 0 j) x) ∧ (∀ j s : Int, ¬ s = 6 → pThrow G 0 8 0 j s = G 8 0 j s) ∧ (∀ l s : Int, ¬ s = 5 → pThrow G 0 13 0 l s = G 13 0 l s) ∧
    pThrow G 0 8 0 0 6 + pThrow G 0 8 0 1 6 + (pThrow G 0 13 0 0 5 + pThrow G 0 13 0 1 5) = G 8 0 0 6 + G 8 0 1 6 + (G 13 0 0 5 + G 13 0 1 5) + (tot3 (G 11 0 0) + tot3 (G 11 0 1) + tot3 (G 11 0 3) + tot3 (G 11 0 4)) - (tot3 (zth t (G 11 0 0)) + tot3 (zth t (G 11 0 1)) + tot3 (zth t (G 11 0 3)) + tot3 (zth t (G 11 0 4))) := by
  rw [pThrow_2 h6 h8]
  obtain ⟨H1, e1⟩ : ∃ H1 : XM, H1 = thK 0 0 G := ⟨_, rfl⟩
  obtain ⟨H2, e2⟩ : ∃ H2 : XM, H2 = thK 0 1 H1 := ⟨_, rfl⟩
  obtain ⟨H3, e3⟩ : ∃ H3 : XM, H3 = thLo 0 0 H2 := ⟨_, rfl⟩
  rw [← e1, ← e2, ← e3]
  have t1 : ∀ t' : Nat, ¬ t' = 8 → ¬ t' = 11 → ¬ t' = 12 → H1 t' = G t' := fun t' a b c => by rw [e1, thK_tag a b c]
  have t2 : ∀ t' : Nat, ¬ t' = 8 → ¬ t' = 11 → ¬ t' = 12 → H2 t' = G t' := fun t' a b c => by rw [e2, thK_tag a b c, t1 t' a b c]
  have t3 : ∀ t' : Nat, ¬ t' = 8 → ¬ t' = 11 → ¬ t' = 12 → ¬ t' = 13 → H3 t' = G t' := fun t' a b c d => by rw [e3, thLo_tag d b c, t2 t' a b c]
  have q1 : H1 1 0 0 0 = t := by rw [t1 1 (by decide) (by decide) (by decide)]; exact ht
  have q2 : H2 1 0 0 0 = t := by rw [t2 1 (by decide) (by decide) (by decide)]; exact ht
  have q3 : H3 1 0 0 0 = t := by rw [t3 1 (by decide) (by decide) (by decide) (by decide)]; exact ht
  have p1 : H1 2 0 0 3 = 40 := by rw [t1 2 (by decide) (by decide) (by decide)]; exact h2
  have p2 : H2 2 0 0 3 = 40 := by rw [t2 2 (by decide) (by decide) (by decide)]; exact h2
  have p3 : H3 2 0 0 3 = 40 := by rw [t3 2 (by decide) (by decide) (by decide) (by decide)]; exact h2
  have a1 := thK_11 (k := 0) ht h2
  have a2 := thK_11 (k := 1) q1 p1
  have a3 := thLo_11 (l := 0) q2 p2
  have a4 := thLo_11 (l := 1) q3 p3
  have b1 := thK_8 (k := 0) ht h2
  have b2 := thK_8 (k := 1) q1 p1
  have d3 := thLo_13 (l := 0) q2 p2
  have d4 := thLo_13 (l := 1) q3 p3
  rw [← e1] at a1 b1
  rw [← e2] at a2 b2
  rw [← e3] at a3 d3
  simp only [Int.reduceAdd] at a3 a4 d3 d4
  have f1 : H1 11 0 1 = G 11 0 1 := by funext x; rw [a1, if_neg (by decide)]
  have f3 : H2 11 0 3 = G 11 0 3 := by funext x; rw [a2, if_neg (by decide), a1, if_neg (by decide)]
  have f4 : H3 11 0 4 = G 11 0 4 := by funext x; rw [a3, if_neg (by decide), a2, if_neg (by decide), a1, if_neg (by decide)]
  have g8 : thLo 0 1 H3 8 = H2 8 := by rw [thLo_tag (by decide) (by decide) (by decide), e3, thLo_tag (by decide) (by decide) (by decide)]
  have g13 : H2 13 = G 13 := t2 13 (by decide) (by decide) (by decide)
  refine ⟨fun t' a b c d => by rw [thLo_tag d b c, t3 t' a b c d], fun j hj x => ?_, fun j s hs => ?_, fun l s hs => ?_, ?_⟩
  · rw [a4]
    rcases hj with rfl | rfl | rfl | rfl
    · rw [if_neg (by decide), a3, if_neg (by decide), a2, if_neg (by decide), a1, if_pos rfl]
    · rw [if_neg (by decide), a3, if_neg (by decide), a2, if_pos rfl, f1]
    · rw [if_neg (by decide), a3, if_pos rfl, f3]
    · rw [if_pos rfl, f4]
  · rw [g8, b2, if_neg (fun z => hs z.2), b1, if_neg (fun z => hs z.2)]
  · rw [d4, if_neg (fun z => hs z.2), d3, if_neg (fun z => hs z.2), g13]
  · rw [g8, b2 0 6, if_neg (by decide), b2 1 6, if_pos ⟨rfl, rfl⟩, b1 0 6, if_pos ⟨rfl, rfl⟩, b1 1 6, if_neg (by decide), d4 0 5, if_neg (by decide), d4 1 5, if_pos ⟨rfl, rfl⟩, d3 0 5, if_pos ⟨rfl, rfl⟩, d3 1 5, if_neg (by decide), g13, f1, f3, f4]
    omega
/-- while the loop goes on -/
def thI (t : Int) (M0 : XM) (F0 : Int → Int) (T0 : Int) (k : Int) (M : XM) (F : Int → Int) (T : Int) : Prop :=
  (∀ t' : Nat, ¬ t' = 20 → ¬ t' = 29 → M t' = M0 t') ∧ (∀ s : Int, ¬ s = 12 → ¬ s = 15 → M 20 0 0 s = M0 20 0 0 s) ∧ BM M F T ∧ (∀ q : Int, F q = F0 q ∨ F q = 0 ∧ q / 32 < t - 40) ∧ M 20 0 0 15 = M0 20 0 0 15 + (T0 - T) ∧ M 20 0 0 12 ≤ M0 20 0 0 12 ∧ T ≤ T0 ∧ (-1 ≤ k ∧ k < M 20 0 0 12) ∧ ∀ j : Int, k < j → j < M 20 0 0 12 → t - 40 ≤ M 29 0 0 j % 131072 / 32
set_option maxRecDepth 100000 in
theorem kL_min_Cl {Post : XPo} {WW : XK} (hC : XCl (xlk (pL_minute Post)) WW) {t : Int} {M0 : XM} {F0 : Int → Int} {T0 : Int} {x9 : Option XV} (h9 : M0 20 0 0 9 = 40) (h4 : M0 20 0 0 4 = t) (ht : 0 ≤ t ∧ t ≤ 5000) (h : ∀ (M : XM) (F : Int → Int) (T : Int), thI t M0 F0 T0 (-1) M F T → WW 202 [some (xR 20 0 0), some (xR 22 0 0), some (xR 24 0 0), some (xR 25 0 0), some (xR 26 0 0), some (xR 27 0 0), some (xR 28 0 0), some (xR 29 0 0), some (xI 0), x9] [] M) : ∀ (m : Nat) (k : Int) (M : XM) (F : Int → Int) (T : Int), k + 1 = m → thI t M0 F0 T0 k M F T → WW 135 [some (xR 20 0 0), some (xR 22 0 0), some (xR 24 0 0), some (xR 25 0 0), some (xR 26 0 0), some (xR 27 0 0), some (xR 28 0 0), some (xR 29 0 0), some (xI k), x9] [] M := by
  intro m
  induction m with
  | zero =>
    intro k M F T hk hI
    have e : k = -1 := by omega
    subst e
    have h' := h M F T hI
    refine yru_ok hC [199, 140] 4 _ _ _ _ ?_
    simp only [ykk_ap, Int.reduceEq, Int.reduceLT, Int.reduceLE, Int.reduceNeg, Int.reduceAdd, Int.reduceSub, Int.reduceMul, and_self, false_and, and_false, not_true_eq_false, not_false_eq_true, true_implies, false_implies, xq0, xq1, xq2, xq3, xq4, xq5, xqR, xq1R, xq3R, xt1, xt2, xt3, List.mem_cons, List.not_mem_nil, or_false, false_or, or_self, if_false, if_true, reduceIte, reduceCtorEq, xent, xen, List.length_cons, List.length_nil, List.replicate, j_c, j_cJ, j_ild, j_ald, j_lld, j_ist, j_ast, j_lst, j_inc, j_add, j_sub, j_mul, j_neg, j_div, j_rem, j_and, j_shr, j_shl1, j_or, j_ladd, j_lsub, j_lmul, j_i2l, j_lcmp, j_i2c, j_dup, j_dup2, j_pop, j_goto, j_ieq, j_ine, j_ilt, j_ige, j_igt, j_ile, j_eq, j_ne, j_lt, j_ge, j_gt, j_le, xsw, j_tsw, j_gI, j_gJ, j_gR, j_pI, j_pJ, j_gs, j_iald, j_iast, j_cald, j_cast, j_aald, j_cpy, j_min, j_max, j_abs, j_iret, j_zret, j_lret, j_dret, j_ret0, j_V0, j_V1, j_V2, j_V3, j_V4, j_V5, j_S1, j_S2, j_S3, xget, xset, xset2, xclr, xc1, xcat, Nat.reduceAdd, Nat.reduceEqDiff, Nat.reduceLT, Nat.reduceLeDiff, Nat.reduceMul, List.cons_append, List.nil_append, true_and, and_true, List.singleton_append, j_lsw2, j_Sn, j_ush, j_dupx2, List.take_succ_cons, List.take_zero, List.drop_succ_cons, List.drop_zero, List.reverse_cons, List.reverse_nil, Nat.le_refl, fL_minute_135, fL_minute_137, xvz_20, xvz_21, xvz_22, xvz_23, xvz_24, xvz_25, xvz_26, xvz_27, xvz_28, xvz_29, xrz_20, xrz_21, xrz_22, xrz_23, xrz_24, xrz_25, xrz_26, xrz_27, xrz_28, xrz_29, xdz_20, xdz_21, xdz_22, xdz_23, xdz_24, xdz_25, xdz_26, xdz_27, xdz_28, xdz_29, xlen, xcat, xc1, Nat.zero_le, Nat.reduceLeDiff, List.length_cons, List.length_nil, xr_c (n := 0) rfl, xr_c (n := 40) rfl, xr_c (n := -1) rfl, Int.reduceNeg]
    refine yru_ok hC [202] 4 _ _ _ _ ?_
    simp only [ykk_ap, Int.reduceEq, Int.reduceLT, Int.reduceLE, Int.reduceNeg, Int.reduceAdd, Int.reduceSub, Int.reduceMul, and_self, false_and, and_false, not_true_eq_false, not_false_eq_true, true_implies, false_implies, xq0, xq1, xq2, xq3, xq4, xq5, xqR, xq1R, xq3R, xt1, xt2, xt3, List.mem_cons, List.not_mem_nil, or_false, false_or, or_self, if_false, if_true, reduceIte, reduceCtorEq, xent, xen, List.length_cons, List.length_nil, List.replicate, j_c, j_cJ, j_ild, j_ald, j_lld, j_ist, j_ast, j_lst, j_inc, j_add, j_sub, j_mul, j_neg, j_div, j_rem, j_and, j_shr, j_shl1, j_or, j_ladd, j_lsub, j_lmul, j_i2l, j_lcmp, j_i2c, j_dup, j_dup2, j_pop, j_goto, j_ieq, j_ine, j_ilt, j_ige, j_igt, j_ile, j_eq, j_ne, j_lt, j_ge, j_gt, j_le, xsw, j_tsw, j_gI, j_gJ, j_gR, j_pI, j_pJ, j_gs, j_iald, j_iast, j_cald, j_cast, j_aald, j_cpy, j_min, j_max, j_abs, j_iret, j_zret, j_lret, j_dret, j_ret0, j_V0, j_V1, j_V2, j_V3, j_V4, j_V5, j_S1, j_S2, j_S3, xget, xset, xset2, xclr, xc1, xcat, Nat.reduceAdd, Nat.reduceEqDiff, Nat.reduceLT, Nat.reduceLeDiff, Nat.reduceMul, List.cons_append, List.nil_append, true_and, and_true, List.singleton_append, j_lsw2, j_Sn, j_ush, j_dupx2, List.take_succ_cons, List.take_zero, List.drop_succ_cons, List.drop_zero, List.reverse_cons, List.reverse_nil, Nat.le_refl, fL_minute_199, fL_minute_200, xvz_20, xvz_21, xvz_22, xvz_23, xvz_24, xvz_25, xvz_26, xvz_27, xvz_28, xvz_29, xrz_20, xrz_21, xrz_22, xrz_23, xrz_24, xrz_25, xrz_26, xrz_27, xrz_28, xrz_29, xdz_20, xdz_21, xdz_22, xdz_23, xdz_24, xdz_25, xdz_26, xdz_27, xdz_28, xdz_29, xlen, xcat, xc1, Nat.zero_le, Nat.reduceLeDiff, List.length_cons, List.length_nil, xr_c (n := 0) rfl, xr_c (n := 40) rfl, xr_c (n := -1) rfl, Int.reduceNeg]
    exact h'
  | succ m ih =>
    intro k M F T hk hI
    obtain ⟨i1, i2, i3, i4, i5, i6, i7, i8, i9⟩ := hI
    have hN := i3.1
    have k0 : 0 ≤ k := by omega
    have k64 : k < 64 := by omega
    have rk : XInR k := ⟨by omega, by omega⟩
    have hk0 : ¬ k < 0 := by omega
    have ha := i3.2.1 k k0 i8.2
    have ra : XInR (M 29 0 0 k) := ⟨by omega, by omega⟩
    have p5 : M 29 0 0 k / 2 ^ (5 : Int).toNat = M 29 0 0 k / 32 := rfl
    have p17 : M 29 0 0 k / 2 ^ (17 : Int).toNat = M 29 0 0 k / 131072 := rfl
    have e9 : M 20 0 0 9 = 40 := by rw [i2 9 (by decide) (by decide)]; exact h9
    have e4 : M 20 0 0 4 = t := by rw [i2 4 (by decide) (by decide)]; exact h4
    have rt : XInR t := ⟨by omega, by omega⟩
    have rs : XInR (M 29 0 0 k / 32 % 4096 + 40) := ⟨by omega, by omega⟩
    have ek : M 29 0 0 k % 131072 / 32 = M 29 0 0 k / 32 % 4096 := by omega
    by_cases c : t ≤ M 29 0 0 k / 32 % 4096 + 40
    · have hb := ih (k - 1) M F T (by omega) ⟨i1, i2, i3, i4, i5, i6, i7, by omega, fun j a b => by
        by_cases ej : j = k
        · rw [ej]; omega
        · exact i9 j (by omega) b⟩
      rw [show k - 1 = k + -1 from rfl] at hb
      refine yru_ok hC [199, 140] 4 _ _ _ _ ?_
      simp only [ykk_ap, Int.reduceEq, Int.reduceLT, Int.reduceLE, Int.reduceNeg, Int.reduceAdd, Int.reduceSub, Int.reduceMul, and_self, false_and, and_false, not_true_eq_false, not_false_eq_true, true_implies, false_implies, xq0, xq1, xq2, xq3, xq4, xq5, xqR, xq1R, xq3R, xt1, xt2, xt3, List.mem_cons, List.not_mem_nil, or_false, false_or, or_self, if_false, if_true, reduceIte, reduceCtorEq, xent, xen, List.length_cons, List.length_nil, List.replicate, j_c, j_cJ, j_ild, j_ald, j_lld, j_ist, j_ast, j_lst, j_inc, j_add, j_sub, j_mul, j_neg, j_div, j_rem, j_and, j_shr, j_shl1, j_or, j_ladd, j_lsub, j_lmul, j_i2l, j_lcmp, j_i2c, j_dup, j_dup2, j_pop, j_goto, j_ieq, j_ine, j_ilt, j_ige, j_igt, j_ile, j_eq, j_ne, j_lt, j_ge, j_gt, j_le, xsw, j_tsw, j_gI, j_gJ, j_gR, j_pI, j_pJ, j_gs, j_iald, j_iast, j_cald, j_cast, j_aald, j_cpy, j_min, j_max, j_abs, j_iret, j_zret, j_lret, j_dret, j_ret0, j_V0, j_V1, j_V2, j_V3, j_V4, j_V5, j_S1, j_S2, j_S3, xget, xset, xset2, xclr, xc1, xcat, Nat.reduceAdd, Nat.reduceEqDiff, Nat.reduceLT, Nat.reduceLeDiff, Nat.reduceMul, List.cons_append, List.nil_append, true_and, and_true, List.singleton_append, j_lsw2, j_Sn, j_ush, j_dupx2, List.take_succ_cons, List.take_zero, List.drop_succ_cons, List.drop_zero, List.reverse_cons, List.reverse_nil, Nat.le_refl, fL_minute_135, fL_minute_137, xvz_20, xvz_21, xvz_22, xvz_23, xvz_24, xvz_25, xvz_26, xvz_27, xvz_28, xvz_29, xrz_20, xrz_21, xrz_22, xrz_23, xrz_24, xrz_25, xrz_26, xrz_27, xrz_28, xrz_29, xdz_20, xdz_21, xdz_22, xdz_23, xdz_24, xdz_25, xdz_26, xdz_27, xdz_28, xdz_29, xlen, xcat, xc1, Nat.zero_le, Nat.reduceLeDiff, List.length_cons, List.length_nil, rk, hk0, k0, k64, ra, p5, e9, e4, rt, rs, c, xr_c (n := 0) rfl, xr_c (n := 40) rfl, xr_c (n := -1) rfl]
      refine yru_ok hC [193, 162] 17 _ _ _ _ ?_
      simp only [ykk_ap, Int.reduceEq, Int.reduceLT, Int.reduceLE, Int.reduceNeg, Int.reduceAdd, Int.reduceSub, Int.reduceMul, and_self, false_and, and_false, not_true_eq_false, not_false_eq_true, true_implies, false_implies, xq0, xq1, xq2, xq3, xq4, xq5, xqR, xq1R, xq3R, xt1, xt2, xt3, List.mem_cons, List.not_mem_nil, or_false, false_or, or_self, if_false, if_true, reduceIte, reduceCtorEq, xent, xen, List.length_cons, List.length_nil, List.replicate, j_c, j_cJ, j_ild, j_ald, j_lld, j_ist, j_ast, j_lst, j_inc, j_add, j_sub, j_mul, j_neg, j_div, j_rem, j_and, j_shr, j_shl1, j_or, j_ladd, j_lsub, j_lmul, j_i2l, j_lcmp, j_i2c, j_dup, j_dup2, j_pop, j_goto, j_ieq, j_ine, j_ilt, j_ige, j_igt, j_ile, j_eq, j_ne, j_lt, j_ge, j_gt, j_le, xsw, j_tsw, j_gI, j_gJ, j_gR, j_pI, j_pJ, j_gs, j_iald, j_iast, j_cald, j_cast, j_aald, j_cpy, j_min, j_max, j_abs, j_iret, j_zret, j_lret, j_dret, j_ret0, j_V0, j_V1, j_V2, j_V3, j_V4, j_V5, j_S1, j_S2, j_S3, xget, xset, xset2, xclr, xc1, xcat, Nat.reduceAdd, Nat.reduceEqDiff, Nat.reduceLT, Nat.reduceLeDiff, Nat.reduceMul, List.cons_append, List.nil_append, true_and, and_true, List.singleton_append, j_lsw2, j_Sn, j_ush, j_dupx2, List.take_succ_cons, List.take_zero, List.drop_succ_cons, List.drop_zero, List.reverse_cons, List.reverse_nil, Nat.le_refl, fL_minute_140, fL_minute_142, fL_minute_144, fL_minute_145, fL_minute_146, fL_minute_147, fL_minute_150, fL_minute_151, fL_minute_152, fL_minute_154, fL_minute_155, fL_minute_156, fL_minute_157, fL_minute_158, fL_minute_159, xvz_20, xvz_21, xvz_22, xvz_23, xvz_24, xvz_25, xvz_26, xvz_27, xvz_28, xvz_29, xrz_20, xrz_21, xrz_22, xrz_23, xrz_24, xrz_25, xrz_26, xrz_27, xrz_28, xrz_29, xdz_20, xdz_21, xdz_22, xdz_23, xdz_24, xdz_25, xdz_26, xdz_27, xdz_28, xdz_29, xlen, xcat, xc1, Nat.zero_le, Nat.reduceLeDiff, List.length_cons, List.length_nil, rk, hk0, k0, k64, ra, p5, e9, e4, rt, rs, c, xr_c (n := 0) rfl, xr_c (n := 40) rfl, xr_c (n := -1) rfl]
      refine yru_ok hC [135] 4 _ _ _ _ ?_
      simp only [ykk_ap, Int.reduceEq, Int.reduceLT, Int.reduceLE, Int.reduceNeg, Int.reduceAdd, Int.reduceSub, Int.reduceMul, and_self, false_and, and_false, not_true_eq_false, not_false_eq_true, true_implies, false_implies, xq0, xq1, xq2, xq3, xq4, xq5, xqR, xq1R, xq3R, xt1, xt2, xt3, List.mem_cons, List.not_mem_nil, or_false, false_or, or_self, if_false, if_true, reduceIte, reduceCtorEq, xent, xen, List.length_cons, List.length_nil, List.replicate, j_c, j_cJ, j_ild, j_ald, j_lld, j_ist, j_ast, j_lst, j_inc, j_add, j_sub, j_mul, j_neg, j_div, j_rem, j_and, j_shr, j_shl1, j_or, j_ladd, j_lsub, j_lmul, j_i2l, j_lcmp, j_i2c, j_dup, j_dup2, j_pop, j_goto, j_ieq, j_ine, j_ilt, j_ige, j_igt, j_ile, j_eq, j_ne, j_lt, j_ge, j_gt, j_le, xsw, j_tsw, j_gI, j_gJ, j_gR, j_pI, j_pJ, j_gs, j_iald, j_iast, j_cald, j_cast, j_aald, j_cpy, j_min, j_max, j_abs, j_iret, j_zret, j_lret, j_dret, j_ret0, j_V0, j_V1, j_V2, j_V3, j_V4, j_V5, j_S1, j_S2, j_S3, xget, xset, xset2, xclr, xc1, xcat, Nat.reduceAdd, Nat.reduceEqDiff, Nat.reduceLT, Nat.reduceLeDiff, Nat.reduceMul, List.cons_append, List.nil_append, true_and, and_true, List.singleton_append, j_lsw2, j_Sn, j_ush, j_dupx2, List.take_succ_cons, List.take_zero, List.drop_succ_cons, List.drop_zero, List.reverse_cons, List.reverse_nil, Nat.le_refl, fL_minute_193, fL_minute_196, xvz_20, xvz_21, xvz_22, xvz_23, xvz_24, xvz_25, xvz_26, xvz_27, xvz_28, xvz_29, xrz_20, xrz_21, xrz_22, xrz_23, xrz_24, xrz_25, xrz_26, xrz_27, xrz_28, xrz_29, xdz_20, xdz_21, xdz_22, xdz_23, xdz_24, xdz_25, xdz_26, xdz_27, xdz_28, xdz_29, xlen, xcat, xc1, Nat.zero_le, Nat.reduceLeDiff, List.length_cons, List.length_nil, rk, hk0, k0, k64, ra, p5, e9, e4, rt, rs, c, xr_c (n := 0) rfl, xr_c (n := 40) rfl, xr_c (n := -1) rfl]
      exact hb
    · refine yru_ok hC [199, 140] 4 _ _ _ _ ?_
      simp only [ykk_ap, Int.reduceEq, Int.reduceLT, Int.reduceLE, Int.reduceNeg, Int.reduceAdd, Int.reduceSub, Int.reduceMul, and_self, false_and, and_false, not_true_eq_false, not_false_eq_true, true_implies, false_implies, xq0, xq1, xq2, xq3, xq4, xq5, xqR, xq1R, xq3R, xt1, xt2, xt3, List.mem_cons, List.not_mem_nil, or_false, false_or, or_self, if_false, if_true, reduceIte, reduceCtorEq, xent, xen, List.length_cons, List.length_nil, List.replicate, j_c, j_cJ, j_ild, j_ald, j_lld, j_ist, j_ast, j_lst, j_inc, j_add, j_sub, j_mul, j_neg, j_div, j_rem, j_and, j_shr, j_shl1, j_or, j_ladd, j_lsub, j_lmul, j_i2l, j_lcmp, j_i2c, j_dup, j_dup2, j_pop, j_goto, j_ieq, j_ine, j_ilt, j_ige, j_igt, j_ile, j_eq, j_ne, j_lt, j_ge, j_gt, j_le, xsw, j_tsw, j_gI, j_gJ, j_gR, j_pI, j_pJ, j_gs, j_iald, j_iast, j_cald, j_cast, j_aald, j_cpy, j_min, j_max, j_abs, j_iret, j_zret, j_lret, j_dret, j_ret0, j_V0, j_V1, j_V2, j_V3, j_V4, j_V5, j_S1, j_S2, j_S3, xget, xset, xset2, xclr, xc1, xcat, Nat.reduceAdd, Nat.reduceEqDiff, Nat.reduceLT, Nat.reduceLeDiff, Nat.reduceMul, List.cons_append, List.nil_append, true_and, and_true, List.singleton_append, j_lsw2, j_Sn, j_ush, j_dupx2, List.take_succ_cons, List.take_zero, List.drop_succ_cons, List.drop_zero, List.reverse_cons, List.reverse_nil, Nat.le_refl, fL_minute_135, fL_minute_137, xvz_20, xvz_21, xvz_22, xvz_23, xvz_24, xvz_25, xvz_26, xvz_27, xvz_28, xvz_29, xrz_20, xrz_21, xrz_22, xrz_23, xrz_24, xrz_25, xrz_26, xrz_27, xrz_28, xrz_29, xdz_20, xdz_21, xdz_22, xdz_23, xdz_24, xdz_25, xdz_26, xdz_27, xdz_28, xdz_29, xlen, xcat, xc1, Nat.zero_le, Nat.reduceLeDiff, List.length_cons, List.length_nil, rk, hk0, k0, k64, ra, p5, p17, e9, e4, rt, rs, c, xup_app, xr_c (n := 0) rfl, xr_c (n := 40) rfl, xr_c (n := -1) rfl]
      refine yru_ok hC [193, 162] 17 _ _ _ _ ?_
      simp only [ykk_ap, Int.reduceEq, Int.reduceLT, Int.reduceLE, Int.reduceNeg, Int.reduceAdd, Int.reduceSub, Int.reduceMul, and_self, false_and, and_false, not_true_eq_false, not_false_eq_true, true_implies, false_implies, xq0, xq1, xq2, xq3, xq4, xq5, xqR, xq1R, xq3R, xt1, xt2, xt3, List.mem_cons, List.not_mem_nil, or_false, false_or, or_self, if_false, if_true, reduceIte, reduceCtorEq, xent, xen, List.length_cons, List.length_nil, List.replicate, j_c, j_cJ, j_ild, j_ald, j_lld, j_ist, j_ast, j_lst, j_inc, j_add, j_sub, j_mul, j_neg, j_div, j_rem, j_and, j_shr, j_shl1, j_or, j_ladd, j_lsub, j_lmul, j_i2l, j_lcmp, j_i2c, j_dup, j_dup2, j_pop, j_goto, j_ieq, j_ine, j_ilt, j_ige, j_igt, j_ile, j_eq, j_ne, j_lt, j_ge, j_gt, j_le, xsw, j_tsw, j_gI, j_gJ, j_gR, j_pI, j_pJ, j_gs, j_iald, j_iast, j_cald, j_cast, j_aald, j_cpy, j_min, j_max, j_abs, j_iret, j_zret, j_lret, j_dret, j_ret0, j_V0, j_V1, j_V2, j_V3, j_V4, j_V5, j_S1, j_S2, j_S3, xget, xset, xset2, xclr, xc1, xcat, Nat.reduceAdd, Nat.reduceEqDiff, Nat.reduceLT, Nat.reduceLeDiff, Nat.reduceMul, List.cons_append, List.nil_append, true_and, and_true, List.singleton_append, j_lsw2, j_Sn, j_ush, j_dupx2, List.take_succ_cons, List.take_zero, List.drop_succ_cons, List.drop_zero, List.reverse_cons, List.reverse_nil, Nat.le_refl, fL_minute_140, fL_minute_142, fL_minute_144, fL_minute_145, fL_minute_146, fL_minute_147, fL_minute_150, fL_minute_151, fL_minute_152, fL_minute_154, fL_minute_155, fL_minute_156, fL_minute_157, fL_minute_158, fL_minute_159, xvz_20, xvz_21, xvz_22, xvz_23, xvz_24, xvz_25, xvz_26, xvz_27, xvz_28, xvz_29, xrz_20, xrz_21, xrz_22, xrz_23, xrz_24, xrz_25, xrz_26, xrz_27, xrz_28, xrz_29, xdz_20, xdz_21, xdz_22, xdz_23, xdz_24, xdz_25, xdz_26, xdz_27, xdz_28, xdz_29, xlen, xcat, xc1, Nat.zero_le, Nat.reduceLeDiff, List.length_cons, List.length_nil, rk, hk0, k0, k64, ra, p5, p17, e9, e4, rt, rs, c, xup_app, xr_c (n := 0) rfl, xr_c (n := 40) rfl, xr_c (n := -1) rfl]
      refine yru_ok hC [193] 22 _ _ _ _ ?_
      simp only [ykk_ap, Int.reduceEq, Int.reduceLT, Int.reduceLE, Int.reduceNeg, Int.reduceAdd, Int.reduceSub, Int.reduceMul, and_self, false_and, and_false, not_true_eq_false, not_false_eq_true, true_implies, false_implies, xq0, xq1, xq2, xq3, xq4, xq5, xqR, xq1R, xq3R, xt1, xt2, xt3, List.mem_cons, List.not_mem_nil, or_false, false_or, or_self, if_false, if_true, reduceIte, reduceCtorEq, xent, xen, List.length_cons, List.length_nil, List.replicate, j_c, j_cJ, j_ild, j_ald, j_lld, j_ist, j_ast, j_lst, j_inc, j_add, j_sub, j_mul, j_neg, j_div, j_rem, j_and, j_shr, j_shl1, j_or, j_ladd, j_lsub, j_lmul, j_i2l, j_lcmp, j_i2c, j_dup, j_dup2, j_pop, j_goto, j_ieq, j_ine, j_ilt, j_ige, j_igt, j_ile, j_eq, j_ne, j_lt, j_ge, j_gt, j_le, xsw, j_tsw, j_gI, j_gJ, j_gR, j_pI, j_pJ, j_gs, j_iald, j_iast, j_cald, j_cast, j_aald, j_cpy, j_min, j_max, j_abs, j_iret, j_zret, j_lret, j_dret, j_ret0, j_V0, j_V1, j_V2, j_V3, j_V4, j_V5, j_S1, j_S2, j_S3, xget, xset, xset2, xclr, xc1, xcat, Nat.reduceAdd, Nat.reduceEqDiff, Nat.reduceLT, Nat.reduceLeDiff, Nat.reduceMul, List.cons_append, List.nil_append, true_and, and_true, List.singleton_append, j_lsw2, j_Sn, j_ush, j_dupx2, List.take_succ_cons, List.take_zero, List.drop_succ_cons, List.drop_zero, List.reverse_cons, List.reverse_nil, Nat.le_refl, fL_minute_162, fL_minute_163, fL_minute_165, fL_minute_166, fL_minute_167, fL_minute_169, fL_minute_171, fL_minute_172, fL_minute_174, fL_minute_175, fL_minute_176, fL_minute_177, fL_minute_178, fL_minute_180, fL_minute_182, fL_minute_184, fL_minute_186, fL_minute_187, fL_minute_189, fL_minute_190, xvz_20, xvz_21, xvz_22, xvz_23, xvz_24, xvz_25, xvz_26, xvz_27, xvz_28, xvz_29, xrz_20, xrz_21, xrz_22, xrz_23, xrz_24, xrz_25, xrz_26, xrz_27, xrz_28, xrz_29, xdz_20, xdz_21, xdz_22, xdz_23, xdz_24, xdz_25, xdz_26, xdz_27, xdz_28, xdz_29, xlen, xcat, xc1, Nat.zero_le, Nat.reduceLeDiff, List.length_cons, List.length_nil, rk, hk0, k0, k64, ra, p5, p17, e9, e4, rt, rs, c, xup_app, xr_c (n := 0) rfl, xr_c (n := 40) rfl, xr_c (n := -1) rfl]
      refine ug_less (F := F) (T := T) (BM_c (M := M) (by rw [xup_app, if_neg (by decide)]) (by rw [xup_tag (by decide)]) i3) ⟨k0, by rw [xup_app, if_neg (by decide)]; exact i8.2⟩ ⟨by omega, by rw [xup_tag (by decide)]; exact Int.le_refl _⟩ (fun M' hL => ?_)
      obtain ⟨⟨l1, l2⟩, l3, -, l5⟩ := hL
      rw [xup_tag (show ¬ (29 : Nat) = 20 by decide)] at l3 l5
      obtain ⟨l6, l7⟩ := l5 ha.2.2
      rw [xup_app, if_neg (by decide)] at l6 l7
      have lk : F (M 29 0 0 k % 131072) - M 29 0 0 k / 131072 = 0 := by omega
      rw [lk] at l3
      have hle := BR_F i3 (M 29 0 0 k % 131072)
      have hb := ih (k - 1) M' (sup F (M 29 0 0 k % 131072) 0) (T - M 29 0 0 k / 131072) (by omega) ⟨fun t' a b => by rw [l1 t' a b, xup_tag a]; exact i1 t' a b, fun s a b => by rw [l2 s a, xup_app, if_neg (fun z => b z.2.2.2)]; exact i2 s a b, l3, fun q => ?_, ?_, by omega, by omega, by omega, fun j a b => ?_⟩
      · rw [show k - 1 = k + -1 from rfl] at hb
        refine yru_ok hC [135] 4 _ _ _ _ ?_
        simp only [ykk_ap, Int.reduceEq, Int.reduceLT, Int.reduceLE, Int.reduceNeg, Int.reduceAdd, Int.reduceSub, Int.reduceMul, and_self, false_and, and_false, not_true_eq_false, not_false_eq_true, true_implies, false_implies, xq0, xq1, xq2, xq3, xq4, xq5, xqR, xq1R, xq3R, xt1, xt2, xt3, List.mem_cons, List.not_mem_nil, or_false, false_or, or_self, if_false, if_true, reduceIte, reduceCtorEq, xent, xen, List.length_cons, List.length_nil, List.replicate, j_c, j_cJ, j_ild, j_ald, j_lld, j_ist, j_ast, j_lst, j_inc, j_add, j_sub, j_mul, j_neg, j_div, j_rem, j_and, j_shr, j_shl1, j_or, j_ladd, j_lsub, j_lmul, j_i2l, j_lcmp, j_i2c, j_dup, j_dup2, j_pop, j_goto, j_ieq, j_ine, j_ilt, j_ige, j_igt, j_ile, j_eq, j_ne, j_lt, j_ge, j_gt, j_le, xsw, j_tsw, j_gI, j_gJ, j_gR, j_pI, j_pJ, j_gs, j_iald, j_iast, j_cald, j_cast, j_aald, j_cpy, j_min, j_max, j_abs, j_iret, j_zret, j_lret, j_dret, j_ret0, j_V0, j_V1, j_V2, j_V3, j_V4, j_V5, j_S1, j_S2, j_S3, xget, xset, xset2, xclr, xc1, xcat, Nat.reduceAdd, Nat.reduceEqDiff, Nat.reduceLT, Nat.reduceLeDiff, Nat.reduceMul, List.cons_append, List.nil_append, true_and, and_true, List.singleton_append, j_lsw2, j_Sn, j_ush, j_dupx2, List.take_succ_cons, List.take_zero, List.drop_succ_cons, List.drop_zero, List.reverse_cons, List.reverse_nil, Nat.le_refl, fL_minute_193, fL_minute_196, xvz_20, xvz_21, xvz_22, xvz_23, xvz_24, xvz_25, xvz_26, xvz_27, xvz_28, xvz_29, xrz_20, xrz_21, xrz_22, xrz_23, xrz_24, xrz_25, xrz_26, xrz_27, xrz_28, xrz_29, xdz_20, xdz_21, xdz_22, xdz_23, xdz_24, xdz_25, xdz_26, xdz_27, xdz_28, xdz_29, xlen, xcat, xc1, Nat.zero_le, Nat.reduceLeDiff, List.length_cons, List.length_nil]
        exact hb
      · simp only [sup_at]
        by_cases eq : q = M 29 0 0 k % 131072
        · rw [if_pos eq]
          exact Or.inr ⟨rfl, by omega⟩
        · rw [if_neg eq]
          exact i4 q
      · rw [l2 15 (by decide), xup_app, if_pos ⟨rfl, rfl, rfl, rfl⟩]
        omega
      · rw [l7 j (by omega) b]
        by_cases ej : j = k
        · rw [if_pos ej]
          exact i9 _ (by omega) (by omega)
        · rw [if_neg ej]
          exact i9 j (by omega) (by omega)
theorem rY_throw {a : Int} {d : Int → Int} {G M M' : XM} {F F' : Int → Int} {T T' : Int} (h : RY a d 41 G M F T) (hI : thI (M 20 0 0 4) M F T (-1) M' F' T') : RY a d 40 (pThrow G 0) M' F' T' := by
  obtain ⟨h1, h2, h3, h4, h5, h6, h7, h8, h9⟩ := h
  obtain ⟨i1, i2, i3, i4, i5, i6, i7, i8, i9⟩ := hI
  have c := h1
  obtain ⟨c1, c2, c3, c4, c5', c6, c7, c8⟩ := c
  obtain ⟨g1, g2, g3, g4, g5⟩ := pThrow_at c6.2.1 c6.2.2.1 c6.2.2.2.2 c2.2.2.2.1
  have hF : ∀ q : Int, F' q = if q / 32 < M 20 0 0 4 - 40 then 0 else F q := fun q => by
    have hz : ¬ F' q = 0 → M 20 0 0 4 - 40 ≤ q / 32 := fun hz => by
      rcases i3.2.2.2.1 q with e | ⟨k, hk, e⟩
      · exact absurd e hz
      · rw [← e]
        exact i9 k (by omega) hk.2
    by_cases cq : q / 32 < M 20 0 0 4 - 40
    · rw [if_pos cq]
      by_cases e : F' q = 0
      · exact e
      · have := hz e
        omega
    · rw [if_neg cq]
      rcases i4 q with e | e
      · exact e
      · exact absurd e.2 cq
  have hS' : rS 40 (M 20 0 0 4) (pThrow G 0) F' := ⟨fun q hq => by
      rw [hF q] at hq
      by_cases cq : q / 32 < M 20 0 0 4 - 40
      · rw [if_pos cq] at hq
        exact absurd rfl hq
      · rw [if_neg cq] at hq
        have := h8.1 q hq
        exact ⟨this.1, this.2.1, by omega, this.2.2.2⟩, fun j hj x x0 x1 => by
      have hk := kx_st (t := M 20 0 0 4) (stc_in hj) x0 x1
      rw [g2 j hj x, zth_at x0 x1, hF, h8.2 j hj x x0 x1]
      by_cases c9 : 40 < (M 20 0 0 4 - x) % 64
      · rw [if_pos c9, if_pos (by omega)]
      · rw [if_neg c9, if_neg (by omega)]⟩
  have e4 : M' 20 0 0 4 = M 20 0 0 4 := i2 4 (by decide) (by decide)
  have T1 := rS_tot h7 h8 (by decide)
  have T2 := rS_tot i3 hS' (by decide)
  have ez : ∀ j : Int, j = 0 ∨ j = 1 ∨ j = 3 ∨ j = 4 → pThrow G 0 11 0 j = zth (M 20 0 0 4) (G 11 0 j) := fun j hj => by
    funext x
    exact g2 j hj x
  rw [ez 0 (by decide), ez 1 (by decide), ez 3 (by decide), ez 4 (by decide)] at T2
  have m : ∀ t' : Nat, ¬ t' = 20 → ¬ t' = 29 → M' t' = M t' := i1
  refine ⟨rC_c (fun s _ => by rw [g1 1 (by decide) (by decide) (by decide) (by decide)]) (g1 2 (by decide) (by decide) (by decide) (by decide)) (by rw [g1 15 (by decide) (by decide) (by decide) (by decide)]) (fun s z => i2 s (by omega) (by omega)) h1, rP_c (g1 3 (by decide) (by decide) (by decide) (by decide)) (g1 4 (by decide) (by decide) (by decide) (by decide)) (i2 0 (by decide) (by decide)) (m 21 (by decide) (by decide)) h2, fun k b c => rK1_c (fun s z => g3 k s (by omega)) (fun x => by rw [g1 9 (by decide) (by decide) (by decide) (by decide)]) (i2 0 (by decide) (by decide)) (by rw [m 22 (by decide) (by decide)]) (fun x _ _ => by rw [m 23 (by decide) (by decide)]) (by rw [m 24 (by decide) (by decide)]) (by rw [m 25 (by decide) (by decide)]) (h3 k b c), fun l b c => rL1_c (fun s z => g4 l s (by omega)) (i2 0 (by decide) (by decide)) (by rw [m 26 (by decide) (by decide)]) (by rw [m 27 (by decide) (by decide)]) (h4 l b c), rU_c (fun u s _ _ _ _ => by rw [g1 14 (by decide) (by decide) (by decide) (by decide)]) (i2 0 (by decide) (by decide)) (i2 3 (by decide) (by decide)) e4 (m 28 (by decide) (by decide)) h5, ?_, i3, by rw [e4]; exact hS', ?_⟩
  · obtain ⟨t1, t2, t3, t4, t5, t6, t7⟩ := h6
    unfold rT uG
    rw [i2 13 (by decide) (by decide), i2 14 (by decide) (by decide), i5, i2 16 (by decide) (by decide), i2 17 (by decide) (by decide), i2 18 (by decide) (by decide), g1 14 (by decide) (by decide) (by decide) (by decide), g1 1 (by decide) (by decide) (by decide) (by decide), g3 0 5 (by decide), g3 1 5 (by decide)]
    exact ⟨t1, t2, by omega, t4, t5, t6, t7⟩
  · obtain ⟨b1, b2, b3, b4, b5, b6⟩ := h9
    unfold rB
    have ex : ∀ u : Int, xU M' u 4 = xU M u 4 := fun u => xU_c (m 28 (by decide) (by decide)) u 4
    rw [i2 13 (by decide) (by decide), i5, i2 16 (by decide) (by decide), i2 3 (by decide) (by decide), m 25 (by decide) (by decide), g1 14 (by decide) (by decide) (by decide) (by decide), s5_congr (f := fun u => if u < M 20 0 0 3 then xU M' u 4 else 0) (g := fun u => if u < M 20 0 0 3 then xU M u 4 else 0) (fun u _ _ => by rw [ex])]
    exact ⟨b1, b2, by omega, by omega, b5, b6⟩
set_option maxRecDepth 100000 in
theorem kL_min_C {Post : XPo} {WW : XK} (hC : XCl (xlk (pL_minute Post)) WW) {a : Int} {d : Int → Int} {G M : XM} {F : Int → Int} {T : Int} {x8 : Int} {x9 : Option XV} (hR : RY a d 41 G M F T) (ht : M 20 0 0 4 ≤ 2700) (h : ∀ (M' : XM) (F' : Int → Int) (T' : Int), RY a d 40 (pThrow G 0) M' F' T' → M' 20 0 0 4 = M 20 0 0 4 → M' 20 0 0 18 = M 20 0 0 18 → EQ M' M → WW 202 [some (xR 20 0 0), some (xR 22 0 0), some (xR 24 0 0), some (xR 25 0 0), some (xR 26 0 0), some (xR 27 0 0), some (xR 28 0 0), some (xR 29 0 0), some (xI 0), x9] [] M') : WW 127 [some (xR 20 0 0), some (xR 22 0 0), some (xR 24 0 0), some (xR 25 0 0), some (xR 26 0 0), some (xR 27 0 0), some (xR 28 0 0), some (xR 29 0 0), some (xI x8), x9] [] M := by
  have hR' := hR
  obtain ⟨h1, h2, h3, h4, h5, h6, h7, h8, h9⟩ := hR
  obtain ⟨c1, c2, c3, c4, c5', c6, c7, c8⟩ := h1
  have hN := h7.1
  have hb := kL_min_Cl hC (t := M 20 0 0 4) (M0 := M) (F0 := F) (T0 := T) (x9 := x9) c1.2.2.2.1 rfl ⟨c7, by omega⟩ (fun M' F' T' hI => h M' F' T' (rY_throw hR' hI) (hI.2.1 4 (by decide) (by decide)) (hI.2.1 18 (by decide) (by decide)) (fun t ht => hI.1 t (by omega) (by omega))) (M 20 0 0 12).toNat (M 20 0 0 12 - 1) M F T (by omega) ⟨fun _ _ _ => rfl, fun _ _ _ => rfl, h7, fun _ => Or.inl rfl, by omega, Int.le_refl _, Int.le_refl _, by omega, fun j z1 z2 => by omega⟩
  refine yru_ok hC [135] 8 _ _ _ _ ?_
  simp only [ykk_ap, Int.reduceEq, Int.reduceLT, Int.reduceLE, Int.reduceNeg, Int.reduceAdd, Int.reduceSub, Int.reduceMul, and_self, false_and, and_false, not_true_eq_false, not_false_eq_true, true_implies, false_implies, xq0, xq1, xq2, xq3, xq4, xq5, xqR, xq1R, xq3R, xt1, xt2, xt3, List.mem_cons, List.not_mem_nil, or_false, false_or, or_self, if_false, if_true, reduceIte, reduceCtorEq, xent, xen, List.length_cons, List.length_nil, List.replicate, j_c, j_cJ, j_ild, j_ald, j_lld, j_ist, j_ast, j_lst, j_inc, j_add, j_sub, j_mul, j_neg, j_div, j_rem, j_and, j_shr, j_shl1, j_or, j_ladd, j_lsub, j_lmul, j_i2l, j_lcmp, j_i2c, j_dup, j_dup2, j_pop, j_goto, j_ieq, j_ine, j_ilt, j_ige, j_igt, j_ile, j_eq, j_ne, j_lt, j_ge, j_gt, j_le, xsw, j_tsw, j_gI, j_gJ, j_gR, j_pI, j_pJ, j_gs, j_iald, j_iast, j_cald, j_cast, j_aald, j_cpy, j_min, j_max, j_abs, j_iret, j_zret, j_lret, j_dret, j_ret0, j_V0, j_V1, j_V2, j_V3, j_V4, j_V5, j_S1, j_S2, j_S3, xget, xset, xset2, xclr, xc1, xcat, Nat.reduceAdd, Nat.reduceEqDiff, Nat.reduceLT, Nat.reduceLeDiff, Nat.reduceMul, List.cons_append, List.nil_append, true_and, and_true, List.singleton_append, j_lsw2, j_Sn, j_ush, j_dupx2, List.take_succ_cons, List.take_zero, List.drop_succ_cons, List.drop_zero, List.reverse_cons, List.reverse_nil, Nat.le_refl, fL_minute_127, fL_minute_128, fL_minute_130, fL_minute_131, fL_minute_132, fL_minute_133, xvz_20, xvz_21, xvz_22, xvz_23, xvz_24, xvz_25, xvz_26, xvz_27, xvz_28, xvz_29, xrz_20, xrz_21, xrz_22, xrz_23, xrz_24, xrz_25, xrz_26, xrz_27, xrz_28, xrz_29, xdz_20, xdz_21, xdz_22, xdz_23, xdz_24, xdz_25, xdz_26, xdz_27, xdz_28, xdz_29, xlen, xcat, xc1, Nat.zero_le, Nat.reduceLeDiff, List.length_cons, List.length_nil]
  exact hb
end XN2

