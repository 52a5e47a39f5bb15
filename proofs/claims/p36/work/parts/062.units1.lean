section XUn
/-! units come, split, join, move, wrap: the relation -/
theorem rY_uop {a n3 : Int} {M M2 : XM} {F : Int → Int} {T : Int} (h : RY a (fun _ => 1) 40 M M F T) (hG : ∀ (t : Nat) (j s : Int), t < 20 → ¬ t = 15 → ¬ t = 14 → M2 t 0 j s = if t = 1 ∧ j = 0 ∧ s = 10 then n3 else M t 0 j s) (h15 : M2 15 0 0 2 = M 15 0 0 2) (hM : ∀ t : Nat, 20 ≤ t → ¬ t = 20 → ¬ t = 28 → M2 t = M t) (h20 : ∀ s : Int, ¬ s = 3 → ¬ s = 17 → M2 20 0 0 s = M 20 0 0 s) (h3 : M2 20 0 0 3 = n3) (hn : M 20 0 0 3 ≤ n3 ∧ n3 ≤ 5) (hU : rU (fun _ => 1) M2 M2)
    (t9 : s5 (fun u => M2 14 0 u 9) = s5 (fun u => M 14 0 u 9)) (t10 : s5 (fun u => M2 14 0 u 10) = s5 (fun u => M 14 0 u 10)) (t11 : M2 20 0 0 17 = s5 (fun u => M2 14 0 u 11)) (tG : s5 (uG M2 0) = s5 (uG M 0)) (b4 : s5 (fun u => if u < M 20 0 0 3 then xU M u 4 else 0) ≤ s5 (fun u => if u < n3 then xU M2 u 4 else 0)) (b2 : s5 (fun u => M2 14 0 u 2) ≤ 30 * n3) : RY a (fun _ => 1) 40 M2 M2 F T := by
  obtain ⟨q1, q2, q3, q4, q5, q6, q7, q8, q9⟩ := h
  have g : ∀ (t : Nat) (j s : Int), t < 20 → ¬ t = 15 → ¬ t = 14 → ¬ (t = 1 ∧ s = 10) → M2 t 0 j s = M t 0 j s := fun t j s a b c d => by rw [hG t j s a b c, if_neg (fun z => d ⟨z.1, z.2.2⟩)]
  refine ⟨?_, fun p b c => ?_, fun k b c => rK1_c (fun s _ => g 8 k s (by decide) (by decide) (by decide) (by omega)) (fun x => g 9 k x (by decide) (by decide) (by decide) (by omega)) (h20 0 (by decide) (by decide)) (by rw [hM 22 (by decide) (by decide) (by decide)]) (fun x _ _ => by rw [hM 23 (by decide) (by decide) (by decide)]) (by rw [hM 24 (by decide) (by decide) (by decide)]) (by rw [hM 25 (by decide) (by decide) (by decide)]) (q3 k b c), fun l b c => rL1_c (fun s _ => g 13 l s (by decide) (by decide) (by decide) (by omega)) (h20 0 (by decide) (by decide)) (by rw [hM 26 (by decide) (by decide) (by decide)]) (by rw [hM 27 (by decide) (by decide) (by decide)]) (q4 l b c), hU, ?_, BM_c (h20 12 (by decide) (by decide)) (hM 29 (by decide) (by decide) (by decide)) q7, ?_, ?_⟩
  · obtain ⟨c1, c2, c3, c4, c5', c6, c7, c8⟩ := q1
    unfold rC
    rw [g 1 0 3 (by decide) (by decide) (by decide) (by omega), g 1 0 6 (by decide) (by decide) (by decide) (by omega), g 1 0 8 (by decide) (by decide) (by decide) (by omega), hG 1 0 10 (by decide) (by decide) (by decide), if_pos ⟨rfl, rfl, rfl⟩, g 1 0 0 (by decide) (by decide) (by decide) (by omega), g 2 0 0 (by decide) (by decide) (by decide) (by omega), g 2 0 1 (by decide) (by decide) (by decide) (by omega), g 2 0 2 (by decide) (by decide) (by decide) (by omega), g 2 0 3 (by decide) (by decide) (by decide) (by omega), g 2 0 4 (by decide) (by decide) (by decide) (by omega), g 2 0 5 (by decide) (by decide) (by decide) (by omega), h15, h20 0 (by decide) (by decide), h20 1 (by decide) (by decide), h20 2 (by decide) (by decide), h3, h20 4 (by decide) (by decide), h20 5 (by decide) (by decide), h20 6 (by decide) (by decide), h20 7 (by decide) (by decide), h20 8 (by decide) (by decide), h20 9 (by decide) (by decide), h20 10 (by decide) (by decide), h20 11 (by decide) (by decide)]
    exact ⟨c1, c2, c3, c4, by omega, ⟨c6.1, c6.2.1, c6.2.2.1, rfl, c6.2.2.2.2⟩, c7, c8⟩
  · rw [h20 0 (by decide) (by decide)] at c
    rw [g 3 0 p (by decide) (by decide) (by decide) (by omega), g 4 0 p (by decide) (by decide) (by decide) (by omega), hM 21 (by decide) (by decide) (by decide)]
    exact q2 p b c
  · obtain ⟨t1, t2, t3, t4, t5, t6, t7⟩ := q6
    unfold rT
    rw [h20 13 (by decide) (by decide), h20 14 (by decide) (by decide), h20 15 (by decide) (by decide), h20 16 (by decide) (by decide), h20 18 (by decide) (by decide), t9, t10, tG, g 8 0 5 (by decide) (by decide) (by decide) (by omega), g 8 1 5 (by decide) (by decide) (by decide) (by omega), g 8 0 6 (by decide) (by decide) (by decide) (by omega), g 8 1 6 (by decide) (by decide) (by decide) (by omega), g 13 0 5 (by decide) (by decide) (by decide) (by omega), g 13 1 5 (by decide) (by decide) (by decide) (by omega), g 1 0 1 (by decide) (by decide) (by decide) (by omega)]
    exact ⟨t1, t2, t3, t4, t11, t6, t7⟩
  · rw [h20 4 (by decide) (by decide)]
    exact rS_c (fun j x => g 11 j x (by decide) (by decide) (by decide) (by omega)) q8
  · obtain ⟨l1, l2, l3, l4, l5, l6⟩ := q9
    unfold rB
    rw [h20 13 (by decide) (by decide), h20 15 (by decide) (by decide), h20 12 (by decide) (by decide), h20 16 (by decide) (by decide), h3, hM 25 (by decide) (by decide) (by decide)]
    exact ⟨l1, l2, l3, l4, by omega, b2⟩
def nv (p n g c v : Int) (s : Int) : Int := if s = 1 then p else if s = 2 then n else if s = 3 then g else if s = 4 then c else if s = 5 then v else if s = 8 then -1 else 0
/-- a new unit, and what another one gives it -/
theorem rY_new {a p n g c v u dn dg : Int} {M M2 : XM} {F : Int → Int} {T : Int} (h : RY a (fun _ => 1) 40 M M F T) (h5 : M 20 0 0 3 < 5) (hp : 0 ≤ p ∧ p < M 20 0 0 0) (hn : 1 ≤ n ∧ n ≤ 300) (hg : 0 ≤ g ∧ g ≤ n) (hc : M 20 0 0 4 + 1 ≤ c ∧ c ≤ M 20 0 0 4 + 50) (hv : 30 ≤ v ∧ v ≤ 49) (hu : dn = 0 ∧ dg = 0 ∧ n ≤ 30 ∨ dn = n ∧ dg = g ∧ (0 ≤ u ∧ u < M 20 0 0 3) ∧ xU M u 0 = 0 ∧ n < xU M u 2 ∧ g ≤ xU M u 3 ∧ n - g ≤ xU M u 2 - xU M u 3)
    (hG : ∀ (t : Nat) (j s : Int), t < 20 → ¬ t = 15 → ¬ t = 14 → M2 t 0 j s = if t = 1 ∧ j = 0 ∧ s = 10 then M 20 0 0 3 + 1 else M t 0 j s) (h15 : M2 15 0 0 2 = M 15 0 0 2) (hM : ∀ t : Nat, 20 ≤ t → ¬ t = 20 → ¬ t = 28 → M2 t = M t) (h20 : ∀ s : Int, M2 20 0 0 s = if s = 3 then M 20 0 0 3 + 1 else M 20 0 0 s)
    (h14 : ∀ w s : Int, 0 ≤ s → s < 12 → M2 14 0 w s = if w = M 20 0 0 3 then nv p n g c v s else if w = u ∧ s = 2 then M 14 0 u 2 - dn else if w = u ∧ s = 3 then M 14 0 u 3 - dg else M 14 0 w s) (hx : ∀ w s : Int, 0 ≤ s → s < 12 → xU M2 w s = if w = M 20 0 0 3 then nv p n g c v s else if w = u ∧ s = 2 then xU M u 2 - dn else if w = u ∧ s = 3 then xU M u 3 - dg else xU M w s) : RY a (fun _ => 1) 40 M2 M2 F T := by
  have hR := h
  obtain ⟨q1, q2, q3, q4, q5, q6, q7, q8, q9⟩ := h
  obtain ⟨m, hm⟩ : ∃ m : Int, m = M 20 0 0 3 := ⟨_, rfl⟩
  rw [← hm] at h5 hu h14 hx hG h20
  have m0 : 0 ≤ m := by have := q1.2.2.2.2.1; omega
  have z0 := (q5 m m0 h5).2 (by omega)
  have t0 := q1.2.2.2.2.2.2.1
  unfold rU0 at z0
  have e4 : M2 20 0 0 4 = M 20 0 0 4 := by rw [h20, if_neg (by decide)]
  have e0 : M2 20 0 0 0 = M 20 0 0 0 := by rw [h20, if_neg (by decide)]
  have e3 : M2 20 0 0 3 = m + 1 := by rw [h20, if_pos rfl]
  have sums : ∀ s : Int, s = 9 ∨ s = 10 ∨ s = 11 ∨ s = 6 ∨ s = 7 → ∀ w : Int, M2 14 0 w s = M 14 0 w s := fun s hs w => by
    rw [h14 w s (by omega) (by omega)]
    by_cases e : w = m
    · rw [if_pos e, e]
      unfold nv
      rw [if_neg (by omega), if_neg (by omega), if_neg (by omega), if_neg (by omega), if_neg (by omega), if_neg (by omega)]
      rcases hs with rfl | rfl | rfl | rfl | rfl <;> omega
    · rw [if_neg e, if_neg (by omega), if_neg (by omega)]
  refine rY_uop (n3 := m + 1) hR hG h15 hM (fun s s3 _ => by rw [h20, if_neg s3]) e3 (by omega) (fun w w0 w5 => ?_) (s5_congr (fun w _ _ => sums 9 (by decide) w)) (s5_congr (fun w _ _ => sums 10 (by decide) w)) ?_ (s5_congr (fun w _ _ => by unfold uG; rw [sums 9 (by decide), sums 6 (by decide), sums 7 (by decide), sums 11 (by decide)])) ?_ ?_
  · rw [e3]
    refine ⟨fun z => ?_, fun z => ?_⟩
    · by_cases e : w = m
      · subst e
        have gg : ∀ s : Int, 0 ≤ s → s < 12 → M2 14 0 w s = nv p n g c v s := fun s s0 s1 => by rw [h14 w s s0 s1, if_pos rfl]
        have xx : ∀ s : Int, 0 ≤ s → s < 12 → xU M2 w s = nv p n g c v s := fun s s0 s1 => by rw [hx w s s0 s1, if_pos rfl]
        unfold rU1
        rw [gg 0 (by decide) (by decide), gg 9 (by decide) (by decide), gg 10 (by decide) (by decide), gg 11 (by decide) (by decide), xx 0 (by decide) (by decide), xx 1 (by decide) (by decide), xx 2 (by decide) (by decide), xx 3 (by decide) (by decide), xx 4 (by decide) (by decide), xx 5 (by decide) (by decide), xx 6 (by decide) (by decide), xx 7 (by decide) (by decide), xx 8 (by decide) (by decide), xx 9 (by decide) (by decide), xx 10 (by decide) (by decide), xx 11 (by decide) (by decide), e0, e4]
        simp only [nv, Int.reduceEq, if_true, if_false, not_true_eq_false, true_implies, false_implies, and_true, true_and]
        refine ⟨by decide, by omega, by decide, ⟨fun s s0 s1 => ?_, hp, by omega, hc.1, hv, by decide, by simp, by omega⟩⟩
        rw [gg s (by omega) (by omega), xx s (by omega) (by omega)]
      · have p1 := (q5 w w0 w5).1 (by omega)
        by_cases eu : w = u ∧ dn = n ∧ dg = g ∧ ((0 ≤ u ∧ u < m) ∧ xU M u 0 = 0 ∧ n < xU M u 2 ∧ g ≤ xU M u 3 ∧ n - g ≤ xU M u 2 - xU M u 3)
        · obtain ⟨ew, en, eg, hu2, hu3, hu4, hu5, hu6⟩ := eu
          subst ew
          obtain ⟨a1, b, cc, dd, e', f⟩ := p1
          obtain ⟨f1, f2, f3, f4, f5, f6, f7, f8, f9⟩ := e' hu3
          have gg : ∀ s : Int, 0 ≤ s → s < 12 → ¬ s = 2 → ¬ s = 3 → M2 14 0 w s = M 14 0 w s := fun s s0 s1 n2 n3 => by rw [h14 w s s0 s1, if_neg e, if_neg (fun z => n2 z.2), if_neg (fun z => n3 z.2)]
          have xx : ∀ s : Int, 0 ≤ s → s < 12 → ¬ s = 2 → ¬ s = 3 → xU M2 w s = xU M w s := fun s s0 s1 n2 n3 => by rw [hx w s s0 s1, if_neg e, if_neg (fun z => n2 z.2), if_neg (fun z => n3 z.2)]
          have x2 : xU M2 w 2 = xU M w 2 - n := by rw [hx w 2 (by decide) (by decide), if_neg e, if_pos ⟨rfl, rfl⟩, en]
          have x3 : xU M2 w 3 = xU M w 3 - g := by rw [hx w 3 (by decide) (by decide), if_neg e, if_neg (by omega), if_pos ⟨rfl, rfl⟩, eg]
          have g2 : M2 14 0 w 2 = M 14 0 w 2 - n := by rw [h14 w 2 (by decide) (by decide), if_neg e, if_pos ⟨rfl, rfl⟩, en]
          have g3 : M2 14 0 w 3 = M 14 0 w 3 - g := by rw [h14 w 3 (by decide) (by decide), if_neg e, if_neg (by omega), if_pos ⟨rfl, rfl⟩, eg]
          unfold rU1
          rw [gg 0 (by decide) (by decide) (by decide) (by decide), gg 9 (by decide) (by decide) (by decide) (by decide), gg 10 (by decide) (by decide) (by decide) (by decide), gg 11 (by decide) (by decide) (by decide) (by decide), xx 0 (by decide) (by decide) (by decide) (by decide), xx 1 (by decide) (by decide) (by decide) (by decide), x2, x3, xx 4 (by decide) (by decide) (by decide) (by decide), xx 5 (by decide) (by decide) (by decide) (by decide), xx 6 (by decide) (by decide) (by decide) (by decide), xx 7 (by decide) (by decide) (by decide) (by decide), xx 8 (by decide) (by decide) (by decide) (by decide), xx 9 (by decide) (by decide) (by decide) (by decide), xx 10 (by decide) (by decide) (by decide) (by decide), xx 11 (by decide) (by decide) (by decide) (by decide), e0, e4]
          refine ⟨a1, b, cc, dd, fun _ => ⟨fun s s0 s1 => ?_, f2, by omega, f4, f5, f6, f7, f8, f9⟩, fun z => absurd hu3 z⟩
          by_cases s2 : s = 2
          · rw [s2, g2, x2, f1 2 (by decide) (by decide)]
          · by_cases s3 : s = 3
            · rw [s3, g3, x3, f1 3 (by decide) (by decide)]
            · rw [gg s (by omega) (by omega) s2 s3, xx s (by omega) (by omega) s2 s3]
              exact f1 s s0 s1
        · have dz : w = u → dn = 0 ∧ dg = 0 := fun ew => by
            rcases hu with z | z
            · exact ⟨z.1, z.2.1⟩
            · exact absurd ⟨ew, z.1, z.2.1, z.2.2⟩ eu
          refine rU1_c (G := M) (M := M) (fun s s0 s1 => ?_) e0 e4 (fun s s0 s1 => ?_) p1
          · rw [h14 w s s0 s1, if_neg e]
            by_cases c2 : w = u ∧ s = 2
            · rw [if_pos c2, (dz c2.1).1, c2.1, c2.2]
              omega
            · rw [if_neg c2]
              by_cases c3 : w = u ∧ s = 3
              · rw [if_pos c3, (dz c3.1).2, c3.1, c3.2]
                omega
              · rw [if_neg c3]
          · rw [hx w s s0 s1, if_neg e]
            by_cases c2 : w = u ∧ s = 2
            · rw [if_pos c2, (dz c2.1).1, c2.1, c2.2]
              omega
            · rw [if_neg c2]
              by_cases c3 : w = u ∧ s = 3
              · rw [if_pos c3, (dz c3.1).2, c3.1, c3.2]
                omega
              · rw [if_neg c3]
    · have p2 := (q5 w w0 w5).2 (by omega)
      refine rU0_c (G := M) (fun s s0 s1 => ?_) p2
      rw [h14 w s s0 s1, if_neg (by omega)]
      rcases hu with z1 | z1
      · by_cases c2 : w = u ∧ s = 2
        · rw [if_pos c2, z1.1, c2.1, c2.2]
          omega
        · rw [if_neg c2]
          by_cases c3 : w = u ∧ s = 3
          · rw [if_pos c3, z1.2.1, c3.1, c3.2]
            omega
          · rw [if_neg c3]
      · rw [if_neg (by omega), if_neg (by omega)]
  · rw [h20, if_neg (by decide), q6.2.2.2.2.1]
    exact (s5_congr (fun w _ _ => sums 11 (by decide) w)).symm
  · rw [← hm]
    refine s5_le (fun w w0 w5 => ?_)
    by_cases e : w < m
    · rw [if_pos e, if_pos (by omega), hx w 4 (by decide) (by decide), if_neg (by omega), if_neg (by omega), if_neg (by omega)]
      exact Int.le_refl _
    · rw [if_neg e]
      by_cases e2 : w < m + 1
      · rw [if_pos e2, hx w 4 (by decide) (by decide), if_pos (by omega)]
        simp only [nv, Int.reduceEq, if_true, if_false]
        have := q1.2.2.2.2.2.2.1
        omega
      · rw [if_neg e2]
        exact Int.le_refl _
  · have b6 := q9.2.2.2.2.2
    rw [← hm] at b6
    rcases hu with z | z
    · have e1 := s5_one (f := fun w => M 14 0 w 2) (g := fun w => M2 14 0 w 2) m0 h5 (fun w _ _ e => by
        rw [h14 w 2 (by decide) (by decide), if_neg e]
        by_cases c2 : w = u ∧ (2 : Int) = 2
        · rw [if_pos c2, z.1, c2.1]
          omega
        · rw [if_neg c2, if_neg (by omega)])
      rw [e1, h14 m 2 (by decide) (by decide), if_pos rfl]
      simp only [nv, Int.reduceEq, if_true, if_false]
      omega
    · have e1 := s5_one (f := fun w => if w = u then M 14 0 u 2 - n else M 14 0 w 2) (g := fun w => M2 14 0 w 2) m0 h5 (fun w _ _ e => by
        rw [h14 w 2 (by decide) (by decide), if_neg e]
        by_cases c2 : w = u
        · rw [if_pos ⟨c2, rfl⟩, if_pos c2, z.1]
        · rw [if_neg (fun y => c2 y.1), if_neg (fun y => c2 y.1), if_neg c2])
      have e2 := s5_one (f := fun w => M 14 0 w 2) (g := fun w => if w = u then M 14 0 u 2 - n else M 14 0 w 2) z.2.2.1.1 (by omega) (fun w _ _ e => by rw [if_neg e])
      rw [if_pos rfl] at e2
      rw [e1, e2, h14 m 2 (by decide) (by decide), if_pos rfl, if_neg (by omega)]
      simp only [nv, Int.reduceEq, if_true, if_false]
      omega
/-- a unit moves, or its state changes -/
theorem rY_move {a p u : Int} {M M2 : XM} {F : Int → Int} {T : Int} (h : RY a (fun _ => 1) 40 M M F T) (hp : 0 ≤ p ∧ p < M 20 0 0 0) (hu : 0 ≤ u ∧ u < M 20 0 0 3)
    (hG : ∀ (t : Nat) (j s : Int), t < 20 → ¬ t = 15 → ¬ t = 14 → M2 t 0 j s = M t 0 j s) (h15 : M2 15 0 0 2 = M 15 0 0 2) (hM : ∀ t : Nat, 20 ≤ t → ¬ t = 28 → M2 t = M t)
    (h14 : ∀ w s : Int, M2 14 0 w s = if w = u ∧ s = 1 then p else M 14 0 w s) (hx : ∀ w s : Int, 0 ≤ s → s < 12 → xU M2 w s = if w = u ∧ s = 1 then p else xU M w s) : RY a (fun _ => 1) 40 M2 M2 F T := by
  have hR := h
  obtain ⟨q1, q2, q3, q4, q5, q6, q7, q8, q9⟩ := h
  have e20 := hM 20 (by decide) (by decide)
  have sums : ∀ s : Int, ¬ s = 1 → ∀ w : Int, M2 14 0 w s = M 14 0 w s := fun s hs w => by rw [h14, if_neg (fun z => hs z.2)]
  have n5 := q1.2.2.2.2.1
  have n10 := q1.2.2.2.2.2.1.2.2.2.1
  refine rY_uop (n3 := M 20 0 0 3) hR (fun t j s a b c => ?_) h15 (fun t a b c => hM t a c) (fun s _ _ => by rw [e20]) (by rw [e20]) (by omega) (fun w w0 w5 => ?_) (s5_congr (fun w _ _ => sums 9 (by decide) w)) (s5_congr (fun w _ _ => sums 10 (by decide) w)) ?_ (s5_congr (fun w _ _ => by unfold uG; rw [sums 9 (by decide), sums 6 (by decide), sums 7 (by decide), sums 11 (by decide)])) (s5_le (fun w _ _ => by rw [show xU M2 w 4 = xU M w 4 by rw [hx w 4 (by decide) (by decide), if_neg (by omega)]]; exact Int.le_refl _)) ?_
  · rw [hG t j s a b c]
    by_cases e : t = 1 ∧ j = 0 ∧ s = 10
    · rw [if_pos e, e.1, e.2.1, e.2.2, n10]
    · rw [if_neg e]
  · rw [e20]
    refine ⟨fun z => ?_, fun z => rU0_c (G := M) (fun s s0 s1 => by rw [h14, if_neg (by omega)]) ((q5 w w0 w5).2 z)⟩
    have p1 := (q5 w w0 w5).1 z
    by_cases e : w = u
    · subst e
      obtain ⟨a1, b, cc, dd, e', f⟩ := p1
      have xx : ∀ s : Int, 0 ≤ s → s < 12 → ¬ s = 1 → xU M2 w s = xU M w s := fun s s0 s1 n1 => by rw [hx w s s0 s1, if_neg (fun z => n1 z.2)]
      unfold rU1
      rw [sums 0 (by decide), sums 9 (by decide), sums 10 (by decide), sums 11 (by decide), sums 2 (by decide), sums 3 (by decide), sums 6 (by decide), sums 7 (by decide), sums 8 (by decide), xx 0 (by decide) (by decide) (by decide), hx w 1 (by decide) (by decide), if_pos ⟨rfl, rfl⟩, xx 2 (by decide) (by decide) (by decide), xx 3 (by decide) (by decide) (by decide), xx 4 (by decide) (by decide) (by decide), xx 5 (by decide) (by decide) (by decide), xx 6 (by decide) (by decide) (by decide), xx 7 (by decide) (by decide) (by decide), xx 8 (by decide) (by decide) (by decide), xx 9 (by decide) (by decide) (by decide), xx 10 (by decide) (by decide) (by decide), xx 11 (by decide) (by decide) (by decide), e20]
      refine ⟨a1, b, cc, dd, fun y => ?_, f⟩
      obtain ⟨f1, f2, f3⟩ := e' y
      refine ⟨fun s s0 s1 => ?_, hp, f3⟩
      rw [h14, hx w s (by omega) (by omega)]
      by_cases s1' : s = 1
      · rw [if_pos ⟨rfl, s1'⟩, if_pos ⟨rfl, s1'⟩]
      · rw [if_neg (fun z => s1' z.2), if_neg (fun z => s1' z.2)]
        exact f1 s s0 s1
    · exact rU1_c (G := M) (M := M) (fun s s0 s1 => by rw [h14, if_neg (fun z => e z.1)]) (by rw [e20]) (by rw [e20]) (fun s s0 s1 => by rw [hx w s s0 s1, if_neg (fun z => e z.1)]) p1
  · rw [e20, q6.2.2.2.2.1]
    exact (s5_congr (fun w _ _ => sums 11 (by decide) w)).symm
  · rw [s5_congr (f := fun w => M2 14 0 w 2) (g := fun w => M 14 0 w 2) (fun w _ _ => sums 2 (by decide) w)]
    exact q9.2.2.2.2.2
theorem rY_wrap {a u : Int} {M M2 : XM} {F : Int → Int} {T : Int} (h : RY a (fun _ => 1) 40 M M F T) (hu : 0 ≤ u ∧ u < M 20 0 0 3) (hz : xU M u 0 = 0)
    (hG : ∀ (t : Nat) (j s : Int), t < 20 → ¬ t = 15 → ¬ t = 14 → M2 t 0 j s = M t 0 j s) (h15 : M2 15 0 0 2 = M 15 0 0 2) (hM : ∀ t : Nat, 20 ≤ t → ¬ t = 20 → ¬ t = 28 → M2 t = M t) (h20 : ∀ s : Int, M2 20 0 0 s = if s = 17 then M 20 0 0 17 + (xU M u 6 + xU M u 7) else M 20 0 0 s)
    (h14 : ∀ w s : Int, M2 14 0 w s = if w = u then (if s = 0 then 1 else if s = 11 then xU M u 6 + xU M u 7 else if s = 2 ∨ s = 3 ∨ s = 6 ∨ s = 7 then 0 else if s = 8 then -1 else M 14 0 u s) else M 14 0 w s) (hx : ∀ w s : Int, 0 ≤ s → s < 12 → xU M2 w s = if w = u ∧ s = 0 then 1 else if w = u ∧ s = 11 then xU M u 6 + xU M u 7 else xU M w s) : RY a (fun _ => 1) 40 M2 M2 F T := by
  have hR := h
  obtain ⟨q1, q2, q3, q4, q5, q6, q7, q8, q9⟩ := h
  have n5 := q1.2.2.2.2.1
  have n10 := q1.2.2.2.2.2.1.2.2.2.1
  have hu5 : u < 5 := by omega
  have oth : ∀ s w : Int, ¬ w = u → M2 14 0 w s = M 14 0 w s := fun s w e => by rw [h14, if_neg e]
  obtain ⟨a1, b, cc, dd, e', f⟩ := (q5 u hu.1 hu5).1 hu.2
  obtain ⟨f1, f2, f3, f4, f5, f6, f7, f8, f9⟩ := e' hz
  have w6 := f1 6 (by decide) (by decide)
  have w7 := f1 7 (by decide) (by decide)
  have w2 := f1 2 (by decide) (by decide)
  have gu : ∀ s : Int, M2 14 0 u s = if s = 0 then 1 else if s = 11 then xU M u 6 + xU M u 7 else if s = 2 ∨ s = 3 ∨ s = 6 ∨ s = 7 then 0 else if s = 8 then -1 else M 14 0 u s := fun s => by rw [h14, if_pos rfl]
  have e3 : M2 20 0 0 3 = M 20 0 0 3 := by rw [h20, if_neg (by decide)]
  have e4 : M2 20 0 0 4 = M 20 0 0 4 := by rw [h20, if_neg (by decide)]
  have e0 : M2 20 0 0 0 = M 20 0 0 0 := by rw [h20, if_neg (by decide)]
  refine rY_uop (n3 := M 20 0 0 3) hR (fun t j s a b c => ?_) h15 hM (fun s _ s17 => by rw [h20, if_neg s17]) e3 (by omega) (fun w w0 w5 => ?_) ?_ ?_ ?_ ?_ (s5_le (fun w _ _ => by rw [show xU M2 w 4 = xU M w 4 by rw [hx w 4 (by decide) (by decide), if_neg (by omega), if_neg (by omega)]]; exact Int.le_refl _)) ?_
  · rw [hG t j s a b c]
    by_cases e : t = 1 ∧ j = 0 ∧ s = 10
    · rw [if_pos e, e.1, e.2.1, e.2.2, n10]
    · rw [if_neg e]
  · rw [e3]
    by_cases e : w = u
    · subst e
      refine ⟨fun _ => ?_, fun z => by omega⟩
      have y0 : xU M2 w 0 = 1 := by rw [hx w 0 (by decide) (by decide), if_pos ⟨rfl, rfl⟩]
      have y11 : xU M2 w 11 = xU M w 6 + xU M w 7 := by rw [hx w 11 (by decide) (by decide), if_neg (by omega), if_pos ⟨rfl, rfl⟩]
      have xx : ∀ s : Int, 0 ≤ s → s < 12 → ¬ s = 0 → ¬ s = 11 → xU M2 w s = xU M w s := fun s s0 s1 n0 n11 => by rw [hx w s s0 s1, if_neg (fun z => n0 z.2), if_neg (fun z => n11 z.2)]
      unfold rU1
      rw [y0, y11, xx 4 (by decide) (by decide) (by decide) (by decide), xx 9 (by decide) (by decide) (by decide) (by decide), xx 10 (by decide) (by decide) (by decide) (by decide), e4, gu 0, gu 9, gu 10, gu 11, gu 2, gu 3, gu 6, gu 7, gu 8]
      refine ⟨⟨by rfl, a1.2.1, a1.2.2.1, by rfl⟩, by decide, cc, ⟨dd.1, dd.2.1, by omega⟩, fun z => absurd z (by decide), fun _ => ⟨by rfl, by rfl, by rfl, by rfl, by rfl⟩⟩
    · refine ⟨fun z => rU1_c (G := M) (M := M) (fun s s0 s1 => oth s w e) e0 e4 (fun s s0 s1 => by rw [hx w s s0 s1, if_neg (fun z => e z.1), if_neg (fun z => e z.1)]) ((q5 w w0 w5).1 z), fun z => rU0_c (G := M) (fun s s0 s1 => oth s w e) ((q5 w w0 w5).2 z)⟩
  · exact s5_congr (fun w _ _ => by
      by_cases e : w = u
      · rw [e, gu 9]; rfl
      · exact oth 9 w e)
  · exact s5_congr (fun w _ _ => by
      by_cases e : w = u
      · rw [e, gu 10]; rfl
      · exact oth 10 w e)
  · have := s5_one (f := fun w => M 14 0 w 11) (g := fun w => M2 14 0 w 11) hu.1 hu5 (fun w _ _ e => oth 11 w e)
    have g11 : M2 14 0 u 11 = xU M u 6 + xU M u 7 := by rw [gu 11]; rfl
    rw [h20, if_pos rfl, this, g11, q6.2.2.2.2.1]
    have := a1.2.2.2
    omega
  · have := s5_one (f := uG M 0) (g := uG M2 0) hu.1 hu5 (fun w _ _ e => by unfold uG; rw [oth 9 w e, oth 6 w e, oth 7 w e, oth 11 w e])
    rw [this]
    have g11 : M2 14 0 u 11 = xU M u 6 + xU M u 7 := by rw [gu 11]; rfl
    have g9 : M2 14 0 u 9 = M 14 0 u 9 := by rw [gu 9]; rfl
    have g6 : M2 14 0 u 6 = 0 := by rw [gu 6]; rfl
    have g7 : M2 14 0 u 7 = 0 := by rw [gu 7]; rfl
    unfold uG
    rw [g11, g9, g6, g7]
    have := a1.2.2.2
    omega
  · have := s5_one (f := fun w => M 14 0 w 2) (g := fun w => M2 14 0 w 2) hu.1 hu5 (fun w _ _ e => oth 2 w e)
    have g2 : M2 14 0 u 2 = 0 := by rw [gu 2]; rfl
    have b6 := q9.2.2.2.2.2
    rw [this, g2]
    omega
theorem rY_join {a u v : Int} {M M2 : XM} {F : Int → Int} {T : Int} (h : RY a (fun _ => 1) 40 M M F T) (hu : 0 ≤ u ∧ u < M 20 0 0 3) (hv : 0 ≤ v ∧ v < M 20 0 0 3) (huv : ¬ u = v) (hz : xU M u 0 = 0) (hzv : xU M v 0 = 0) (h300 : xU M u 2 + xU M v 2 ≤ 300)
    (hG : ∀ (t : Nat) (j s : Int), t < 20 → ¬ t = 15 → ¬ t = 14 → M2 t 0 j s = M t 0 j s) (h15 : M2 15 0 0 2 = M 15 0 0 2) (hM : ∀ t : Nat, 20 ≤ t → ¬ t = 28 → M2 t = M t)
    (h14 : ∀ w s : Int, M2 14 0 w s = if w = u then (if s = 0 then 2 else if s = 2 ∨ s = 3 ∨ s = 6 ∨ s = 7 then 0 else if s = 8 then -1 else M 14 0 u s) else if w = v then (if s = 2 ∨ s = 3 ∨ s = 6 ∨ s = 7 then M 14 0 v s + M 14 0 u s else if s = 8 then uSince (M 14 0 v 8) (M 14 0 u 8) else M 14 0 v s) else M 14 0 w s)
    (hx : ∀ w s : Int, 0 ≤ s → s < 12 → xU M2 w s = if w = u ∧ s = 0 then 2 else if w = v ∧ (s = 2 ∨ s = 3 ∨ s = 6 ∨ s = 7) then xU M v s + xU M u s else if w = v ∧ s = 8 then uSince (xU M v 8) (xU M u 8) else xU M w s) : RY a (fun _ => 1) 40 M2 M2 F T := by
  have hR := h
  obtain ⟨q1, q2, q3, q4, q5, q6, q7, q8, q9⟩ := h
  have n5 := q1.2.2.2.2.1
  have n10 := q1.2.2.2.2.2.1.2.2.2.1
  have hu5 : u < 5 := by omega
  have hv5 : v < 5 := by omega
  have e20 := hM 20 (by decide) (by decide)
  have oth : ∀ s w : Int, ¬ w = u → ¬ w = v → M2 14 0 w s = M 14 0 w s := fun s w e e2 => by rw [h14, if_neg e, if_neg e2]
  have pu := (q5 u hu.1 hu5).1 hu.2
  have pv' := (q5 v hv.1 hv5).1 hv.2
  obtain ⟨a1, b, cc, dd, e', f⟩ := pu
  obtain ⟨f1, f2, f3, f4, f5, f6, f7, f8, f9⟩ := e' hz
  obtain ⟨k1, k2, k3, k4, k5, k6⟩ := pv'
  obtain ⟨l1, l2, l3, l4, l5, l6, l7, l8, l9⟩ := k5 hzv
  have gu : ∀ s : Int, M2 14 0 u s = if s = 0 then 2 else if s = 2 ∨ s = 3 ∨ s = 6 ∨ s = 7 then 0 else if s = 8 then -1 else M 14 0 u s := fun s => by rw [h14, if_pos rfl]
  have gv : ∀ s : Int, M2 14 0 v s = if s = 2 ∨ s = 3 ∨ s = 6 ∨ s = 7 then M 14 0 v s + M 14 0 u s else if s = 8 then uSince (M 14 0 v 8) (M 14 0 u 8) else M 14 0 v s := fun s => by rw [h14, if_neg (fun z => huv z.symm), if_pos rfl]
  have su : ∀ s : Int, s = 9 ∨ s = 10 ∨ s = 11 → ∀ w : Int, M2 14 0 w s = M 14 0 w s := fun s hs w => by
    by_cases e : w = u
    · rw [e, gu, if_neg (by omega), if_neg (by omega), if_neg (by omega)]
    · by_cases e2 : w = v
      · rw [e2, gv, if_neg (by omega), if_neg (by omega)]
      · exact oth s w e e2
  have two : ∀ g1 g2 : Int → Int, (∀ w : Int, ¬ w = u → ¬ w = v → g2 w = g1 w) → g2 u + g2 v = g1 u + g1 v → s5 g2 = s5 g1 := fun g1 g2 hg hs => by
    have e1 := s5_one (f := fun w => if w = u then g2 u else g1 w) (g := g2) hv.1 hv5 (fun w _ _ e => by
      by_cases e2 : w = u
      · rw [if_pos e2, e2]
      · rw [if_neg e2]
        exact hg w e2 e)
    have e2 := s5_one (f := g1) (g := fun w => if w = u then g2 u else g1 w) hu.1 hu5 (fun w _ _ e => by rw [if_neg e])
    rw [if_pos rfl] at e2
    rw [e1, e2, if_neg (fun z => huv z.symm)]
    omega
  have g6 : M2 14 0 u 6 = 0 := by rw [gu 6]; rfl
  have g7 : M2 14 0 u 7 = 0 := by rw [gu 7]; rfl
  have g2 : M2 14 0 u 2 = 0 := by rw [gu 2]; rfl
  have v6 : M2 14 0 v 6 = M 14 0 v 6 + M 14 0 u 6 := by rw [gv 6]; rfl
  have v7 : M2 14 0 v 7 = M 14 0 v 7 + M 14 0 u 7 := by rw [gv 7]; rfl
  have v2 : M2 14 0 v 2 = M 14 0 v 2 + M 14 0 u 2 := by rw [gv 2]; rfl
  refine rY_uop (n3 := M 20 0 0 3) hR (fun t j s a b c => ?_) h15 (fun t a b c => hM t a c) (fun s _ _ => by rw [e20]) (by rw [e20]) (by omega) (fun w w0 w5 => ?_) (s5_congr (fun w _ _ => su 9 (by decide) w)) (s5_congr (fun w _ _ => su 10 (by decide) w)) ?_ ?_ (s5_le (fun w _ _ => by rw [show xU M2 w 4 = xU M w 4 by rw [hx w 4 (by decide) (by decide), if_neg (by omega), if_neg (by omega), if_neg (by omega)]]; exact Int.le_refl _)) ?_
  · rw [hG t j s a b c]
    by_cases e : t = 1 ∧ j = 0 ∧ s = 10
    · rw [if_pos e, e.1, e.2.1, e.2.2, n10]
    · rw [if_neg e]
  · rw [e20]
    by_cases e : w = u
    · subst e
      refine ⟨fun _ => ?_, fun z => by omega⟩
      have y0 : xU M2 w 0 = 2 := by rw [hx w 0 (by decide) (by decide), if_pos ⟨rfl, rfl⟩]
      have xx : ∀ s : Int, 0 ≤ s → s < 12 → ¬ s = 0 → xU M2 w s = xU M w s := fun s s0 s1 n0 => by rw [hx w s s0 s1, if_neg (fun z => n0 z.2), if_neg (fun z => huv z.1), if_neg (fun z => huv z.1)]
      unfold rU1
      rw [y0, xx 11 (by decide) (by decide) (by decide), xx 4 (by decide) (by decide) (by decide), xx 9 (by decide) (by decide) (by decide), xx 10 (by decide) (by decide) (by decide), e20, gu 0, su 9 (by decide), su 10 (by decide), su 11 (by decide), gu 2, gu 3, gu 6, gu 7, gu 8]
      exact ⟨⟨by rfl, a1.2⟩, by decide, cc, dd, fun z => absurd z (by decide), fun _ => ⟨by rfl, by rfl, by rfl, by rfl, by rfl⟩⟩
    · by_cases e2 : w = v
      · subst e2
        refine ⟨fun _ => ?_, fun z => by omega⟩
        have xx : ∀ s : Int, 0 ≤ s → s < 12 → xU M2 w s = if s = 2 ∨ s = 3 ∨ s = 6 ∨ s = 7 then xU M w s + xU M u s else if s = 8 then uSince (xU M w 8) (xU M u 8) else xU M w s := fun s s0 s1 => by
          rw [hx w s s0 s1, if_neg (fun z => e z.1)]
          simp only [true_and]
        have y8 : xU M2 w 8 = uSince (xU M w 8) (xU M u 8) := by rw [xx 8 (by decide) (by decide)]; rfl
        have y : ∀ s : Int, 0 ≤ s → s < 12 → ¬ (s = 2 ∨ s = 3 ∨ s = 6 ∨ s = 7) → ¬ s = 8 → xU M2 w s = xU M w s := fun s s0 s1 n n8 => by rw [xx s s0 s1, if_neg n, if_neg n8]
        have y2 : xU M2 w 2 = xU M w 2 + xU M u 2 := by rw [xx 2 (by decide) (by decide)]; rfl
        have y3 : xU M2 w 3 = xU M w 3 + xU M u 3 := by rw [xx 3 (by decide) (by decide)]; rfl
        have y6 : xU M2 w 6 = xU M w 6 + xU M u 6 := by rw [xx 6 (by decide) (by decide)]; rfl
        have y7 : xU M2 w 7 = xU M w 7 + xU M u 7 := by rw [xx 7 (by decide) (by decide)]; rfl
        have gz : M2 14 0 w 0 = M 14 0 w 0 := by rw [gv 0]; rfl
        unfold rU1
        rw [y 0 (by decide) (by decide) (by decide) (by decide), y 1 (by decide) (by decide) (by decide) (by decide), y2, y3, y 4 (by decide) (by decide) (by decide) (by decide), y 5 (by decide) (by decide) (by decide) (by decide), y6, y7, y8, y 9 (by decide) (by decide) (by decide) (by decide), y 10 (by decide) (by decide) (by decide) (by decide), y 11 (by decide) (by decide) (by decide) (by decide), e20, gz, su 9 (by decide), su 10 (by decide), su 11 (by decide)]
        refine ⟨k1, k2, k3, k4, fun _ => ⟨fun s s0 s1 => ?_, l2, by omega, l4, l5, by omega, ?_, ?_, l9⟩, fun z => absurd hzv z⟩
        · rw [gv, xx s (by omega) (by omega)]
          split
          · rw [l1 s s0 s1, f1 s s0 s1]
          · split
            · rw [l1 8 (by decide) (by decide), f1 8 (by decide) (by decide)]
            · exact l1 s s0 s1
        · unfold uSince
          split
          · omega
          · split <;> omega
        · unfold uSince
          split
          · omega
          · split <;> omega
      · refine ⟨fun z => rU1_c (G := M) (M := M) (fun s s0 s1 => oth s w e e2) (by rw [e20]) (by rw [e20]) (fun s s0 s1 => by rw [hx w s s0 s1, if_neg (fun z => e z.1), if_neg (fun z => e2 z.1), if_neg (fun z => e2 z.1)]) ((q5 w w0 w5).1 z), fun z => rU0_c (G := M) (fun s s0 s1 => oth s w e e2) ((q5 w w0 w5).2 z)⟩
  · rw [e20, q6.2.2.2.2.1]
    exact (s5_congr (fun w _ _ => su 11 (by decide) w)).symm
  · refine two (uG M 0) (uG M2 0) (fun w e e2 => by unfold uG; rw [oth 9 w e e2, oth 6 w e e2, oth 7 w e e2, oth 11 w e e2]) ?_
    unfold uG
    rw [su 9 (by decide), su 9 (by decide), su 11 (by decide), su 11 (by decide), g6, g7, v6, v7]
    omega
  · rw [two (fun w => M 14 0 w 2) (fun w => M2 14 0 w 2) (fun w e e2 => oth 2 w e e2) (by rw [g2, v2]; omega)]
    exact q9.2.2.2.2.2
end XUn

