section XN3
/-! a minute: units are called -/
theorem rU_p {d : Int → Int} {G M : XM} (h : rU d G M) {u : Int} (h0 : 0 ≤ u) (h1 : u < 5) : 0 ≤ G 14 0 u 2 ∧ 0 ≤ G 14 0 u 6 ∧ 0 ≤ G 14 0 u 7 ∧ 0 ≤ G 14 0 u 9 ∧ 0 ≤ G 14 0 u 10 ∧ 0 ≤ G 14 0 u 11 := by
  obtain ⟨q1, q2⟩ := h u h0 h1
  by_cases c : u < M 20 0 0 3
  · obtain ⟨⟨a0, a9, a10, a11⟩, b, c4, ⟨d9, d10, d11⟩, e, f⟩ := q1 c
    by_cases z : xU M u 0 = 0
    · obtain ⟨e1, e2, e3, e4, e5, e6, -⟩ := e z
      have w2 := e1 2 (by decide) (by decide)
      have w6 := e1 6 (by decide) (by decide)
      have w7 := e1 7 (by decide) (by decide)
      omega
    · have := f z
      omega
  · have := q2 (by omega)
    unfold rU0 at this
    omega
theorem rY_uG {a w : Int} {d : Int → Int} {G M : XM} {F : Int → Int} {T : Int} (h : RY a d w G M F T) {u : Int} (h0 : 0 ≤ u) (h1 : u < 5) : 0 ≤ uG G 0 u ∧ uG G 0 u ≤ M 20 0 0 16 := by
  have hp : ∀ v : Int, 0 ≤ v → v < 5 → 0 ≤ uG G 0 v := fun v a b => by
    have := rU_p h.2.2.2.2.1 a b
    unfold uG
    omega
  have := s5_at hp h0 h1
  have := h.2.2.2.2.2.1.2.2.2.2.2.2
  exact ⟨hp u h0 h1, by omega⟩
theorem rY_16 {a w : Int} {d : Int → Int} {G M : XM} {F : Int → Int} {T : Int} (h : RY a d w G M F T) : M 20 0 0 16 ≤ 25 * (M 20 0 0 4 + 50) := by
  have b5 := h.2.2.2.2.2.2.2.2.2.2.2.2.1
  have h4 := h.1.2.2.2.2.2.2.1
  have := s5_le (f := fun u => if u < M 20 0 0 3 then xU M u 4 else 0) (g := fun _ => M 20 0 0 4 + 50) (fun u a b => by
    by_cases c : u < M 20 0 0 3
    · rw [if_pos c]
      exact ((h.2.2.2.2.1 u a b).1 c).2.2.1.2
    · rw [if_neg c]
      omega)
  have e5 : s5 (fun _ => M 20 0 0 4 + 50) = (M 20 0 0 4 + 50) + (M 20 0 0 4 + 50) + (M 20 0 0 4 + 50) + (M 20 0 0 4 + 50) + (M 20 0 0 4 + 50) := rfl
  rw [e5] at this
  omega
theorem rY_p2 {a w : Int} {d : Int → Int} {G M : XM} {F : Int → Int} {T : Int} (h : RY a d w G M F T) {u : Int} (h0 : 0 ≤ u) (h1 : u < 5) : G 14 0 u 2 ≤ 150 := by
  have b6 := h.2.2.2.2.2.2.2.2.2.2.2.2.2
  have c5' := h.1.2.2.2.2.1
  have := s5_at (f := fun u => G 14 0 u 2) (fun v a b => (rU_p h.2.2.2.2.1 a b).1) h0 h1
  omega
def dU (j : Int) : Int → Int := fun v => if v < j then 1 else 0
/-- unit u is called -/
def calM (M : XM) (u : Int) (M' : XM) : Prop := (∀ t : Nat, ¬ t = 20 → ¬ t = 28 → M' t = M t) ∧ (∀ s : Int, ¬ s = 16 → M' 20 0 0 s = M 20 0 0 s) ∧ M' 20 0 0 16 = M 20 0 0 16 + xU M u 2 ∧
  ∀ n : Int, M' 28 0 0 n = if n = 12 * u + 4 then xU M u 4 + xU M u 5 else if n = 12 * u + 7 then xU M u 7 + (xU M u 2 - xU M u 3) else if n = 12 * u + 6 then xU M u 6 + xU M u 3 else if n = 12 * u + 8 ∧ xU M u 6 + xU M u 7 = 0 then M 20 0 0 4 else M 28 0 0 n
theorem rY_cal {a w : Int} {G M M' : XM} {F : Int → Int} {T u : Int} (h : RY a (dU u) w G M F T) (h0 : 0 ≤ u) (h1 : u < M 20 0 0 3) (hz : xU M u 0 = 0) (ht : xU M u 4 = M 20 0 0 4) (hM : calM M u M') : RY a (dU (u + 1)) w (cal 0 u G) M' F T := by
  have hu5 : u < 5 := by have := h.1.2.2.2.2.1; omega
  have hG2 := rY_p2 h h0 hu5
  obtain ⟨q1, q2, q3, q4, q5, q6, q7, q8, q9⟩ := h
  obtain ⟨c1, c2, c3, c4, c5', c6, c7, c8⟩ := q1
  obtain ⟨m, m20, m16, m28⟩ := hM
  obtain ⟨⟨a0, a9, a10, a11⟩, b, ⟨c4a, c4b⟩, ⟨d9, d10, d11⟩, e, f⟩ := (q5 u h0 hu5).1 h1
  obtain ⟨e1, e2, e3, e4, e5, e6, e7, e8, e9⟩ := e hz
  have w1 := e1 1 (by decide) (by decide)
  have w2 := e1 2 (by decide) (by decide)
  have w3 := e1 3 (by decide) (by decide)
  have w4 := e1 4 (by decide) (by decide)
  have w5 := e1 5 (by decide) (by decide)
  have w6 := e1 6 (by decide) (by decide)
  have w7 := e1 7 (by decide) (by decide)
  have w8 := e1 8 (by decide) (by decide)
  have hcal : cal 0 u G = uCall (xup G 1 0 0 1 (G 1 0 0 1 + G 14 0 u 2)) 0 u (G 1 0 0 0) := by
    unfold cal
    rw [if_pos ⟨by rw [a0]; exact hz, by rw [w4, ht]; exact c6.2.2.2.2.symm⟩]
  have g : ∀ t : Nat, ¬ t = 14 → ¬ t = 1 → cal 0 u G t = G t := fun t x y => cal_tag x y
  have g1 : ∀ s : Int, ¬ s = 1 → cal 0 u G 1 0 0 s = G 1 0 0 s := fun s x => cal_1 x
  have g11 : cal 0 u G 1 0 0 1 = G 1 0 0 1 + G 14 0 u 2 := by
    rw [hcal]
    unfold uCall
    simp only [xup_app, Nat.reduceEqDiff, false_and, if_false, and_self, if_true]
  have gn : ∀ v s : Int, ¬ v = u → cal 0 u G 14 0 v s = G 14 0 v s := fun v s z => by
    rw [hcal]
    unfold uCall
    simp only [xup_app, Nat.reduceEqDiff, false_and, if_false, z, and_false]
  have gu : ∀ s : Int, cal 0 u G 14 0 u s = if s = 4 then xU M u 4 + xU M u 5 else if s = 7 then xU M u 7 + (xU M u 2 - xU M u 3) else if s = 6 then xU M u 6 + xU M u 3 else if s = 8 ∧ xU M u 6 + xU M u 7 = 0 then M 20 0 0 4 else G 14 0 u s := fun s => by
    rw [hcal]
    unfold uCall
    simp only [xup_app, Nat.reduceEqDiff, false_and, if_false, true_and, Int.reduceEq, and_false, w2, w3, w4, w5, w6, w7, w8, c6.2.2.2.2]
    by_cases s4 : s = 4
    · simp only [s4, if_true]
    · by_cases s7 : s = 7
      · simp only [s7, if_true, Int.reduceEq, if_false]
      · by_cases s6 : s = 6
        · simp only [s6, if_true, Int.reduceEq, if_false]
        · by_cases s8 : s = 8
          · simp only [s8, if_true, Int.reduceEq, if_false, true_and]
            by_cases z8 : xU M u 8 = -1
            · rw [if_pos z8, if_pos (e7.mp z8)]
            · rw [if_neg z8, if_neg (fun z => z8 (e7.mpr z))]
              exact w8.symm
          · simp only [s4, s7, s6, s8, if_false, false_and]
  have xn : ∀ v s : Int, 0 ≤ s → s < 12 → ¬ v = u → xU M' v s = xU M v s := fun v s s0 s1 z => by
    unfold xU
    rw [m28, if_neg (by omega), if_neg (by omega), if_neg (by omega), if_neg (by omega)]
  have xu : ∀ s : Int, xU M' u s = if s = 4 then xU M u 4 + xU M u 5 else if s = 7 then xU M u 7 + (xU M u 2 - xU M u 3) else if s = 6 then xU M u 6 + xU M u 3 else if s = 8 ∧ xU M u 6 + xU M u 7 = 0 then M 20 0 0 4 else xU M u s := fun s => by
    rw [show xU M' u s = M' 28 0 0 (12 * u + s) from rfl, m28]
    simp only [show (12 * u + s = 12 * u + 4) = (s = 4) from by simp only [eq_iff_iff]; omega, show (12 * u + s = 12 * u + 7) = (s = 7) from by simp only [eq_iff_iff]; omega, show (12 * u + s = 12 * u + 6) = (s = 6) from by simp only [eq_iff_iff]; omega, show (12 * u + s = 12 * u + 8) = (s = 8) from by simp only [eq_iff_iff]; omega]
    rfl
  have k4 : M' 20 0 0 4 = M 20 0 0 4 := m20 4 (by decide)
  refine ⟨rC_c (fun s z => g1 s (by omega)) (g 2 (by decide) (by decide)) (by rw [g 15 (by decide) (by decide)]) (fun s z => m20 s (by omega)) ⟨c1, c2, c3, c4, c5', c6, c7, c8⟩, rP_c (g 3 (by decide) (by decide)) (g 4 (by decide) (by decide)) (m20 0 (by decide)) (m 21 (by decide) (by decide)) q2, fun k b c => rK1_c (fun s _ => by rw [g 8 (by decide) (by decide)]) (fun x => by rw [g 9 (by decide) (by decide)]) (m20 0 (by decide)) (by rw [m 22 (by decide) (by decide)]) (fun x _ _ => by rw [m 23 (by decide) (by decide)]) (by rw [m 24 (by decide) (by decide)]) (by rw [m 25 (by decide) (by decide)]) (q3 k b c), fun l b c => rL1_c (fun s _ => by rw [g 13 (by decide) (by decide)]) (m20 0 (by decide)) (by rw [m 26 (by decide) (by decide)]) (by rw [m 27 (by decide) (by decide)]) (q4 l b c), fun v v0 v5 => ?_, ?_, BM_c (m20 12 (by decide)) (m 29 (by decide) (by decide)) q7, ?_, ?_⟩
  · rw [m20 3 (by decide)]
    obtain ⟨p1, p2⟩ := q5 v v0 v5
    by_cases ev : v = u
    · subst ev
      refine ⟨fun _ => ?_, fun z => by omega⟩
      unfold rU1
      have dv : dU (v + 1) v = 1 := by unfold dU; rw [if_pos (by omega)]
      rw [dv, k4, m20 0 (by decide)]
      have y0 : xU M' v 0 = xU M v 0 := by rw [xu 0]; rfl
      have y1 : xU M' v 1 = xU M v 1 := by rw [xu 1]; rfl
      have y2 : xU M' v 2 = xU M v 2 := by rw [xu 2]; rfl
      have y3 : xU M' v 3 = xU M v 3 := by rw [xu 3]; rfl
      have y4 : xU M' v 4 = xU M v 4 + xU M v 5 := by rw [xu 4, if_pos rfl]
      have y5 : xU M' v 5 = xU M v 5 := by rw [xu 5]; rfl
      have y6 : xU M' v 6 = xU M v 6 + xU M v 3 := by rw [xu 6, if_neg (by decide), if_neg (by decide), if_pos rfl]
      have y7 : xU M' v 7 = xU M v 7 + (xU M v 2 - xU M v 3) := by rw [xu 7, if_neg (by decide), if_pos rfl]
      have y8 : xU M' v 8 = if xU M v 6 + xU M v 7 = 0 then M 20 0 0 4 else xU M v 8 := by
        rw [xu 8, if_neg (by decide), if_neg (by decide), if_neg (by decide)]
        simp only [true_and]
      have y9 : xU M' v 9 = xU M v 9 := by rw [xu 9]; rfl
      have y10 : xU M' v 10 = xU M v 10 := by rw [xu 10]; rfl
      have y11 : xU M' v 11 = xU M v 11 := by rw [xu 11]; rfl
      rw [gu 0, gu 9, gu 10, gu 11, y0, y9, y10, y11, y1, y2, y3, y4, y5, y6, y7]
      refine ⟨⟨a0, a9, a10, a11⟩, b, by omega, ⟨d9, d10, d11⟩, fun _ => ⟨fun s s0 s1 => ?_, e2, e3, by omega, e5, by omega, ?_, ?_, e9⟩, fun z => absurd hz z⟩
      · rw [gu, xu]
        split
        · rfl
        · split
          · rfl
          · split
            · rfl
            · split
              · rfl
              · exact e1 s s0 s1
      · rw [y8]
        by_cases z : xU M v 6 + xU M v 7 = 0
        · rw [if_pos z]
          omega
        · rw [if_neg z]
          have : ¬ xU M v 8 = -1 := fun z8 => z (e7.mp z8)
          omega
      · rw [y8]
        by_cases z : xU M v 6 + xU M v 7 = 0
        · rw [if_pos z]
          omega
        · rw [if_neg z]
          omega
    · refine ⟨fun z => ?_, fun z => rU0_c (fun s _ _ => gn v s ev) (p2 z)⟩
      have dv : dU (u + 1) v = dU u v := by
        unfold dU
        by_cases c : v < u
        · rw [if_pos c, if_pos (by omega)]
        · rw [if_neg c, if_neg (by omega)]
      rw [dv]
      exact rU1_c (fun s _ _ => gn v s ev) (m20 0 (by decide)) k4 (fun s s0 s1 => xn v s s0 s1 ev) (p1 z)
  · obtain ⟨t1, t2, t3, t4, t5, t6, t7⟩ := q6
    unfold rT
    rw [m20 13 (by decide), m20 14 (by decide), m20 15 (by decide), m16, m20 17 (by decide), m20 18 (by decide), g 8 (by decide) (by decide), g 13 (by decide) (by decide), g11]
    have f9 : ∀ s : Int, s = 9 ∨ s = 10 ∨ s = 11 → ∀ v : Int, cal 0 u G 14 0 v s = G 14 0 v s := fun s hs v => by
      by_cases ev : v = u
      · rw [ev, gu, if_neg (by omega), if_neg (by omega), if_neg (by omega), if_neg (by omega)]
      · exact gn v s ev
    refine ⟨t1, ?_, t3, by omega, ?_, ?_, ?_⟩
    · rw [t2]
      exact s5_congr (fun v _ _ => (f9 9 (by decide) v).symm)
    · rw [t5]
      exact s5_congr (fun v _ _ => (f9 11 (by decide) v).symm)
    · rw [t6]
      exact s5_congr (fun v _ _ => (f9 10 (by decide) v).symm)
    · have := s5_one (f := uG G 0) (g := uG (cal 0 u G) 0) h0 hu5 (fun v _ _ ev => by
        unfold uG
        rw [gn v 9 ev, gn v 6 ev, gn v 7 ev, gn v 11 ev])
      rw [this, ← t7]
      unfold uG
      rw [f9 9 (by decide), f9 11 (by decide), gu 6, gu 7, if_neg (by decide), if_neg (by decide), if_pos rfl, if_neg (by decide), if_pos rfl]
      omega
  · rw [k4]
    exact rS_c (fun j x => by rw [g 11 (by decide) (by decide)]) q8
  · obtain ⟨b1, b2, b3, b4, b5, b6⟩ := q9
    unfold rB
    rw [m20 13 (by decide), m20 15 (by decide), m16, m20 3 (by decide), m20 12 (by decide), m 25 (by decide) (by decide)]
    refine ⟨b1, b2, b3, b4, ?_, ?_⟩
    · have := s5_one (f := fun v => if v < M 20 0 0 3 then xU M v 4 else 0) (g := fun v => if v < M 20 0 0 3 then xU M' v 4 else 0) h0 hu5 (fun v _ _ ev => by rw [xn v 4 (by decide) (by decide) ev])
      rw [this, if_pos h1, if_pos h1, xu 4, if_pos rfl]
      omega
    · rw [s5_congr (f := fun v => cal 0 u G 14 0 v 2) (g := fun v => G 14 0 v 2) (fun v _ _ => by
        by_cases ev : v = u
        · rw [ev, gu, if_neg (by omega), if_neg (by omega), if_neg (by omega), if_neg (by omega)]
        · exact gn v 2 ev)]
      exact b6
theorem rY_dU {a w : Int} {G M : XM} {F : Int → Int} {T u : Int} (h : RY a (dU u) w G M F T) (hu : u < M 20 0 0 3) (h0 : 0 ≤ u) (hz : xU M u 0 = 0 → ¬ xU M u 4 = M 20 0 0 4) : RY a (dU (u + 1)) w G M F T := by
  obtain ⟨q1, q2, q3, q4, q5, q6, q7, q8, q9⟩ := h
  refine ⟨q1, q2, q3, q4, fun v v0 v5 => ⟨fun z => ?_, (q5 v v0 v5).2⟩, q6, q7, q8, q9⟩
  have p := (q5 v v0 v5).1 z
  by_cases ev : v = u
  · subst ev
    obtain ⟨a1, b, c, d, e, f⟩ := p
    refine ⟨a1, b, c, d, fun y => ?_, f⟩
    obtain ⟨e1, e2, e3, e4, e5⟩ := e y
    refine ⟨e1, e2, e3, ?_, e5⟩
    have := hz y
    unfold dU at e4 ⊢
    rw [if_neg (by omega)] at e4
    rw [if_pos (by omega)]
    omega
  · have dv : dU (u + 1) v = dU u v := by
      unfold dU
      by_cases c : v < u
      · rw [if_pos c, if_pos (by omega)]
      · rw [if_neg c, if_neg (by omega)]
    rw [dv]
    exact p
set_option maxRecDepth 100000 in
theorem kL_min_D1 {Post : XPo} {WW : XK} (hC : XCl (xlk (pL_minute Post)) WW) {a w : Int} {G M : XM} {F : Int → Int} {T u : Int} {x9 : Option XV} (hR : RY a (dU u) w G M F T) (h0 : 0 ≤ u) (h1 : u < M 20 0 0 3) (ht : M 20 0 0 4 ≤ 2700) (h : ∀ M' : XM, RY a (dU (u + 1)) w (cal 0 u G) M' F T → M' 20 0 0 3 = M 20 0 0 3 → M' 20 0 0 4 = M 20 0 0 4 → M' 20 0 0 18 = M 20 0 0 18 → EQ M' M → WW 202 [some (xR 20 0 0), some (xR 22 0 0), some (xR 24 0 0), some (xR 25 0 0), some (xR 26 0 0), some (xR 27 0 0), some (xR 28 0 0), some (xR 29 0 0), some (xI (12 * u + 12)), x9] [] M') : WW 202 [some (xR 20 0 0), some (xR 22 0 0), some (xR 24 0 0), some (xR 25 0 0), some (xR 26 0 0), some (xR 27 0 0), some (xR 28 0 0), some (xR 29 0 0), some (xI (12 * u)), x9] [] M := by
  have hu5 : u < 5 := by have := hR.1.2.2.2.2.1; omega
  have hn := hR.1.2.2.2.2.1
  have h4 := hR.1.2.2.2.2.2.2.1
  have hg := rY_uG hR h0 hu5
  have h16 := rY_16 hR
  have hp2 := rY_p2 hR h0 hu5
  have hpp := rU_p hR.2.2.2.2.1 h0 hu5
  have hU := (hR.2.2.2.2.1 u h0 hu5).1 h1
  obtain ⟨⟨a0, a9, a10, a11⟩, b, ⟨c4a, c4b⟩, ⟨d9, d10, d11⟩, e, f⟩ := hU
  have r3 : XInR (12 * M 20 0 0 3) := ⟨by omega, by omega⟩
  have ru : XInR (12 * u) := ⟨by omega, by omega⟩
  have hlt : ¬ 12 * M 20 0 0 3 ≤ 12 * u := by omega
  have i0 : 0 ≤ 12 * u := by omega
  have i60 : 12 * u < 60 := by omega
  have j : ∀ s : Int, 0 ≤ s → s < 12 → (0 ≤ 12 * u + s ∧ 12 * u + s < 60) := fun s s0 s1 => by omega
  have j2 := j 2 (by decide) (by decide)
  have j3 := j 3 (by decide) (by decide)
  have j4 := j 4 (by decide) (by decide)
  have j5 := j 5 (by decide) (by decide)
  have j6 := j 6 (by decide) (by decide)
  have j7 := j 7 (by decide) (by decide)
  have j8 := j 8 (by decide) (by decide)
  have z0 : M 28 0 0 (12 * u) = xU M u 0 := by unfold xU; rw [Int.add_zero]
  have zz : ∀ s : Int, M 28 0 0 (12 * u + s) = xU M u s := fun s => rfl
  have rx0 : XInR (xU M u 0) := ⟨by omega, by omega⟩
  have rx4 : XInR (xU M u 4) := ⟨by omega, by omega⟩
  have rt : XInR (M 20 0 0 4) := ⟨by omega, by omega⟩
  by_cases hz : xU M u 0 = 0
  case neg =>
    have ec : cal 0 u G = G := by unfold cal; rw [if_neg (fun z => hz (by rw [← a0]; exact z.1))]
    have hb := h M (by rw [ec]; exact rY_dU hR h1 h0 (fun z => absurd z hz)) rfl rfl rfl (EQ_refl M)
    refine yru_ok hC [346, 213] 9 _ _ _ _ ?_
    simp only [ykk_ap, Int.reduceEq, Int.reduceLT, Int.reduceLE, Int.reduceNeg, Int.reduceAdd, Int.reduceSub, Int.reduceMul, and_self, false_and, and_false, not_true_eq_false, not_false_eq_true, true_implies, false_implies, xq0, xq1, xq2, xq3, xq4, xq5, xqR, xq1R, xq3R, xt1, xt2, xt3, List.mem_cons, List.not_mem_nil, or_false, false_or, or_self, if_false, if_true, reduceIte, reduceCtorEq, xent, xen, List.length_cons, List.length_nil, List.replicate, j_c, j_cJ, j_ild, j_ald, j_lld, j_ist, j_ast, j_lst, j_inc, j_add, j_sub, j_mul, j_neg, j_div, j_rem, j_and, j_shr, j_shl1, j_or, j_ladd, j_lsub, j_lmul, j_i2l, j_lcmp, j_i2c, j_dup, j_dup2, j_pop, j_goto, j_ieq, j_ine, j_ilt, j_ige, j_igt, j_ile, j_eq, j_ne, j_lt, j_ge, j_gt, j_le, xsw, j_tsw, j_gI, j_gJ, j_gR, j_pI, j_pJ, j_gs, j_iald, j_iast, j_cald, j_cast, j_aald, j_cpy, j_min, j_max, j_abs, j_iret, j_zret, j_lret, j_dret, j_ret0, j_V0, j_V1, j_V2, j_V3, j_V4, j_V5, j_S1, j_S2, j_S3, xget, xset, xset2, xclr, xc1, xcat, Nat.reduceAdd, Nat.reduceEqDiff, Nat.reduceLT, Nat.reduceLeDiff, Nat.reduceMul, List.cons_append, List.nil_append, true_and, and_true, List.singleton_append, j_lsw2, j_Sn, j_ush, j_dupx2, List.take_succ_cons, List.take_zero, List.drop_succ_cons, List.drop_zero, List.reverse_cons, List.reverse_nil, Nat.le_refl, fL_minute_202, fL_minute_204, fL_minute_206, fL_minute_207, fL_minute_208, fL_minute_209, fL_minute_210, xvz_20, xvz_21, xvz_22, xvz_23, xvz_24, xvz_25, xvz_26, xvz_27, xvz_28, xvz_29, xrz_20, xrz_21, xrz_22, xrz_23, xrz_24, xrz_25, xrz_26, xrz_27, xrz_28, xrz_29, xdz_20, xdz_21, xdz_22, xdz_23, xdz_24, xdz_25, xdz_26, xdz_27, xdz_28, xdz_29, xlen, xcat, xc1, Nat.zero_le, Nat.reduceLeDiff, List.length_cons, List.length_nil, r3, ru, hlt, i0, i60, z0, rx0, hz]
    refine yru_ok hC [340, 221] 6 _ _ _ _ ?_
    simp only [ykk_ap, Int.reduceEq, Int.reduceLT, Int.reduceLE, Int.reduceNeg, Int.reduceAdd, Int.reduceSub, Int.reduceMul, and_self, false_and, and_false, not_true_eq_false, not_false_eq_true, true_implies, false_implies, xq0, xq1, xq2, xq3, xq4, xq5, xqR, xq1R, xq3R, xt1, xt2, xt3, List.mem_cons, List.not_mem_nil, or_false, false_or, or_self, if_false, if_true, reduceIte, reduceCtorEq, xent, xen, List.length_cons, List.length_nil, List.replicate, j_c, j_cJ, j_ild, j_ald, j_lld, j_ist, j_ast, j_lst, j_inc, j_add, j_sub, j_mul, j_neg, j_div, j_rem, j_and, j_shr, j_shl1, j_or, j_ladd, j_lsub, j_lmul, j_i2l, j_lcmp, j_i2c, j_dup, j_dup2, j_pop, j_goto, j_ieq, j_ine, j_ilt, j_ige, j_igt, j_ile, j_eq, j_ne, j_lt, j_ge, j_gt, j_le, xsw, j_tsw, j_gI, j_gJ, j_gR, j_pI, j_pJ, j_gs, j_iald, j_iast, j_cald, j_cast, j_aald, j_cpy, j_min, j_max, j_abs, j_iret, j_zret, j_lret, j_dret, j_ret0, j_V0, j_V1, j_V2, j_V3, j_V4, j_V5, j_S1, j_S2, j_S3, xget, xset, xset2, xclr, xc1, xcat, Nat.reduceAdd, Nat.reduceEqDiff, Nat.reduceLT, Nat.reduceLeDiff, Nat.reduceMul, List.cons_append, List.nil_append, true_and, and_true, List.singleton_append, j_lsw2, j_Sn, j_ush, j_dupx2, List.take_succ_cons, List.take_zero, List.drop_succ_cons, List.drop_zero, List.reverse_cons, List.reverse_nil, Nat.le_refl, fL_minute_213, fL_minute_215, fL_minute_217, fL_minute_218, xvz_20, xvz_21, xvz_22, xvz_23, xvz_24, xvz_25, xvz_26, xvz_27, xvz_28, xvz_29, xrz_20, xrz_21, xrz_22, xrz_23, xrz_24, xrz_25, xrz_26, xrz_27, xrz_28, xrz_29, xdz_20, xdz_21, xdz_22, xdz_23, xdz_24, xdz_25, xdz_26, xdz_27, xdz_28, xdz_29, xlen, xcat, xc1, Nat.zero_le, Nat.reduceLeDiff, List.length_cons, List.length_nil, r3, ru, hlt, i0, i60, z0, rx0, hz]
    refine yru_ok hC [202] 4 _ _ _ _ ?_
    simp only [ykk_ap, Int.reduceEq, Int.reduceLT, Int.reduceLE, Int.reduceNeg, Int.reduceAdd, Int.reduceSub, Int.reduceMul, and_self, false_and, and_false, not_true_eq_false, not_false_eq_true, true_implies, false_implies, xq0, xq1, xq2, xq3, xq4, xq5, xqR, xq1R, xq3R, xt1, xt2, xt3, List.mem_cons, List.not_mem_nil, or_false, false_or, or_self, if_false, if_true, reduceIte, reduceCtorEq, xent, xen, List.length_cons, List.length_nil, List.replicate, j_c, j_cJ, j_ild, j_ald, j_lld, j_ist, j_ast, j_lst, j_inc, j_add, j_sub, j_mul, j_neg, j_div, j_rem, j_and, j_shr, j_shl1, j_or, j_ladd, j_lsub, j_lmul, j_i2l, j_lcmp, j_i2c, j_dup, j_dup2, j_pop, j_goto, j_ieq, j_ine, j_ilt, j_ige, j_igt, j_ile, j_eq, j_ne, j_lt, j_ge, j_gt, j_le, xsw, j_tsw, j_gI, j_gJ, j_gR, j_pI, j_pJ, j_gs, j_iald, j_iast, j_cald, j_cast, j_aald, j_cpy, j_min, j_max, j_abs, j_iret, j_zret, j_lret, j_dret, j_ret0, j_V0, j_V1, j_V2, j_V3, j_V4, j_V5, j_S1, j_S2, j_S3, xget, xset, xset2, xclr, xc1, xcat, Nat.reduceAdd, Nat.reduceEqDiff, Nat.reduceLT, Nat.reduceLeDiff, Nat.reduceMul, List.cons_append, List.nil_append, true_and, and_true, List.singleton_append, j_lsw2, j_Sn, j_ush, j_dupx2, List.take_succ_cons, List.take_zero, List.drop_succ_cons, List.drop_zero, List.reverse_cons, List.reverse_nil, Nat.le_refl, fL_minute_340, fL_minute_343, xvz_20, xvz_21, xvz_22, xvz_23, xvz_24, xvz_25, xvz_26, xvz_27, xvz_28, xvz_29, xrz_20, xrz_21, xrz_22, xrz_23, xrz_24, xrz_25, xrz_26, xrz_27, xrz_28, xrz_29, xdz_20, xdz_21, xdz_22, xdz_23, xdz_24, xdz_25, xdz_26, xdz_27, xdz_28, xdz_29, xlen, xcat, xc1, Nat.zero_le, Nat.reduceLeDiff, List.length_cons, List.length_nil, r3, ru, hlt, i0, i60, z0, rx0, hz]
    exact hb
  by_cases h44 : xU M u 4 = M 20 0 0 4
  case neg =>
    have ec : cal 0 u G = G := by
      unfold cal
      rw [if_neg (fun z => h44 ?_)]
      have w4 := (e hz).1 4 (by decide) (by decide)
      rw [← w4, z.2]
      exact hR.1.2.2.2.2.2.1.2.2.2.2
    have hb := h M (by rw [ec]; exact rY_dU hR h1 h0 (fun _ => h44)) rfl rfl rfl (EQ_refl M)
    refine yru_ok hC [346, 213] 9 _ _ _ _ ?_
    simp only [ykk_ap, Int.reduceEq, Int.reduceLT, Int.reduceLE, Int.reduceNeg, Int.reduceAdd, Int.reduceSub, Int.reduceMul, and_self, false_and, and_false, not_true_eq_false, not_false_eq_true, true_implies, false_implies, xq0, xq1, xq2, xq3, xq4, xq5, xqR, xq1R, xq3R, xt1, xt2, xt3, List.mem_cons, List.not_mem_nil, or_false, false_or, or_self, if_false, if_true, reduceIte, reduceCtorEq, xent, xen, List.length_cons, List.length_nil, List.replicate, j_c, j_cJ, j_ild, j_ald, j_lld, j_ist, j_ast, j_lst, j_inc, j_add, j_sub, j_mul, j_neg, j_div, j_rem, j_and, j_shr, j_shl1, j_or, j_ladd, j_lsub, j_lmul, j_i2l, j_lcmp, j_i2c, j_dup, j_dup2, j_pop, j_goto, j_ieq, j_ine, j_ilt, j_ige, j_igt, j_ile, j_eq, j_ne, j_lt, j_ge, j_gt, j_le, xsw, j_tsw, j_gI, j_gJ, j_gR, j_pI, j_pJ, j_gs, j_iald, j_iast, j_cald, j_cast, j_aald, j_cpy, j_min, j_max, j_abs, j_iret, j_zret, j_lret, j_dret, j_ret0, j_V0, j_V1, j_V2, j_V3, j_V4, j_V5, j_S1, j_S2, j_S3, xget, xset, xset2, xclr, xc1, xcat, Nat.reduceAdd, Nat.reduceEqDiff, Nat.reduceLT, Nat.reduceLeDiff, Nat.reduceMul, List.cons_append, List.nil_append, true_and, and_true, List.singleton_append, j_lsw2, j_Sn, j_ush, j_dupx2, List.take_succ_cons, List.take_zero, List.drop_succ_cons, List.drop_zero, List.reverse_cons, List.reverse_nil, Nat.le_refl, fL_minute_202, fL_minute_204, fL_minute_206, fL_minute_207, fL_minute_208, fL_minute_209, fL_minute_210, xvz_20, xvz_21, xvz_22, xvz_23, xvz_24, xvz_25, xvz_26, xvz_27, xvz_28, xvz_29, xrz_20, xrz_21, xrz_22, xrz_23, xrz_24, xrz_25, xrz_26, xrz_27, xrz_28, xrz_29, xdz_20, xdz_21, xdz_22, xdz_23, xdz_24, xdz_25, xdz_26, xdz_27, xdz_28, xdz_29, xlen, xcat, xc1, Nat.zero_le, Nat.reduceLeDiff, List.length_cons, List.length_nil, r3, ru, hlt, i0, i60, j4, z0, zz, rx0, rx4, rt, hz, h44, xr_c (n := 0) rfl]
    refine yru_ok hC [340, 221] 6 _ _ _ _ ?_
    simp only [ykk_ap, Int.reduceEq, Int.reduceLT, Int.reduceLE, Int.reduceNeg, Int.reduceAdd, Int.reduceSub, Int.reduceMul, and_self, false_and, and_false, not_true_eq_false, not_false_eq_true, true_implies, false_implies, xq0, xq1, xq2, xq3, xq4, xq5, xqR, xq1R, xq3R, xt1, xt2, xt3, List.mem_cons, List.not_mem_nil, or_false, false_or, or_self, if_false, if_true, reduceIte, reduceCtorEq, xent, xen, List.length_cons, List.length_nil, List.replicate, j_c, j_cJ, j_ild, j_ald, j_lld, j_ist, j_ast, j_lst, j_inc, j_add, j_sub, j_mul, j_neg, j_div, j_rem, j_and, j_shr, j_shl1, j_or, j_ladd, j_lsub, j_lmul, j_i2l, j_lcmp, j_i2c, j_dup, j_dup2, j_pop, j_goto, j_ieq, j_ine, j_ilt, j_ige, j_igt, j_ile, j_eq, j_ne, j_lt, j_ge, j_gt, j_le, xsw, j_tsw, j_gI, j_gJ, j_gR, j_pI, j_pJ, j_gs, j_iald, j_iast, j_cald, j_cast, j_aald, j_cpy, j_min, j_max, j_abs, j_iret, j_zret, j_lret, j_dret, j_ret0, j_V0, j_V1, j_V2, j_V3, j_V4, j_V5, j_S1, j_S2, j_S3, xget, xset, xset2, xclr, xc1, xcat, Nat.reduceAdd, Nat.reduceEqDiff, Nat.reduceLT, Nat.reduceLeDiff, Nat.reduceMul, List.cons_append, List.nil_append, true_and, and_true, List.singleton_append, j_lsw2, j_Sn, j_ush, j_dupx2, List.take_succ_cons, List.take_zero, List.drop_succ_cons, List.drop_zero, List.reverse_cons, List.reverse_nil, Nat.le_refl, fL_minute_213, fL_minute_215, fL_minute_217, fL_minute_218, xvz_20, xvz_21, xvz_22, xvz_23, xvz_24, xvz_25, xvz_26, xvz_27, xvz_28, xvz_29, xrz_20, xrz_21, xrz_22, xrz_23, xrz_24, xrz_25, xrz_26, xrz_27, xrz_28, xrz_29, xdz_20, xdz_21, xdz_22, xdz_23, xdz_24, xdz_25, xdz_26, xdz_27, xdz_28, xdz_29, xlen, xcat, xc1, Nat.zero_le, Nat.reduceLeDiff, List.length_cons, List.length_nil, r3, ru, hlt, i0, i60, j4, z0, zz, rx0, rx4, rt, hz, h44, xr_c (n := 0) rfl]
    refine yru_ok hC [340, 234] 11 _ _ _ _ ?_
    simp only [ykk_ap, Int.reduceEq, Int.reduceLT, Int.reduceLE, Int.reduceNeg, Int.reduceAdd, Int.reduceSub, Int.reduceMul, and_self, false_and, and_false, not_true_eq_false, not_false_eq_true, true_implies, false_implies, xq0, xq1, xq2, xq3, xq4, xq5, xqR, xq1R, xq3R, xt1, xt2, xt3, List.mem_cons, List.not_mem_nil, or_false, false_or, or_self, if_false, if_true, reduceIte, reduceCtorEq, xent, xen, List.length_cons, List.length_nil, List.replicate, j_c, j_cJ, j_ild, j_ald, j_lld, j_ist, j_ast, j_lst, j_inc, j_add, j_sub, j_mul, j_neg, j_div, j_rem, j_and, j_shr, j_shl1, j_or, j_ladd, j_lsub, j_lmul, j_i2l, j_lcmp, j_i2c, j_dup, j_dup2, j_pop, j_goto, j_ieq, j_ine, j_ilt, j_ige, j_igt, j_ile, j_eq, j_ne, j_lt, j_ge, j_gt, j_le, xsw, j_tsw, j_gI, j_gJ, j_gR, j_pI, j_pJ, j_gs, j_iald, j_iast, j_cald, j_cast, j_aald, j_cpy, j_min, j_max, j_abs, j_iret, j_zret, j_lret, j_dret, j_ret0, j_V0, j_V1, j_V2, j_V3, j_V4, j_V5, j_S1, j_S2, j_S3, xget, xset, xset2, xclr, xc1, xcat, Nat.reduceAdd, Nat.reduceEqDiff, Nat.reduceLT, Nat.reduceLeDiff, Nat.reduceMul, List.cons_append, List.nil_append, true_and, and_true, List.singleton_append, j_lsw2, j_Sn, j_ush, j_dupx2, List.take_succ_cons, List.take_zero, List.drop_succ_cons, List.drop_zero, List.reverse_cons, List.reverse_nil, Nat.le_refl, fL_minute_221, fL_minute_223, fL_minute_225, fL_minute_226, fL_minute_227, fL_minute_228, fL_minute_229, fL_minute_230, fL_minute_231, xvz_20, xvz_21, xvz_22, xvz_23, xvz_24, xvz_25, xvz_26, xvz_27, xvz_28, xvz_29, xrz_20, xrz_21, xrz_22, xrz_23, xrz_24, xrz_25, xrz_26, xrz_27, xrz_28, xrz_29, xdz_20, xdz_21, xdz_22, xdz_23, xdz_24, xdz_25, xdz_26, xdz_27, xdz_28, xdz_29, xlen, xcat, xc1, Nat.zero_le, Nat.reduceLeDiff, List.length_cons, List.length_nil, r3, ru, hlt, i0, i60, j4, z0, zz, rx0, rx4, rt, hz, h44, xr_c (n := 0) rfl]
    refine yru_ok hC [202] 4 _ _ _ _ ?_
    simp only [ykk_ap, Int.reduceEq, Int.reduceLT, Int.reduceLE, Int.reduceNeg, Int.reduceAdd, Int.reduceSub, Int.reduceMul, and_self, false_and, and_false, not_true_eq_false, not_false_eq_true, true_implies, false_implies, xq0, xq1, xq2, xq3, xq4, xq5, xqR, xq1R, xq3R, xt1, xt2, xt3, List.mem_cons, List.not_mem_nil, or_false, false_or, or_self, if_false, if_true, reduceIte, reduceCtorEq, xent, xen, List.length_cons, List.length_nil, List.replicate, j_c, j_cJ, j_ild, j_ald, j_lld, j_ist, j_ast, j_lst, j_inc, j_add, j_sub, j_mul, j_neg, j_div, j_rem, j_and, j_shr, j_shl1, j_or, j_ladd, j_lsub, j_lmul, j_i2l, j_lcmp, j_i2c, j_dup, j_dup2, j_pop, j_goto, j_ieq, j_ine, j_ilt, j_ige, j_igt, j_ile, j_eq, j_ne, j_lt, j_ge, j_gt, j_le, xsw, j_tsw, j_gI, j_gJ, j_gR, j_pI, j_pJ, j_gs, j_iald, j_iast, j_cald, j_cast, j_aald, j_cpy, j_min, j_max, j_abs, j_iret, j_zret, j_lret, j_dret, j_ret0, j_V0, j_V1, j_V2, j_V3, j_V4, j_V5, j_S1, j_S2, j_S3, xget, xset, xset2, xclr, xc1, xcat, Nat.reduceAdd, Nat.reduceEqDiff, Nat.reduceLT, Nat.reduceLeDiff, Nat.reduceMul, List.cons_append, List.nil_append, true_and, and_true, List.singleton_append, j_lsw2, j_Sn, j_ush, j_dupx2, List.take_succ_cons, List.take_zero, List.drop_succ_cons, List.drop_zero, List.reverse_cons, List.reverse_nil, Nat.le_refl, fL_minute_340, fL_minute_343, xvz_20, xvz_21, xvz_22, xvz_23, xvz_24, xvz_25, xvz_26, xvz_27, xvz_28, xvz_29, xrz_20, xrz_21, xrz_22, xrz_23, xrz_24, xrz_25, xrz_26, xrz_27, xrz_28, xrz_29, xdz_20, xdz_21, xdz_22, xdz_23, xdz_24, xdz_25, xdz_26, xdz_27, xdz_28, xdz_29, xlen, xcat, xc1, Nat.zero_le, Nat.reduceLeDiff, List.length_cons, List.length_nil, r3, ru, hlt, i0, i60, j4, z0, zz, rx0, rx4, rt, hz, h44, xr_c (n := 0) rfl]
    exact hb
  obtain ⟨e1, e2, e3, e4, e5, e6, e7, e8, e9⟩ := e hz
  have w6 := e1 6 (by decide) (by decide)
  have w7 := e1 7 (by decide) (by decide)
  have ro : XInR (xU M u 6 + xU M u 7) := by
    unfold uG at hg
    exact ⟨by omega, by omega⟩
  have q : ∀ s s' : Int, (12 * u + s = 12 * u + s') = (s = s') := fun s s' => by simp only [eq_iff_iff]; omega
  by_cases ho : xU M u 6 + xU M u 7 = 0
  · have fin : ∀ M' : XM, calM M u M' → WW 202 [some (xR 20 0 0), some (xR 22 0 0), some (xR 24 0 0), some (xR 25 0 0), some (xR 26 0 0), some (xR 27 0 0), some (xR 28 0 0), some (xR 29 0 0), some (xI (12 * u + 12)), x9] [] M' := fun M' hM => h M' (rY_cal hR h0 h1 hz h44 hM) (hM.2.1 3 (by decide)) (hM.2.1 4 (by decide)) (hM.2.1 18 (by decide)) (fun t ht => hM.1 t (by omega) (by omega))
    refine yru_ok hC [346, 213] 9 _ _ _ _ ?_
    simp only [ykk_ap, Int.reduceEq, Int.reduceLT, Int.reduceLE, Int.reduceNeg, Int.reduceAdd, Int.reduceSub, Int.reduceMul, and_self, false_and, and_false, not_true_eq_false, not_false_eq_true, true_implies, false_implies, xq0, xq1, xq2, xq3, xq4, xq5, xqR, xq1R, xq3R, xt1, xt2, xt3, List.mem_cons, List.not_mem_nil, or_false, false_or, or_self, if_false, if_true, reduceIte, reduceCtorEq, xent, xen, List.length_cons, List.length_nil, List.replicate, j_c, j_cJ, j_ild, j_ald, j_lld, j_ist, j_ast, j_lst, j_inc, j_add, j_sub, j_mul, j_neg, j_div, j_rem, j_and, j_shr, j_shl1, j_or, j_ladd, j_lsub, j_lmul, j_i2l, j_lcmp, j_i2c, j_dup, j_dup2, j_pop, j_goto, j_ieq, j_ine, j_ilt, j_ige, j_igt, j_ile, j_eq, j_ne, j_lt, j_ge, j_gt, j_le, xsw, j_tsw, j_gI, j_gJ, j_gR, j_pI, j_pJ, j_gs, j_iald, j_iast, j_cald, j_cast, j_aald, j_cpy, j_min, j_max, j_abs, j_iret, j_zret, j_lret, j_dret, j_ret0, j_V0, j_V1, j_V2, j_V3, j_V4, j_V5, j_S1, j_S2, j_S3, xget, xset, xset2, xclr, xc1, xcat, Nat.reduceAdd, Nat.reduceEqDiff, Nat.reduceLT, Nat.reduceLeDiff, Nat.reduceMul, List.cons_append, List.nil_append, true_and, and_true, List.singleton_append, j_lsw2, j_Sn, j_ush, j_dupx2, List.take_succ_cons, List.take_zero, List.drop_succ_cons, List.drop_zero, List.reverse_cons, List.reverse_nil, Nat.le_refl, fL_minute_202, fL_minute_204, fL_minute_206, fL_minute_207, fL_minute_208, fL_minute_209, fL_minute_210, xvz_20, xvz_21, xvz_22, xvz_23, xvz_24, xvz_25, xvz_26, xvz_27, xvz_28, xvz_29, xrz_20, xrz_21, xrz_22, xrz_23, xrz_24, xrz_25, xrz_26, xrz_27, xrz_28, xrz_29, xdz_20, xdz_21, xdz_22, xdz_23, xdz_24, xdz_25, xdz_26, xdz_27, xdz_28, xdz_29, xlen, xcat, xc1, Nat.zero_le, Nat.reduceLeDiff, List.length_cons, List.length_nil, r3, ru, hlt, i0, i60, j4, j6, j7, j8, z0, zz, rx0, rx4, rt, hz, h44, ro, ho, xr_c (n := 0) rfl]
    refine yru_ok hC [340, 221] 6 _ _ _ _ ?_
    simp only [ykk_ap, Int.reduceEq, Int.reduceLT, Int.reduceLE, Int.reduceNeg, Int.reduceAdd, Int.reduceSub, Int.reduceMul, and_self, false_and, and_false, not_true_eq_false, not_false_eq_true, true_implies, false_implies, xq0, xq1, xq2, xq3, xq4, xq5, xqR, xq1R, xq3R, xt1, xt2, xt3, List.mem_cons, List.not_mem_nil, or_false, false_or, or_self, if_false, if_true, reduceIte, reduceCtorEq, xent, xen, List.length_cons, List.length_nil, List.replicate, j_c, j_cJ, j_ild, j_ald, j_lld, j_ist, j_ast, j_lst, j_inc, j_add, j_sub, j_mul, j_neg, j_div, j_rem, j_and, j_shr, j_shl1, j_or, j_ladd, j_lsub, j_lmul, j_i2l, j_lcmp, j_i2c, j_dup, j_dup2, j_pop, j_goto, j_ieq, j_ine, j_ilt, j_ige, j_igt, j_ile, j_eq, j_ne, j_lt, j_ge, j_gt, j_le, xsw, j_tsw, j_gI, j_gJ, j_gR, j_pI, j_pJ, j_gs, j_iald, j_iast, j_cald, j_cast, j_aald, j_cpy, j_min, j_max, j_abs, j_iret, j_zret, j_lret, j_dret, j_ret0, j_V0, j_V1, j_V2, j_V3, j_V4, j_V5, j_S1, j_S2, j_S3, xget, xset, xset2, xclr, xc1, xcat, Nat.reduceAdd, Nat.reduceEqDiff, Nat.reduceLT, Nat.reduceLeDiff, Nat.reduceMul, List.cons_append, List.nil_append, true_and, and_true, List.singleton_append, j_lsw2, j_Sn, j_ush, j_dupx2, List.take_succ_cons, List.take_zero, List.drop_succ_cons, List.drop_zero, List.reverse_cons, List.reverse_nil, Nat.le_refl, fL_minute_213, fL_minute_215, fL_minute_217, fL_minute_218, xvz_20, xvz_21, xvz_22, xvz_23, xvz_24, xvz_25, xvz_26, xvz_27, xvz_28, xvz_29, xrz_20, xrz_21, xrz_22, xrz_23, xrz_24, xrz_25, xrz_26, xrz_27, xrz_28, xrz_29, xdz_20, xdz_21, xdz_22, xdz_23, xdz_24, xdz_25, xdz_26, xdz_27, xdz_28, xdz_29, xlen, xcat, xc1, Nat.zero_le, Nat.reduceLeDiff, List.length_cons, List.length_nil, r3, ru, hlt, i0, i60, j4, j6, j7, j8, z0, zz, rx0, rx4, rt, hz, h44, ro, ho, xr_c (n := 0) rfl]
    refine yru_ok hC [340, 234] 11 _ _ _ _ ?_
    simp only [ykk_ap, Int.reduceEq, Int.reduceLT, Int.reduceLE, Int.reduceNeg, Int.reduceAdd, Int.reduceSub, Int.reduceMul, and_self, false_and, and_false, not_true_eq_false, not_false_eq_true, true_implies, false_implies, xq0, xq1, xq2, xq3, xq4, xq5, xqR, xq1R, xq3R, xt1, xt2, xt3, List.mem_cons, List.not_mem_nil, or_false, false_or, or_self, if_false, if_true, reduceIte, reduceCtorEq, xent, xen, List.length_cons, List.length_nil, List.replicate, j_c, j_cJ, j_ild, j_ald, j_lld, j_ist, j_ast, j_lst, j_inc, j_add, j_sub, j_mul, j_neg, j_div, j_rem, j_and, j_shr, j_shl1, j_or, j_ladd, j_lsub, j_lmul, j_i2l, j_lcmp, j_i2c, j_dup, j_dup2, j_pop, j_goto, j_ieq, j_ine, j_ilt, j_ige, j_igt, j_ile, j_eq, j_ne, j_lt, j_ge, j_gt, j_le, xsw, j_tsw, j_gI, j_gJ, j_gR, j_pI, j_pJ, j_gs, j_iald, j_iast, j_cald, j_cast, j_aald, j_cpy, j_min, j_max, j_abs, j_iret, j_zret, j_lret, j_dret, j_ret0, j_V0, j_V1, j_V2, j_V3, j_V4, j_V5, j_S1, j_S2, j_S3, xget, xset, xset2, xclr, xc1, xcat, Nat.reduceAdd, Nat.reduceEqDiff, Nat.reduceLT, Nat.reduceLeDiff, Nat.reduceMul, List.cons_append, List.nil_append, true_and, and_true, List.singleton_append, j_lsw2, j_Sn, j_ush, j_dupx2, List.take_succ_cons, List.take_zero, List.drop_succ_cons, List.drop_zero, List.reverse_cons, List.reverse_nil, Nat.le_refl, fL_minute_221, fL_minute_223, fL_minute_225, fL_minute_226, fL_minute_227, fL_minute_228, fL_minute_229, fL_minute_230, fL_minute_231, xvz_20, xvz_21, xvz_22, xvz_23, xvz_24, xvz_25, xvz_26, xvz_27, xvz_28, xvz_29, xrz_20, xrz_21, xrz_22, xrz_23, xrz_24, xrz_25, xrz_26, xrz_27, xrz_28, xrz_29, xdz_20, xdz_21, xdz_22, xdz_23, xdz_24, xdz_25, xdz_26, xdz_27, xdz_28, xdz_29, xlen, xcat, xc1, Nat.zero_le, Nat.reduceLeDiff, List.length_cons, List.length_nil, r3, ru, hlt, i0, i60, j4, j6, j7, j8, z0, zz, rx0, rx4, rt, hz, h44, ro, ho, xr_c (n := 0) rfl]
    refine yru_ok hC [265, 254] 14 _ _ _ _ ?_
    simp only [ykk_ap, Int.reduceEq, Int.reduceLT, Int.reduceLE, Int.reduceNeg, Int.reduceAdd, Int.reduceSub, Int.reduceMul, and_self, false_and, and_false, not_true_eq_false, not_false_eq_true, true_implies, false_implies, xq0, xq1, xq2, xq3, xq4, xq5, xqR, xq1R, xq3R, xt1, xt2, xt3, List.mem_cons, List.not_mem_nil, or_false, false_or, or_self, if_false, if_true, reduceIte, reduceCtorEq, xent, xen, List.length_cons, List.length_nil, List.replicate, j_c, j_cJ, j_ild, j_ald, j_lld, j_ist, j_ast, j_lst, j_inc, j_add, j_sub, j_mul, j_neg, j_div, j_rem, j_and, j_shr, j_shl1, j_or, j_ladd, j_lsub, j_lmul, j_i2l, j_lcmp, j_i2c, j_dup, j_dup2, j_pop, j_goto, j_ieq, j_ine, j_ilt, j_ige, j_igt, j_ile, j_eq, j_ne, j_lt, j_ge, j_gt, j_le, xsw, j_tsw, j_gI, j_gJ, j_gR, j_pI, j_pJ, j_gs, j_iald, j_iast, j_cald, j_cast, j_aald, j_cpy, j_min, j_max, j_abs, j_iret, j_zret, j_lret, j_dret, j_ret0, j_V0, j_V1, j_V2, j_V3, j_V4, j_V5, j_S1, j_S2, j_S3, xget, xset, xset2, xclr, xc1, xcat, Nat.reduceAdd, Nat.reduceEqDiff, Nat.reduceLT, Nat.reduceLeDiff, Nat.reduceMul, List.cons_append, List.nil_append, true_and, and_true, List.singleton_append, j_lsw2, j_Sn, j_ush, j_dupx2, List.take_succ_cons, List.take_zero, List.drop_succ_cons, List.drop_zero, List.reverse_cons, List.reverse_nil, Nat.le_refl, fL_minute_234, fL_minute_236, fL_minute_238, fL_minute_240, fL_minute_241, fL_minute_242, fL_minute_244, fL_minute_246, fL_minute_248, fL_minute_249, fL_minute_250, fL_minute_251, xvz_20, xvz_21, xvz_22, xvz_23, xvz_24, xvz_25, xvz_26, xvz_27, xvz_28, xvz_29, xrz_20, xrz_21, xrz_22, xrz_23, xrz_24, xrz_25, xrz_26, xrz_27, xrz_28, xrz_29, xdz_20, xdz_21, xdz_22, xdz_23, xdz_24, xdz_25, xdz_26, xdz_27, xdz_28, xdz_29, xlen, xcat, xc1, Nat.zero_le, Nat.reduceLeDiff, List.length_cons, List.length_nil, r3, ru, hlt, i0, i60, j4, j6, j7, j8, z0, zz, rx0, rx4, rt, hz, h44, ro, ho, xr_c (n := 0) rfl]
    refine yru_ok hC [265] 10 _ _ _ _ ?_
    simp only [ykk_ap, Int.reduceEq, Int.reduceLT, Int.reduceLE, Int.reduceNeg, Int.reduceAdd, Int.reduceSub, Int.reduceMul, and_self, false_and, and_false, not_true_eq_false, not_false_eq_true, true_implies, false_implies, xq0, xq1, xq2, xq3, xq4, xq5, xqR, xq1R, xq3R, xt1, xt2, xt3, List.mem_cons, List.not_mem_nil, or_false, false_or, or_self, if_false, if_true, reduceIte, reduceCtorEq, xent, xen, List.length_cons, List.length_nil, List.replicate, j_c, j_cJ, j_ild, j_ald, j_lld, j_ist, j_ast, j_lst, j_inc, j_add, j_sub, j_mul, j_neg, j_div, j_rem, j_and, j_shr, j_shl1, j_or, j_ladd, j_lsub, j_lmul, j_i2l, j_lcmp, j_i2c, j_dup, j_dup2, j_pop, j_goto, j_ieq, j_ine, j_ilt, j_ige, j_igt, j_ile, j_eq, j_ne, j_lt, j_ge, j_gt, j_le, xsw, j_tsw, j_gI, j_gJ, j_gR, j_pI, j_pJ, j_gs, j_iald, j_iast, j_cald, j_cast, j_aald, j_cpy, j_min, j_max, j_abs, j_iret, j_zret, j_lret, j_dret, j_ret0, j_V0, j_V1, j_V2, j_V3, j_V4, j_V5, j_S1, j_S2, j_S3, xget, xset, xset2, xclr, xc1, xcat, Nat.reduceAdd, Nat.reduceEqDiff, Nat.reduceLT, Nat.reduceLeDiff, Nat.reduceMul, List.cons_append, List.nil_append, true_and, and_true, List.singleton_append, j_lsw2, j_Sn, j_ush, j_dupx2, List.take_succ_cons, List.take_zero, List.drop_succ_cons, List.drop_zero, List.reverse_cons, List.reverse_nil, Nat.le_refl, fL_minute_254, fL_minute_256, fL_minute_258, fL_minute_260, fL_minute_261, fL_minute_262, fL_minute_263, fL_minute_264, xvz_20, xvz_21, xvz_22, xvz_23, xvz_24, xvz_25, xvz_26, xvz_27, xvz_28, xvz_29, xrz_20, xrz_21, xrz_22, xrz_23, xrz_24, xrz_25, xrz_26, xrz_27, xrz_28, xrz_29, xdz_20, xdz_21, xdz_22, xdz_23, xdz_24, xdz_25, xdz_26, xdz_27, xdz_28, xdz_29, xlen, xcat, xc1, Nat.zero_le, Nat.reduceLeDiff, List.length_cons, List.length_nil, r3, ru, hlt, i0, i60, j4, j6, j7, j8, z0, zz, rx0, rx4, rt, hz, h44, ro, ho, xr_c (n := 0) rfl]
    refine yru_ok hC [340] 58 _ _ _ _ ?_
    simp only [ykk_ap, Int.reduceEq, Int.reduceLT, Int.reduceLE, Int.reduceNeg, Int.reduceAdd, Int.reduceSub, Int.reduceMul, and_self, false_and, and_false, not_true_eq_false, not_false_eq_true, true_implies, false_implies, xq0, xq1, xq2, xq3, xq4, xq5, xqR, xq1R, xq3R, xt1, xt2, xt3, List.mem_cons, List.not_mem_nil, or_false, false_or, or_self, if_false, if_true, reduceIte, reduceCtorEq, xent, xen, List.length_cons, List.length_nil, List.replicate, j_c, j_cJ, j_ild, j_ald, j_lld, j_ist, j_ast, j_lst, j_inc, j_add, j_sub, j_mul, j_neg, j_div, j_rem, j_and, j_shr, j_shl1, j_or, j_ladd, j_lsub, j_lmul, j_i2l, j_lcmp, j_i2c, j_dup, j_dup2, j_pop, j_goto, j_ieq, j_ine, j_ilt, j_ige, j_igt, j_ile, j_eq, j_ne, j_lt, j_ge, j_gt, j_le, xsw, j_tsw, j_gI, j_gJ, j_gR, j_pI, j_pJ, j_gs, j_iald, j_iast, j_cald, j_cast, j_aald, j_cpy, j_min, j_max, j_abs, j_iret, j_zret, j_lret, j_dret, j_ret0, j_V0, j_V1, j_V2, j_V3, j_V4, j_V5, j_S1, j_S2, j_S3, xget, xset, xset2, xclr, xc1, xcat, Nat.reduceAdd, Nat.reduceEqDiff, Nat.reduceLT, Nat.reduceLeDiff, Nat.reduceMul, List.cons_append, List.nil_append, true_and, and_true, List.singleton_append, j_lsw2, j_Sn, j_ush, j_dupx2, List.take_succ_cons, List.take_zero, List.drop_succ_cons, List.drop_zero, List.reverse_cons, List.reverse_nil, Nat.le_refl, fL_minute_265, fL_minute_267, fL_minute_269, fL_minute_271, fL_minute_272, fL_minute_273, fL_minute_274, fL_minute_276, fL_minute_278, fL_minute_279, fL_minute_280, fL_minute_281, fL_minute_282, fL_minute_283, fL_minute_285, fL_minute_287, fL_minute_289, fL_minute_290, fL_minute_291, fL_minute_292, fL_minute_294, fL_minute_296, fL_minute_297, fL_minute_298, fL_minute_299, fL_minute_301, fL_minute_303, fL_minute_304, fL_minute_305, fL_minute_306, fL_minute_307, fL_minute_308, fL_minute_309, fL_minute_311, fL_minute_313, fL_minute_314, fL_minute_315, fL_minute_316, fL_minute_317, fL_minute_319, fL_minute_321, fL_minute_322, fL_minute_323, fL_minute_324, fL_minute_325, fL_minute_326, fL_minute_327, fL_minute_329, fL_minute_330, fL_minute_331, fL_minute_333, fL_minute_335, fL_minute_336, fL_minute_337, fL_minute_338, fL_minute_339, xvz_20, xvz_21, xvz_22, xvz_23, xvz_24, xvz_25, xvz_26, xvz_27, xvz_28, xvz_29, xrz_20, xrz_21, xrz_22, xrz_23, xrz_24, xrz_25, xrz_26, xrz_27, xrz_28, xrz_29, xdz_20, xdz_21, xdz_22, xdz_23, xdz_24, xdz_25, xdz_26, xdz_27, xdz_28, xdz_29, xlen, xcat, xc1, Nat.zero_le, Nat.reduceLeDiff, List.length_cons, List.length_nil, j2, j3, j4, j5, j6, j7, j8, zz, xup_app, q, Nat.reduceEqDiff, Int.reduceEq]
    refine yru_ok hC [202] 4 _ _ _ _ ?_
    simp only [ykk_ap, Int.reduceEq, Int.reduceLT, Int.reduceLE, Int.reduceNeg, Int.reduceAdd, Int.reduceSub, Int.reduceMul, and_self, false_and, and_false, not_true_eq_false, not_false_eq_true, true_implies, false_implies, xq0, xq1, xq2, xq3, xq4, xq5, xqR, xq1R, xq3R, xt1, xt2, xt3, List.mem_cons, List.not_mem_nil, or_false, false_or, or_self, if_false, if_true, reduceIte, reduceCtorEq, xent, xen, List.length_cons, List.length_nil, List.replicate, j_c, j_cJ, j_ild, j_ald, j_lld, j_ist, j_ast, j_lst, j_inc, j_add, j_sub, j_mul, j_neg, j_div, j_rem, j_and, j_shr, j_shl1, j_or, j_ladd, j_lsub, j_lmul, j_i2l, j_lcmp, j_i2c, j_dup, j_dup2, j_pop, j_goto, j_ieq, j_ine, j_ilt, j_ige, j_igt, j_ile, j_eq, j_ne, j_lt, j_ge, j_gt, j_le, xsw, j_tsw, j_gI, j_gJ, j_gR, j_pI, j_pJ, j_gs, j_iald, j_iast, j_cald, j_cast, j_aald, j_cpy, j_min, j_max, j_abs, j_iret, j_zret, j_lret, j_dret, j_ret0, j_V0, j_V1, j_V2, j_V3, j_V4, j_V5, j_S1, j_S2, j_S3, xget, xset, xset2, xclr, xc1, xcat, Nat.reduceAdd, Nat.reduceEqDiff, Nat.reduceLT, Nat.reduceLeDiff, Nat.reduceMul, List.cons_append, List.nil_append, true_and, and_true, List.singleton_append, j_lsw2, j_Sn, j_ush, j_dupx2, List.take_succ_cons, List.take_zero, List.drop_succ_cons, List.drop_zero, List.reverse_cons, List.reverse_nil, Nat.le_refl, fL_minute_340, fL_minute_343, xvz_20, xvz_21, xvz_22, xvz_23, xvz_24, xvz_25, xvz_26, xvz_27, xvz_28, xvz_29, xrz_20, xrz_21, xrz_22, xrz_23, xrz_24, xrz_25, xrz_26, xrz_27, xrz_28, xrz_29, xdz_20, xdz_21, xdz_22, xdz_23, xdz_24, xdz_25, xdz_26, xdz_27, xdz_28, xdz_29, xlen, xcat, xc1, Nat.zero_le, Nat.reduceLeDiff, List.length_cons, List.length_nil, j2, j3, j4, j5, j6, j7, j8, zz, xup_app, q, Nat.reduceEqDiff, Int.reduceEq]
    refine fin _ ⟨fun t x y => ?_, fun s x => ?_, ?_, fun n => ?_⟩
    · rw [xup_tag x, xup_tag y, xup_tag y, xup_tag y, xup_tag y]
    · rw [xup_app, if_neg (fun z => x z.2.2.2), xup_tag (by decide), xup_tag (by decide), xup_tag (by decide), xup_tag (by decide)]
    · rw [xup_app, if_pos ⟨rfl, rfl, rfl, rfl⟩]
    · rw [xup_tag (by decide), xup_row, xup_row, xup_row, xup_row]
      simp only [sup_at, ho, and_true, h44]
  · have fin : ∀ M' : XM, calM M u M' → WW 202 [some (xR 20 0 0), some (xR 22 0 0), some (xR 24 0 0), some (xR 25 0 0), some (xR 26 0 0), some (xR 27 0 0), some (xR 28 0 0), some (xR 29 0 0), some (xI (12 * u + 12)), x9] [] M' := fun M' hM => h M' (rY_cal hR h0 h1 hz h44 hM) (hM.2.1 3 (by decide)) (hM.2.1 4 (by decide)) (hM.2.1 18 (by decide)) (fun t ht => hM.1 t (by omega) (by omega))
    refine yru_ok hC [346, 213] 9 _ _ _ _ ?_
    simp only [ykk_ap, Int.reduceEq, Int.reduceLT, Int.reduceLE, Int.reduceNeg, Int.reduceAdd, Int.reduceSub, Int.reduceMul, and_self, false_and, and_false, not_true_eq_false, not_false_eq_true, true_implies, false_implies, xq0, xq1, xq2, xq3, xq4, xq5, xqR, xq1R, xq3R, xt1, xt2, xt3, List.mem_cons, List.not_mem_nil, or_false, false_or, or_self, if_false, if_true, reduceIte, reduceCtorEq, xent, xen, List.length_cons, List.length_nil, List.replicate, j_c, j_cJ, j_ild, j_ald, j_lld, j_ist, j_ast, j_lst, j_inc, j_add, j_sub, j_mul, j_neg, j_div, j_rem, j_and, j_shr, j_shl1, j_or, j_ladd, j_lsub, j_lmul, j_i2l, j_lcmp, j_i2c, j_dup, j_dup2, j_pop, j_goto, j_ieq, j_ine, j_ilt, j_ige, j_igt, j_ile, j_eq, j_ne, j_lt, j_ge, j_gt, j_le, xsw, j_tsw, j_gI, j_gJ, j_gR, j_pI, j_pJ, j_gs, j_iald, j_iast, j_cald, j_cast, j_aald, j_cpy, j_min, j_max, j_abs, j_iret, j_zret, j_lret, j_dret, j_ret0, j_V0, j_V1, j_V2, j_V3, j_V4, j_V5, j_S1, j_S2, j_S3, xget, xset, xset2, xclr, xc1, xcat, Nat.reduceAdd, Nat.reduceEqDiff, Nat.reduceLT, Nat.reduceLeDiff, Nat.reduceMul, List.cons_append, List.nil_append, true_and, and_true, List.singleton_append, j_lsw2, j_Sn, j_ush, j_dupx2, List.take_succ_cons, List.take_zero, List.drop_succ_cons, List.drop_zero, List.reverse_cons, List.reverse_nil, Nat.le_refl, fL_minute_202, fL_minute_204, fL_minute_206, fL_minute_207, fL_minute_208, fL_minute_209, fL_minute_210, xvz_20, xvz_21, xvz_22, xvz_23, xvz_24, xvz_25, xvz_26, xvz_27, xvz_28, xvz_29, xrz_20, xrz_21, xrz_22, xrz_23, xrz_24, xrz_25, xrz_26, xrz_27, xrz_28, xrz_29, xdz_20, xdz_21, xdz_22, xdz_23, xdz_24, xdz_25, xdz_26, xdz_27, xdz_28, xdz_29, xlen, xcat, xc1, Nat.zero_le, Nat.reduceLeDiff, List.length_cons, List.length_nil, r3, ru, hlt, i0, i60, j4, j6, j7, j8, z0, zz, rx0, rx4, rt, hz, h44, ro, ho, xr_c (n := 0) rfl]
    refine yru_ok hC [340, 221] 6 _ _ _ _ ?_
    simp only [ykk_ap, Int.reduceEq, Int.reduceLT, Int.reduceLE, Int.reduceNeg, Int.reduceAdd, Int.reduceSub, Int.reduceMul, and_self, false_and, and_false, not_true_eq_false, not_false_eq_true, true_implies, false_implies, xq0, xq1, xq2, xq3, xq4, xq5, xqR, xq1R, xq3R, xt1, xt2, xt3, List.mem_cons, List.not_mem_nil, or_false, false_or, or_self, if_false, if_true, reduceIte, reduceCtorEq, xent, xen, List.length_cons, List.length_nil, List.replicate, j_c, j_cJ, j_ild, j_ald, j_lld, j_ist, j_ast, j_lst, j_inc, j_add, j_sub, j_mul, j_neg, j_div, j_rem, j_and, j_shr, j_shl1, j_or, j_ladd, j_lsub, j_lmul, j_i2l, j_lcmp, j_i2c, j_dup, j_dup2, j_pop, j_goto, j_ieq, j_ine, j_ilt, j_ige, j_igt, j_ile, j_eq, j_ne, j_lt, j_ge, j_gt, j_le, xsw, j_tsw, j_gI, j_gJ, j_gR, j_pI, j_pJ, j_gs, j_iald, j_iast, j_cald, j_cast, j_aald, j_cpy, j_min, j_max, j_abs, j_iret, j_zret, j_lret, j_dret, j_ret0, j_V0, j_V1, j_V2, j_V3, j_V4, j_V5, j_S1, j_S2, j_S3, xget, xset, xset2, xclr, xc1, xcat, Nat.reduceAdd, Nat.reduceEqDiff, Nat.reduceLT, Nat.reduceLeDiff, Nat.reduceMul, List.cons_append, List.nil_append, true_and, and_true, List.singleton_append, j_lsw2, j_Sn, j_ush, j_dupx2, List.take_succ_cons, List.take_zero, List.drop_succ_cons, List.drop_zero, List.reverse_cons, List.reverse_nil, Nat.le_refl, fL_minute_213, fL_minute_215, fL_minute_217, fL_minute_218, xvz_20, xvz_21, xvz_22, xvz_23, xvz_24, xvz_25, xvz_26, xvz_27, xvz_28, xvz_29, xrz_20, xrz_21, xrz_22, xrz_23, xrz_24, xrz_25, xrz_26, xrz_27, xrz_28, xrz_29, xdz_20, xdz_21, xdz_22, xdz_23, xdz_24, xdz_25, xdz_26, xdz_27, xdz_28, xdz_29, xlen, xcat, xc1, Nat.zero_le, Nat.reduceLeDiff, List.length_cons, List.length_nil, r3, ru, hlt, i0, i60, j4, j6, j7, j8, z0, zz, rx0, rx4, rt, hz, h44, ro, ho, xr_c (n := 0) rfl]
    refine yru_ok hC [340, 234] 11 _ _ _ _ ?_
    simp only [ykk_ap, Int.reduceEq, Int.reduceLT, Int.reduceLE, Int.reduceNeg, Int.reduceAdd, Int.reduceSub, Int.reduceMul, and_self, false_and, and_false, not_true_eq_false, not_false_eq_true, true_implies, false_implies, xq0, xq1, xq2, xq3, xq4, xq5, xqR, xq1R, xq3R, xt1, xt2, xt3, List.mem_cons, List.not_mem_nil, or_false, false_or, or_self, if_false, if_true, reduceIte, reduceCtorEq, xent, xen, List.length_cons, List.length_nil, List.replicate, j_c, j_cJ, j_ild, j_ald, j_lld, j_ist, j_ast, j_lst, j_inc, j_add, j_sub, j_mul, j_neg, j_div, j_rem, j_and, j_shr, j_shl1, j_or, j_ladd, j_lsub, j_lmul, j_i2l, j_lcmp, j_i2c, j_dup, j_dup2, j_pop, j_goto, j_ieq, j_ine, j_ilt, j_ige, j_igt, j_ile, j_eq, j_ne, j_lt, j_ge, j_gt, j_le, xsw, j_tsw, j_gI, j_gJ, j_gR, j_pI, j_pJ, j_gs, j_iald, j_iast, j_cald, j_cast, j_aald, j_cpy, j_min, j_max, j_abs, j_iret, j_zret, j_lret, j_dret, j_ret0, j_V0, j_V1, j_V2, j_V3, j_V4, j_V5, j_S1, j_S2, j_S3, xget, xset, xset2, xclr, xc1, xcat, Nat.reduceAdd, Nat.reduceEqDiff, Nat.reduceLT, Nat.reduceLeDiff, Nat.reduceMul, List.cons_append, List.nil_append, true_and, and_true, List.singleton_append, j_lsw2, j_Sn, j_ush, j_dupx2, List.take_succ_cons, List.take_zero, List.drop_succ_cons, List.drop_zero, List.reverse_cons, List.reverse_nil, Nat.le_refl, fL_minute_221, fL_minute_223, fL_minute_225, fL_minute_226, fL_minute_227, fL_minute_228, fL_minute_229, fL_minute_230, fL_minute_231, xvz_20, xvz_21, xvz_22, xvz_23, xvz_24, xvz_25, xvz_26, xvz_27, xvz_28, xvz_29, xrz_20, xrz_21, xrz_22, xrz_23, xrz_24, xrz_25, xrz_26, xrz_27, xrz_28, xrz_29, xdz_20, xdz_21, xdz_22, xdz_23, xdz_24, xdz_25, xdz_26, xdz_27, xdz_28, xdz_29, xlen, xcat, xc1, Nat.zero_le, Nat.reduceLeDiff, List.length_cons, List.length_nil, r3, ru, hlt, i0, i60, j4, j6, j7, j8, z0, zz, rx0, rx4, rt, hz, h44, ro, ho, xr_c (n := 0) rfl]
    refine yru_ok hC [265, 254] 14 _ _ _ _ ?_
    simp only [ykk_ap, Int.reduceEq, Int.reduceLT, Int.reduceLE, Int.reduceNeg, Int.reduceAdd, Int.reduceSub, Int.reduceMul, and_self, false_and, and_false, not_true_eq_false, not_false_eq_true, true_implies, false_implies, xq0, xq1, xq2, xq3, xq4, xq5, xqR, xq1R, xq3R, xt1, xt2, xt3, List.mem_cons, List.not_mem_nil, or_false, false_or, or_self, if_false, if_true, reduceIte, reduceCtorEq, xent, xen, List.length_cons, List.length_nil, List.replicate, j_c, j_cJ, j_ild, j_ald, j_lld, j_ist, j_ast, j_lst, j_inc, j_add, j_sub, j_mul, j_neg, j_div, j_rem, j_and, j_shr, j_shl1, j_or, j_ladd, j_lsub, j_lmul, j_i2l, j_lcmp, j_i2c, j_dup, j_dup2, j_pop, j_goto, j_ieq, j_ine, j_ilt, j_ige, j_igt, j_ile, j_eq, j_ne, j_lt, j_ge, j_gt, j_le, xsw, j_tsw, j_gI, j_gJ, j_gR, j_pI, j_pJ, j_gs, j_iald, j_iast, j_cald, j_cast, j_aald, j_cpy, j_min, j_max, j_abs, j_iret, j_zret, j_lret, j_dret, j_ret0, j_V0, j_V1, j_V2, j_V3, j_V4, j_V5, j_S1, j_S2, j_S3, xget, xset, xset2, xclr, xc1, xcat, Nat.reduceAdd, Nat.reduceEqDiff, Nat.reduceLT, Nat.reduceLeDiff, Nat.reduceMul, List.cons_append, List.nil_append, true_and, and_true, List.singleton_append, j_lsw2, j_Sn, j_ush, j_dupx2, List.take_succ_cons, List.take_zero, List.drop_succ_cons, List.drop_zero, List.reverse_cons, List.reverse_nil, Nat.le_refl, fL_minute_234, fL_minute_236, fL_minute_238, fL_minute_240, fL_minute_241, fL_minute_242, fL_minute_244, fL_minute_246, fL_minute_248, fL_minute_249, fL_minute_250, fL_minute_251, xvz_20, xvz_21, xvz_22, xvz_23, xvz_24, xvz_25, xvz_26, xvz_27, xvz_28, xvz_29, xrz_20, xrz_21, xrz_22, xrz_23, xrz_24, xrz_25, xrz_26, xrz_27, xrz_28, xrz_29, xdz_20, xdz_21, xdz_22, xdz_23, xdz_24, xdz_25, xdz_26, xdz_27, xdz_28, xdz_29, xlen, xcat, xc1, Nat.zero_le, Nat.reduceLeDiff, List.length_cons, List.length_nil, r3, ru, hlt, i0, i60, j4, j6, j7, j8, z0, zz, rx0, rx4, rt, hz, h44, ro, ho, xr_c (n := 0) rfl]
    refine yru_ok hC [340] 58 _ _ _ _ ?_
    simp only [ykk_ap, Int.reduceEq, Int.reduceLT, Int.reduceLE, Int.reduceNeg, Int.reduceAdd, Int.reduceSub, Int.reduceMul, and_self, false_and, and_false, not_true_eq_false, not_false_eq_true, true_implies, false_implies, xq0, xq1, xq2, xq3, xq4, xq5, xqR, xq1R, xq3R, xt1, xt2, xt3, List.mem_cons, List.not_mem_nil, or_false, false_or, or_self, if_false, if_true, reduceIte, reduceCtorEq, xent, xen, List.length_cons, List.length_nil, List.replicate, j_c, j_cJ, j_ild, j_ald, j_lld, j_ist, j_ast, j_lst, j_inc, j_add, j_sub, j_mul, j_neg, j_div, j_rem, j_and, j_shr, j_shl1, j_or, j_ladd, j_lsub, j_lmul, j_i2l, j_lcmp, j_i2c, j_dup, j_dup2, j_pop, j_goto, j_ieq, j_ine, j_ilt, j_ige, j_igt, j_ile, j_eq, j_ne, j_lt, j_ge, j_gt, j_le, xsw, j_tsw, j_gI, j_gJ, j_gR, j_pI, j_pJ, j_gs, j_iald, j_iast, j_cald, j_cast, j_aald, j_cpy, j_min, j_max, j_abs, j_iret, j_zret, j_lret, j_dret, j_ret0, j_V0, j_V1, j_V2, j_V3, j_V4, j_V5, j_S1, j_S2, j_S3, xget, xset, xset2, xclr, xc1, xcat, Nat.reduceAdd, Nat.reduceEqDiff, Nat.reduceLT, Nat.reduceLeDiff, Nat.reduceMul, List.cons_append, List.nil_append, true_and, and_true, List.singleton_append, j_lsw2, j_Sn, j_ush, j_dupx2, List.take_succ_cons, List.take_zero, List.drop_succ_cons, List.drop_zero, List.reverse_cons, List.reverse_nil, Nat.le_refl, fL_minute_265, fL_minute_267, fL_minute_269, fL_minute_271, fL_minute_272, fL_minute_273, fL_minute_274, fL_minute_276, fL_minute_278, fL_minute_279, fL_minute_280, fL_minute_281, fL_minute_282, fL_minute_283, fL_minute_285, fL_minute_287, fL_minute_289, fL_minute_290, fL_minute_291, fL_minute_292, fL_minute_294, fL_minute_296, fL_minute_297, fL_minute_298, fL_minute_299, fL_minute_301, fL_minute_303, fL_minute_304, fL_minute_305, fL_minute_306, fL_minute_307, fL_minute_308, fL_minute_309, fL_minute_311, fL_minute_313, fL_minute_314, fL_minute_315, fL_minute_316, fL_minute_317, fL_minute_319, fL_minute_321, fL_minute_322, fL_minute_323, fL_minute_324, fL_minute_325, fL_minute_326, fL_minute_327, fL_minute_329, fL_minute_330, fL_minute_331, fL_minute_333, fL_minute_335, fL_minute_336, fL_minute_337, fL_minute_338, fL_minute_339, xvz_20, xvz_21, xvz_22, xvz_23, xvz_24, xvz_25, xvz_26, xvz_27, xvz_28, xvz_29, xrz_20, xrz_21, xrz_22, xrz_23, xrz_24, xrz_25, xrz_26, xrz_27, xrz_28, xrz_29, xdz_20, xdz_21, xdz_22, xdz_23, xdz_24, xdz_25, xdz_26, xdz_27, xdz_28, xdz_29, xlen, xcat, xc1, Nat.zero_le, Nat.reduceLeDiff, List.length_cons, List.length_nil, j2, j3, j4, j5, j6, j7, j8, zz, xup_app, q, Nat.reduceEqDiff, Int.reduceEq]
    refine yru_ok hC [202] 4 _ _ _ _ ?_
    simp only [ykk_ap, Int.reduceEq, Int.reduceLT, Int.reduceLE, Int.reduceNeg, Int.reduceAdd, Int.reduceSub, Int.reduceMul, and_self, false_and, and_false, not_true_eq_false, not_false_eq_true, true_implies, false_implies, xq0, xq1, xq2, xq3, xq4, xq5, xqR, xq1R, xq3R, xt1, xt2, xt3, List.mem_cons, List.not_mem_nil, or_false, false_or, or_self, if_false, if_true, reduceIte, reduceCtorEq, xent, xen, List.length_cons, List.length_nil, List.replicate, j_c, j_cJ, j_ild, j_ald, j_lld, j_ist, j_ast, j_lst, j_inc, j_add, j_sub, j_mul, j_neg, j_div, j_rem, j_and, j_shr, j_shl1, j_or, j_ladd, j_lsub, j_lmul, j_i2l, j_lcmp, j_i2c, j_dup, j_dup2, j_pop, j_goto, j_ieq, j_ine, j_ilt, j_ige, j_igt, j_ile, j_eq, j_ne, j_lt, j_ge, j_gt, j_le, xsw, j_tsw, j_gI, j_gJ, j_gR, j_pI, j_pJ, j_gs, j_iald, j_iast, j_cald, j_cast, j_aald, j_cpy, j_min, j_max, j_abs, j_iret, j_zret, j_lret, j_dret, j_ret0, j_V0, j_V1, j_V2, j_V3, j_V4, j_V5, j_S1, j_S2, j_S3, xget, xset, xset2, xclr, xc1, xcat, Nat.reduceAdd, Nat.reduceEqDiff, Nat.reduceLT, Nat.reduceLeDiff, Nat.reduceMul, List.cons_append, List.nil_append, true_and, and_true, List.singleton_append, j_lsw2, j_Sn, j_ush, j_dupx2, List.take_succ_cons, List.take_zero, List.drop_succ_cons, List.drop_zero, List.reverse_cons, List.reverse_nil, Nat.le_refl, fL_minute_340, fL_minute_343, xvz_20, xvz_21, xvz_22, xvz_23, xvz_24, xvz_25, xvz_26, xvz_27, xvz_28, xvz_29, xrz_20, xrz_21, xrz_22, xrz_23, xrz_24, xrz_25, xrz_26, xrz_27, xrz_28, xrz_29, xdz_20, xdz_21, xdz_22, xdz_23, xdz_24, xdz_25, xdz_26, xdz_27, xdz_28, xdz_29, xlen, xcat, xc1, Nat.zero_le, Nat.reduceLeDiff, List.length_cons, List.length_nil, j2, j3, j4, j5, j6, j7, j8, zz, xup_app, q, Nat.reduceEqDiff, Int.reduceEq]
    refine fin _ ⟨fun t x y => ?_, fun s x => ?_, ?_, fun n => ?_⟩
    · rw [xup_tag x, xup_tag y, xup_tag y, xup_tag y]
    · rw [xup_app, if_neg (fun z => x z.2.2.2), xup_tag (by decide), xup_tag (by decide), xup_tag (by decide)]
    · rw [xup_app, if_pos ⟨rfl, rfl, rfl, rfl⟩]
    · rw [xup_tag (by decide), xup_row, xup_row, xup_row]
      simp only [sup_at, ho, and_false, if_false, h44]
set_option maxRecDepth 100000 in
theorem kL_min_D {Post : XPo} {WW : XK} (hC : XCl (xlk (pL_minute Post)) WW) {a w t n3 p18 : Int} {x9 : Option XV} (ht : t ≤ 2700) : ∀ (n : Nat) (u : Int) (G M : XM) (F : Int → Int) (T : Int), RY a (dU u) w G M F T → 0 ≤ u → u + n = n3 → M 20 0 0 3 = n3 → M 20 0 0 4 = t → M 20 0 0 18 = p18 → (∀ M' : XM, RY a (dU n3) w (xit (cal 0) n u G) M' F T → M' 20 0 0 4 = t → M' 20 0 0 18 = p18 → M' 20 0 0 3 = n3 → EQ M' M → WW 349 [some (xR 20 0 0), some (xR 22 0 0), some (xR 24 0 0), some (xR 25 0 0), some (xR 26 0 0), some (xR 27 0 0), some (xR 28 0 0), some (xR 29 0 0), some (xI 0), x9] [] M') → WW 202 [some (xR 20 0 0), some (xR 22 0 0), some (xR 24 0 0), some (xR 25 0 0), some (xR 26 0 0), some (xR 27 0 0), some (xR 28 0 0), some (xR 29 0 0), some (xI (12 * u)), x9] [] M := by
  intro n
  induction n with
  | zero =>
    intro u G M F T hR h0 hu h3 h4 h18 h
    have e : u = n3 := by omega
    subst e
    have hn := hR.1.2.2.2.2.1
    rw [h3] at hn
    have hb := h M hR h4 h18 h3 (EQ_refl M)
    have r3 : XInR (12 * u) := ⟨by omega, by omega⟩
    refine yru_ok hC [346, 213] 9 _ _ _ _ ?_
    simp only [ykk_ap, Int.reduceEq, Int.reduceLT, Int.reduceLE, Int.reduceNeg, Int.reduceAdd, Int.reduceSub, Int.reduceMul, and_self, false_and, and_false, not_true_eq_false, not_false_eq_true, true_implies, false_implies, xq0, xq1, xq2, xq3, xq4, xq5, xqR, xq1R, xq3R, xt1, xt2, xt3, List.mem_cons, List.not_mem_nil, or_false, false_or, or_self, if_false, if_true, reduceIte, reduceCtorEq, xent, xen, List.length_cons, List.length_nil, List.replicate, j_c, j_cJ, j_ild, j_ald, j_lld, j_ist, j_ast, j_lst, j_inc, j_add, j_sub, j_mul, j_neg, j_div, j_rem, j_and, j_shr, j_shl1, j_or, j_ladd, j_lsub, j_lmul, j_i2l, j_lcmp, j_i2c, j_dup, j_dup2, j_pop, j_goto, j_ieq, j_ine, j_ilt, j_ige, j_igt, j_ile, j_eq, j_ne, j_lt, j_ge, j_gt, j_le, xsw, j_tsw, j_gI, j_gJ, j_gR, j_pI, j_pJ, j_gs, j_iald, j_iast, j_cald, j_cast, j_aald, j_cpy, j_min, j_max, j_abs, j_iret, j_zret, j_lret, j_dret, j_ret0, j_V0, j_V1, j_V2, j_V3, j_V4, j_V5, j_S1, j_S2, j_S3, xget, xset, xset2, xclr, xc1, xcat, Nat.reduceAdd, Nat.reduceEqDiff, Nat.reduceLT, Nat.reduceLeDiff, Nat.reduceMul, List.cons_append, List.nil_append, true_and, and_true, List.singleton_append, j_lsw2, j_Sn, j_ush, j_dupx2, List.take_succ_cons, List.take_zero, List.drop_succ_cons, List.drop_zero, List.reverse_cons, List.reverse_nil, Nat.le_refl, fL_minute_202, fL_minute_204, fL_minute_206, fL_minute_207, fL_minute_208, fL_minute_209, fL_minute_210, xvz_20, xvz_21, xvz_22, xvz_23, xvz_24, xvz_25, xvz_26, xvz_27, xvz_28, xvz_29, xrz_20, xrz_21, xrz_22, xrz_23, xrz_24, xrz_25, xrz_26, xrz_27, xrz_28, xrz_29, xdz_20, xdz_21, xdz_22, xdz_23, xdz_24, xdz_25, xdz_26, xdz_27, xdz_28, xdz_29, xlen, xcat, xc1, Nat.zero_le, Nat.reduceLeDiff, List.length_cons, List.length_nil, r3, h3, Int.le_refl]
    refine yru_ok hC [349] 4 _ _ _ _ ?_
    simp only [ykk_ap, Int.reduceEq, Int.reduceLT, Int.reduceLE, Int.reduceNeg, Int.reduceAdd, Int.reduceSub, Int.reduceMul, and_self, false_and, and_false, not_true_eq_false, not_false_eq_true, true_implies, false_implies, xq0, xq1, xq2, xq3, xq4, xq5, xqR, xq1R, xq3R, xt1, xt2, xt3, List.mem_cons, List.not_mem_nil, or_false, false_or, or_self, if_false, if_true, reduceIte, reduceCtorEq, xent, xen, List.length_cons, List.length_nil, List.replicate, j_c, j_cJ, j_ild, j_ald, j_lld, j_ist, j_ast, j_lst, j_inc, j_add, j_sub, j_mul, j_neg, j_div, j_rem, j_and, j_shr, j_shl1, j_or, j_ladd, j_lsub, j_lmul, j_i2l, j_lcmp, j_i2c, j_dup, j_dup2, j_pop, j_goto, j_ieq, j_ine, j_ilt, j_ige, j_igt, j_ile, j_eq, j_ne, j_lt, j_ge, j_gt, j_le, xsw, j_tsw, j_gI, j_gJ, j_gR, j_pI, j_pJ, j_gs, j_iald, j_iast, j_cald, j_cast, j_aald, j_cpy, j_min, j_max, j_abs, j_iret, j_zret, j_lret, j_dret, j_ret0, j_V0, j_V1, j_V2, j_V3, j_V4, j_V5, j_S1, j_S2, j_S3, xget, xset, xset2, xclr, xc1, xcat, Nat.reduceAdd, Nat.reduceEqDiff, Nat.reduceLT, Nat.reduceLeDiff, Nat.reduceMul, List.cons_append, List.nil_append, true_and, and_true, List.singleton_append, j_lsw2, j_Sn, j_ush, j_dupx2, List.take_succ_cons, List.take_zero, List.drop_succ_cons, List.drop_zero, List.reverse_cons, List.reverse_nil, Nat.le_refl, fL_minute_346, fL_minute_347, xvz_20, xvz_21, xvz_22, xvz_23, xvz_24, xvz_25, xvz_26, xvz_27, xvz_28, xvz_29, xrz_20, xrz_21, xrz_22, xrz_23, xrz_24, xrz_25, xrz_26, xrz_27, xrz_28, xrz_29, xdz_20, xdz_21, xdz_22, xdz_23, xdz_24, xdz_25, xdz_26, xdz_27, xdz_28, xdz_29, xlen, xcat, xc1, Nat.zero_le, Nat.reduceLeDiff, List.length_cons, List.length_nil, r3, h3, Int.le_refl]
    exact hb
  | succ n ih =>
    intro u G M F T hR h0 hu h3 h4 h18 h
    refine kL_min_D1 hC hR h0 (by omega) (by omega) (fun M' hR' g3 g4 g18 gE => ?_)
    have hb := ih (u + 1) (cal 0 u G) M' F T hR' (by omega) (by omega) (by omega) (by omega) (by omega) (fun M2 b1 b2 b3 b4 b5 => h M2 b1 b2 b3 b4 (EQ_trans b5 gE))
    rw [show 12 * (u + 1) = 12 * u + 12 by omega] at hb
    exact hb
theorem pCall_x (G : XM) : pCall G 0 = xit (cal 0) (G 1 0 0 10).toNat 0 G := rfl
end XN3

