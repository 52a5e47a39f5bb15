section XN4
/-! a minute: units are served and punished -/
def pv (G : XM) (k : Int) : Int := if ¬ G 14 0 k 8 = -1 ∧ G 2 0 0 1 < G 1 0 0 0 - G 14 0 k 8 then min 100000000 (G 14 0 k 10 + (G 14 0 k 6 + G 14 0 k 7) * G 2 0 0 2) else G 14 0 k 10
/-- the film, its first j units punished already -/
def Gp (j : Int) (G : XM) : XM := fun t i k s => if t = 14 ∧ i = 0 ∧ s = 10 ∧ 0 ≤ k ∧ k < j then pv G k else G t i k s
theorem Gp_t {j : Int} {G : XM} {t : Nat} (h : ¬ t = 14) : Gp j G t = G t := by
  funext i k s
  unfold Gp
  rw [if_neg (fun z => h z.1)]
theorem Gp_s {j : Int} {G : XM} {k s : Int} (h : ¬ s = 10) : Gp j G 14 0 k s = G 14 0 k s := by
  unfold Gp
  rw [if_neg (fun z => h z.2.2.1)]
theorem Gp_10 {j : Int} {G : XM} {k : Int} (h : 0 ≤ k) : Gp j G 14 0 k 10 = if k < j then pv G k else G 14 0 k 10 := by
  unfold Gp
  by_cases c : k < j
  · rw [if_pos ⟨rfl, rfl, rfl, h, c⟩, if_pos c]
  · rw [if_neg (fun z => c z.2.2.2.2), if_neg c]
theorem uServe_at {s : Int} (hs : s = 6 ∨ s = 7) (N : XM) (u many v x : Int) : uServe s N 0 u many 14 0 v x = if v = u then (if x = s then N 14 0 u s - many else if x = 9 then N 14 0 u 9 + many else if x = 8 ∧ N 14 0 u 6 + N 14 0 u 7 - many = 0 then -1 else N 14 0 u x) else N 14 0 v x := by
  have e67 : (xup N 14 0 u s (N 14 0 u s - many)) 14 0 u 6 + (xup N 14 0 u s (N 14 0 u s - many)) 14 0 u 7 = N 14 0 u 6 + N 14 0 u 7 - many := by
    simp only [xup_app, true_and]
    rcases hs with rfl | rfl
    · simp only [Int.reduceEq, if_true, if_false]
      omega
    · simp only [Int.reduceEq, if_true, if_false]
      omega
  unfold uServe uNote
  rw [e67]
  by_cases ev : v = u
  · subst ev
    rw [if_pos rfl]
    by_cases z : N 14 0 v 6 + N 14 0 v 7 - many = 0
    · rw [if_pos z]
      simp only [xup_app, true_and, z, and_true]
      by_cases x8 : x = 8
      · subst x8
        rcases hs with rfl | rfl <;> simp
      · by_cases x9 : x = 9
        · subst x9
          rcases hs with rfl | rfl <;> simp
        · rcases hs with rfl | rfl <;> simp [x8, x9]
    · rw [if_neg z]
      simp only [xup_app, true_and, z, and_false, if_false]
      by_cases x9 : x = 9
      · subst x9
        rcases hs with rfl | rfl <;> simp
      · rcases hs with rfl | rfl <;> simp [x9]
  · rw [if_neg ev]
    split <;> simp only [xup_app, ev, true_and, false_and, and_false, if_false]
theorem sLs_0 {l p meat t : Int} (hm : meat = 0 ∨ meat = 1) {A : XM × Int} (h2 : A.2 = 0) (ht : A.1 1 0 0 0 = t) (hS : ∀ x : Int, 0 ≤ x → x < 192 → 0 ≤ A.1 11 0 (l + 3) x) : (sLs l p meat A).2 = 0 ∧ (∀ j x : Int, (sLs l p meat A).1 11 0 j x = A.1 11 0 j x) ∧ (sLs l p meat A).1 1 0 0 0 = t := by
  have e : tmR A.1 0 (l + 3) meat A.2 = (A.1 11 0 (l + 3), 0) := by
    unfold tmR
    rw [h2]
    exact tkL_0 _ _ (fun x hx => by rw [ht] at hx; have := ag_192 hm x hx; exact hS x this.1 this.2)
  unfold sLs
  by_cases c : A.1 13 0 l 0 = p
  · rw [if_pos c]
    refine ⟨by rw [e], fun j x => ?_, ?_⟩
    · dsimp only
      rw [xup_tag (by decide), e]
      simp only [mset_app, true_and, Nat.reduceEqDiff, false_and, if_false]
      split
      next z => rw [z]
      next => rfl
    · dsimp only
      rw [xup_tag (by decide), mset_tag (by decide) (by decide)]
      exact ht
  · rw [if_neg c]
    exact ⟨h2, fun _ _ => rfl, ht⟩
theorem sKs_0 {k p meat t : Int} (hm : meat = 0 ∨ meat = 1) {A : XM × Int} (h2 : A.2 = 0) (ht : A.1 1 0 0 0 = t) (hS : ∀ x : Int, 0 ≤ x → x < 192 → 0 ≤ A.1 11 0 k x) : (sKs k p meat A).2 = 0 ∧ (∀ j x : Int, (sKs k p meat A).1 11 0 j x = A.1 11 0 j x) ∧ (sKs k p meat A).1 1 0 0 0 = t := by
  have e : tmR A.1 0 k meat A.2 = (A.1 11 0 k, 0) := by
    unfold tmR
    rw [h2]
    exact tkL_0 _ _ (fun x hx => by rw [ht] at hx; have := ag_192 hm x hx; exact hS x this.1 this.2)
  unfold sKs
  by_cases c : A.1 8 0 k 0 = p
  · rw [if_pos c]
    refine ⟨by rw [e], fun j x => ?_, ?_⟩
    · dsimp only
      rw [e]
      simp only [mset_app, true_and, Nat.reduceEqDiff, false_and, if_false]
      split
      next z => rw [z]
      next => rfl
    · dsimp only
      rw [mset_tag (by decide) (by decide)]
      exact ht
  · rw [if_neg c]
    exact ⟨h2, fun _ _ => rfl, ht⟩
/-- none is owed: nothing is taken -/
theorem tM_0 {G : XM} {p meat t : Int} (hm : meat = 0 ∨ meat = 1) (h6 : G 1 0 0 6 = 2) (h8 : G 1 0 0 8 = 2) (ht : G 1 0 0 0 = t) (hS : ∀ j : Int, j = 0 ∨ j = 1 ∨ j = 3 ∨ j = 4 → ∀ x : Int, 0 ≤ x → x < 192 → 0 ≤ G 11 0 j x) : ∀ j x : Int, (tM G 0 p meat 0).1 11 0 j x = G 11 0 j x := by
  rw [tM_2 h6 h8]
  have a := sLs_0 (l := 0) (p := p) hm (A := (G, 0)) rfl ht (hS 3 (by decide))
  have b := sLs_0 (l := 1) (p := p) hm (A := sLs 0 p meat (G, 0)) a.1 a.2.2 (fun x x0 x1 => by rw [a.2.1]; exact hS 4 (by decide) x x0 x1)
  have c := sKs_0 (k := 0) (p := p) hm (A := sLs 1 p meat (sLs 0 p meat (G, 0))) b.1 b.2.2 (fun x x0 x1 => by rw [b.2.1, a.2.1]; exact hS 0 (by decide) x x0 x1)
  have d := sKs_0 (k := 1) (p := p) hm (A := sKs 0 p meat (sLs 1 p meat (sLs 0 p meat (G, 0)))) c.1 c.2.2 (fun x x0 x1 => by rw [c.2.1, b.2.1, a.2.1]; exact hS 1 (by decide) x x0 x1)
  intro j x
  rw [d.2.1, c.2.1, b.2.1, a.2.1]
/-- while the unit is served: the film H, the law's rows M' -/
def RV (t u : Int) (G M H M' : XM) (F' : Int → Int) (T T' : Int) : Prop :=
  (∀ t' : Nat, ¬ t' = 11 → ¬ t' = 12 → ¬ t' = 13 → ¬ t' = 14 → H t' = G t') ∧ (∀ l s : Int, ¬ s = 4 → H 13 0 l s = G 13 0 l s) ∧ (∀ v s : Int, ¬ v = u → H 14 0 v s = G 14 0 v s) ∧ (∀ s : Int, ¬ s = 6 → ¬ s = 7 → ¬ s = 8 → ¬ s = 9 → H 14 0 u s = G 14 0 u s) ∧
  H 14 0 u 9 + H 14 0 u 6 + H 14 0 u 7 = G 14 0 u 9 + G 14 0 u 6 + G 14 0 u 7 ∧ (0 ≤ H 14 0 u 6 ∧ 0 ≤ H 14 0 u 7 ∧ G 14 0 u 9 ≤ H 14 0 u 9) ∧ (H 14 0 u 8 = if H 14 0 u 6 + H 14 0 u 7 = 0 then -1 else G 14 0 u 8) ∧
  vSame M M' ∧ (∀ n : Int, M' 28 0 0 n = if n = 12 * u + 6 then H 14 0 u 6 else if n = 12 * u + 7 then H 14 0 u 7 else if n = 12 * u + 9 then H 14 0 u 9 else M 28 0 0 n) ∧ M' 20 0 0 14 = M 20 0 0 14 + (H 14 0 u 9 - G 14 0 u 9) ∧ M' 20 0 0 12 ≤ M 20 0 0 12 ∧ BM M' F' T' ∧ T' ≤ T ∧ rS 40 t H F' ∧
  (G 14 0 u 6 + G 14 0 u 7 = 0 → ∀ j x : Int, H 11 0 j x = G 11 0 j x)
theorem RV_sv {t u : Int} {G M H M' M'' : XM} {F' F'' : Int → Int} {T T' T'' s meat w : Int} (hs : s = 6 ∨ s = 7) (hm : meat = 0 ∨ meat = 1) (h6 : G 1 0 0 6 = 2) (h8 : G 1 0 0 8 = 2) (ht : G 1 0 0 0 = t) (hw : H 14 0 u s = w) (h : RV t u G M H M' F' T T') (hJ : vJ H M' t T' (12 * u) s w (tM H 0 (H 14 0 u 1) meat w).1 M'' F'' T'' (tM H 0 (H 14 0 u 1) meat w).2) : RV t u G M (sv s meat 0 u H) M'' F'' T T'' := by
  obtain ⟨a1, a2, a3, a4, a5, a6, a7, a8, a9, a10, a11, a12, a13, a14, a15⟩ := h
  obtain ⟨j1, j2, j3, j4, j5, j6⟩ := hJ
  have ht0 := tM_0 (G := H) (p := H 14 0 u 1) (meat := meat) (t := t) hm (by rw [a1 1 (by decide) (by decide) (by decide) (by decide)]; exact h6) (by rw [a1 1 (by decide) (by decide) (by decide) (by decide)]; exact h8) (by rw [a1 1 (by decide) (by decide) (by decide) (by decide)]; exact ht) (fun j hj x x0 x1 => by rw [a14.2 j hj x x0 x1]; exact (BR_F a12 _).1)
  obtain ⟨N, hN⟩ : ∃ N : XM, N = (tM H 0 (H 14 0 u 1) meat w).1 := ⟨_, rfl⟩
  obtain ⟨w', hw'⟩ : ∃ w' : Int, w' = (tM H 0 (H 14 0 u 1) meat w).2 := ⟨_, rfl⟩
  have hsv : sv s meat 0 u H = uServe s N 0 u (w - w') := by
    unfold sv
    rw [hw, ← hN, ← hw']
  rw [← hN] at j4 j6
  rw [← hw'] at j1 j3 j5
  have n14 : ∀ v x : Int, N 14 0 v x = H 14 0 v x := fun v x => by rw [j6.1 14 (by decide) (by decide) (by decide)]
  have q : ∀ v x : Int, sv s meat 0 u H 14 0 v x = if v = u then (if x = s then H 14 0 u s - (w - w') else if x = 9 then H 14 0 u 9 + (w - w') else if x = 8 ∧ H 14 0 u 6 + H 14 0 u 7 - (w - w') = 0 then -1 else H 14 0 u x) else H 14 0 v x := fun v x => by
    rw [hsv, uServe_at hs]
    simp only [n14]
  have qt : ∀ t' : Nat, ¬ t' = 14 → sv s meat 0 u H t' = N t' := fun t' z => by rw [hsv]; exact uServe_tag z
  have s6 : sv s meat 0 u H 14 0 u 6 + sv s meat 0 u H 14 0 u 7 = H 14 0 u 6 + H 14 0 u 7 - (w - w') ∧ 0 ≤ sv s meat 0 u H 14 0 u 6 ∧ 0 ≤ sv s meat 0 u H 14 0 u 7 := by
    rw [q u 6, q u 7, if_pos rfl, if_pos rfl]
    rcases hs with rfl | rfl
    · rw [if_pos rfl, if_neg (by decide), if_neg (by decide), if_neg (by omega)]
      omega
    · rw [if_neg (by decide), if_neg (by decide), if_neg (by omega), if_pos rfl]
      omega
  have s9 : sv s meat 0 u H 14 0 u 9 = H 14 0 u 9 + (w - w') := by rw [q, if_pos rfl, if_neg (by omega), if_pos rfl]
  refine ⟨fun t' b c d e => by rw [qt t' e, j6.1 t' b c d, a1 t' b c d e], fun l x hx => by rw [qt 13 (by decide), j6.2 l x hx, a2 l x hx], fun v x hv => by rw [q, if_neg hv, a3 v x hv], fun x x6 x7 x8 x9 => ?_, by omega, by omega, ?_, vSame_trans a8 j1.1, fun n => ?_, ?_, ?_, j2, by omega, ⟨j4.1, fun j hj x x0 x1 => by rw [qt 11 (by decide)]; exact j4.2 j hj x x0 x1⟩, fun z j x => ?_⟩
  · rw [q, if_pos rfl, if_neg (by omega), if_neg x9, if_neg (fun z => x8 z.1), a4 x x6 x7 x8 x9]
  · rw [s6.1, q, if_pos rfl, if_neg (by omega), if_neg (by decide), a7]
    simp only [true_and]
    by_cases z : H 14 0 u 6 + H 14 0 u 7 - (w - w') = 0
    · rw [if_pos z, if_pos z]
    · rw [if_neg z, if_neg z, if_neg (by omega)]
  · have n96 : ¬ 12 * u + 9 = 12 * u + 6 := by omega
    have n97 : ¬ 12 * u + 9 = 12 * u + 7 := by omega
    have n76 : ¬ 12 * u + 7 = 12 * u + 6 := by omega
    rcases hs with rfl | rfl
    · have y6 : sv 6 meat 0 u H 14 0 u 6 = H 14 0 u 6 - (w - w') := by rw [q, if_pos rfl, if_pos rfl]
      have y7 : sv 6 meat 0 u H 14 0 u 7 = H 14 0 u 7 := by rw [q, if_pos rfl, if_neg (by decide), if_neg (by decide), if_neg (fun z => absurd z.1 (by decide))]
      rw [j1.2.1 n, a9 n, a9 (12 * u + 6), a9 (12 * u + 9), s9, y6, y7]
      by_cases e6 : n = 12 * u + 6
      · simp only [e6, if_true]
      · by_cases e9 : n = 12 * u + 9
        · simp only [e9, n96, n97, if_true, if_false]
        · by_cases e7 : n = 12 * u + 7
          · simp only [e7, n76, if_true, if_false, show ¬ 12 * u + 7 = 12 * u + 9 by omega]
          · simp only [e6, e7, e9, if_false]
    · have y6 : sv 7 meat 0 u H 14 0 u 6 = H 14 0 u 6 := by rw [q, if_pos rfl, if_neg (by decide), if_neg (by decide), if_neg (fun z => absurd z.1 (by decide))]
      have y7 : sv 7 meat 0 u H 14 0 u 7 = H 14 0 u 7 - (w - w') := by rw [q, if_pos rfl, if_pos rfl]
      rw [j1.2.1 n, a9 n, a9 (12 * u + 7), a9 (12 * u + 9), s9, y6, y7]
      by_cases e6 : n = 12 * u + 6
      · simp only [e6, if_true, if_false, show ¬ 12 * u + 6 = 12 * u + 7 by omega, show ¬ 12 * u + 6 = 12 * u + 9 by omega]
      · by_cases e9 : n = 12 * u + 9
        · simp only [e9, n96, n97, if_true, if_false]
        · by_cases e7 : n = 12 * u + 7
          · simp only [e7, n76, if_true, if_false]
          · simp only [e6, e7, e9, if_false]
  · rw [j1.2.2.1, a10, s9]
    omega
  · have := j1.2.2.2
    omega
  · have hw0 : w = 0 := by rw [← hw]; rcases hs with rfl | rfl <;> omega
    rw [qt 11 (by decide), hN, hw0, ht0]
    exact a15 z j x
/-- the unit's row behind it all -/
def RE (u e : Int) (M H M' M'' : XM) : Prop := (∀ t : Nat, ¬ t = 20 → ¬ t = 28 → M'' t = M' t) ∧ (∀ s : Int, ¬ s = 18 → M'' 20 0 0 s = M' 20 0 0 s) ∧ M'' 20 0 0 18 = M 20 0 0 18 + e ∧ ∀ n : Int, M'' 28 0 0 n = if n = 12 * u + 8 then H 14 0 u 8 else if n = 12 * u + 10 then pv H u else M' 28 0 0 n
theorem rY_srv {a u : Int} {G M H M' M'' : XM} {F F' : Int → Int} {T T' : Int} (h : RY a (fun _ => 1) 40 (Gp u G) M F T) (h0 : 0 ≤ u) (h1 : u < M 20 0 0 3) (hz : xU M u 0 = 0) (hV : RV (M 20 0 0 4) u G M H M' F' T T') (hE : RE u (pv H u - G 14 0 u 10) M H M' M'') (hp : 0 ≤ pv H u) : RY a (fun _ => 1) 40 (Gp (u + 1) H) M'' F' T' := by
  have hu5 : u < 5 := by have := h.1.2.2.2.2.1; omega
  have hpu := rU_p h.2.2.2.2.1 h0 hu5
  obtain ⟨q1, q2, q3, q4, q5, q6, q7, q8, q9⟩ := h
  obtain ⟨a1, a2, a3, a4, a5, a6, a7, a8, a9, a10, a11, a12, a13, a14, a15⟩ := hV
  obtain ⟨r1, r2, r3, r4⟩ := hE
  obtain ⟨⟨b0, b9, b10, b11⟩, b, ⟨c4a, c4b⟩, ⟨d9, d10, d11⟩, e, f⟩ := (q5 u h0 hu5).1 h1
  rw [Gp_s (by decide)] at b0 b9 b11
  rw [Gp_10 h0, if_neg (by omega)] at b10
  obtain ⟨e1, e2, e3, e4, e5, e6, e7, e8, e9⟩ := e hz
  have e1' : ∀ s : Int, 1 ≤ s → s ≤ 8 → G 14 0 u s = xU M u s := fun s s0 s1 => by
    have := e1 s s0 s1
    rw [Gp_s (by omega)] at this
    exact this
  have w6 := e1' 6 (by decide) (by decide)
  have w7 := e1' 7 (by decide) (by decide)
  have w8 := e1' 8 (by decide) (by decide)
  have g : ∀ t : Nat, ¬ t = 11 → ¬ t = 12 → ¬ t = 13 → ¬ t = 14 → Gp (u + 1) H t = Gp u G t := fun t x y z w => by rw [Gp_t w, Gp_t w, a1 t x y z w]
  have m : ∀ t : Nat, ¬ t = 20 → ¬ t = 28 → ¬ t = 29 → M'' t = M t := fun t x y z => by rw [r1 t x y, a8.1 t x y z]
  have m20 : ∀ s : Int, ¬ s = 12 → ¬ s = 14 → ¬ s = 18 → M'' 20 0 0 s = M 20 0 0 s := fun s x y z => by rw [r2 s z, a8.2 s x y]
  have g13 : ∀ l s : Int, ¬ s = 4 → Gp (u + 1) H 13 0 l s = Gp u G 13 0 l s := fun l s z => by rw [Gp_t (by decide), Gp_t (by decide), a2 l s z]
  have gn : ∀ v s : Int, 0 ≤ v → ¬ v = u → Gp (u + 1) H 14 0 v s = Gp u G 14 0 v s := fun v s v0 ev => by
    by_cases s10 : s = 10
    · subst s10
      rw [Gp_10 v0, Gp_10 v0]
      have epv : pv H v = pv G v := by
        unfold pv
        rw [a3 v 8 ev, a3 v 10 ev, a3 v 6 ev, a3 v 7 ev, a1 1 (by decide) (by decide) (by decide) (by decide), a1 2 (by decide) (by decide) (by decide) (by decide)]
      rw [epv, a3 v 10 ev]
      by_cases c : v < u
      · rw [if_pos c, if_pos (by omega)]
      · rw [if_neg c, if_neg (by omega)]
    · rw [Gp_s s10, Gp_s s10, a3 v s ev]
  have gu : ∀ s : Int, ¬ s = 10 → Gp (u + 1) H 14 0 u s = H 14 0 u s := fun s z => Gp_s z
  have gu10 : Gp (u + 1) H 14 0 u 10 = pv H u := by rw [Gp_10 h0, if_pos (by omega)]
  have xn : ∀ v s : Int, 0 ≤ s → s < 12 → ¬ v = u → xU M'' v s = xU M v s := fun v s s0 s1 z => by
    unfold xU
    rw [r4, if_neg (by omega), if_neg (by omega), a9, if_neg (by omega), if_neg (by omega), if_neg (by omega)]
  have xu : ∀ s : Int, xU M'' u s = if s = 8 then H 14 0 u 8 else if s = 10 then pv H u else if s = 6 then H 14 0 u 6 else if s = 7 then H 14 0 u 7 else if s = 9 then H 14 0 u 9 else xU M u s := fun s => by
    rw [show xU M'' u s = M'' 28 0 0 (12 * u + s) from rfl, r4, a9]
    simp only [show (12 * u + s = 12 * u + 8) = (s = 8) from by simp only [eq_iff_iff]; omega, show (12 * u + s = 12 * u + 10) = (s = 10) from by simp only [eq_iff_iff]; omega, show (12 * u + s = 12 * u + 6) = (s = 6) from by simp only [eq_iff_iff]; omega, show (12 * u + s = 12 * u + 7) = (s = 7) from by simp only [eq_iff_iff]; omega, show (12 * u + s = 12 * u + 9) = (s = 9) from by simp only [eq_iff_iff]; omega]
    rfl
  have k4 : M'' 20 0 0 4 = M 20 0 0 4 := m20 4 (by decide) (by decide) (by decide)
  have m18 := r3
  have m14 : M'' 20 0 0 14 = M 20 0 0 14 + (H 14 0 u 9 - G 14 0 u 9) := by rw [r2 14 (by decide), a10]
  refine ⟨rC_c (fun s z => by rw [g 1 (by decide) (by decide) (by decide) (by decide)]) (g 2 (by decide) (by decide) (by decide) (by decide)) (by rw [g 15 (by decide) (by decide) (by decide) (by decide)]) (fun s z => by
      by_cases s12 : s = 12
      · omega
      · exact m20 s s12 (by omega) (by omega)) q1, rP_c (g 3 (by decide) (by decide) (by decide) (by decide)) (g 4 (by decide) (by decide) (by decide) (by decide)) (m20 0 (by decide) (by decide) (by decide)) (m 21 (by decide) (by decide) (by decide)) q2, fun k b c => rK1_c (fun s _ => by rw [g 8 (by decide) (by decide) (by decide) (by decide)]) (fun x => by rw [g 9 (by decide) (by decide) (by decide) (by decide)]) (m20 0 (by decide) (by decide) (by decide)) (by rw [m 22 (by decide) (by decide) (by decide)]) (fun x _ _ => by rw [m 23 (by decide) (by decide) (by decide)]) (by rw [m 24 (by decide) (by decide) (by decide)]) (by rw [m 25 (by decide) (by decide) (by decide)]) (q3 k b c), fun l b c => rL1_c (fun s z => g13 l s (by omega)) (m20 0 (by decide) (by decide) (by decide)) (by rw [m 26 (by decide) (by decide) (by decide)]) (by rw [m 27 (by decide) (by decide) (by decide)]) (q4 l b c), fun v v0 v5 => ?_, ?_, BM_c (r2 12 (by decide)) (r1 29 (by decide) (by decide)) a12, ?_, ?_⟩
  · rw [m20 3 (by decide) (by decide) (by decide)]
    obtain ⟨p1, p2⟩ := q5 v v0 v5
    by_cases ev : v = u
    · subst ev
      refine ⟨fun _ => ?_, fun z => by omega⟩
      unfold rU1
      rw [k4, m20 0 (by decide) (by decide) (by decide)]
      have y0 : xU M'' v 0 = xU M v 0 := by rw [xu 0]; rfl
      have y1 : xU M'' v 1 = xU M v 1 := by rw [xu 1]; rfl
      have y2 : xU M'' v 2 = xU M v 2 := by rw [xu 2]; rfl
      have y3 : xU M'' v 3 = xU M v 3 := by rw [xu 3]; rfl
      have y4 : xU M'' v 4 = xU M v 4 := by rw [xu 4]; rfl
      have y5 : xU M'' v 5 = xU M v 5 := by rw [xu 5]; rfl
      have y6 : xU M'' v 6 = H 14 0 v 6 := by rw [xu 6, if_neg (by decide), if_neg (by decide), if_pos rfl]
      have y7 : xU M'' v 7 = H 14 0 v 7 := by rw [xu 7, if_neg (by decide), if_neg (by decide), if_neg (by decide), if_pos rfl]
      have y8 : xU M'' v 8 = H 14 0 v 8 := by rw [xu 8, if_pos rfl]
      have y9 : xU M'' v 9 = H 14 0 v 9 := by rw [xu 9, if_neg (by decide), if_neg (by decide), if_neg (by decide), if_neg (by decide), if_pos rfl]
      have y10 : xU M'' v 10 = pv H v := by rw [xu 10, if_neg (by decide), if_pos rfl]
      have y11 : xU M'' v 11 = xU M v 11 := by rw [xu 11]; rfl
      rw [gu 0 (by decide), gu 9 (by decide), gu10, gu 11 (by decide), y0, y9, y10, y11, y1, y2, y3, y4, y5, y6, y7, y8, a4 0 (by decide) (by decide) (by decide) (by decide), a4 11 (by decide) (by decide) (by decide) (by decide)]
      refine ⟨⟨b0, rfl, rfl, b11⟩, b, ⟨c4a, c4b⟩, ⟨by omega, hp, d11⟩, fun _ => ⟨fun s s0 s1 => ?_, e2, e3, e4, e5, ⟨a6.1, a6.2.1⟩, ?_, ?_, e9⟩, fun z => absurd hz z⟩
      · rw [gu s (by omega), xu]
        split
        next z => rw [z]
        next => split
                · omega
                · split
                  next z => rw [z]
                  next => split
                          next z => rw [z]
                          next => split
                                  next z => rw [z]
                                  next n8 _ n6 n7 n9 => rw [a4 s n6 n7 n8 n9]; exact e1' s s0 s1
      · rw [a7]
        by_cases z : H 14 0 v 6 + H 14 0 v 7 = 0
        · rw [if_pos z]
          omega
        · rw [if_neg z]
          have : ¬ xU M v 8 = -1 := fun z8 => by
            have := e7.mp z8
            omega
          omega
      · rw [a7]
        by_cases z : H 14 0 v 6 + H 14 0 v 7 = 0
        · rw [if_pos z]
          omega
        · rw [if_neg z]
          omega
    · refine ⟨fun z => rU1_c (fun s _ _ => gn v s v0 ev) (m20 0 (by decide) (by decide) (by decide)) k4 (fun s s0 s1 => xn v s s0 s1 ev) (p1 z), fun z => rU0_c (fun s _ _ => gn v s v0 ev) (p2 z)⟩
  · obtain ⟨t1, t2, t3, t4, t5, t6, t7⟩ := q6
    unfold rT
    rw [m20 13 (by decide) (by decide) (by decide), m14, m20 15 (by decide) (by decide) (by decide), m20 16 (by decide) (by decide) (by decide), m20 17 (by decide) (by decide) (by decide), m18, g 8 (by decide) (by decide) (by decide) (by decide), g13 0 5 (by decide), g13 1 5 (by decide), g 1 (by decide) (by decide) (by decide) (by decide)]
    have z9 := s5_one (f := fun v => Gp u G 14 0 v 9) (g := fun v => Gp (u + 1) H 14 0 v 9) h0 hu5 (fun v v0 _ ev => gn v 9 v0 ev)
    have z10 := s5_one (f := fun v => Gp u G 14 0 v 10) (g := fun v => Gp (u + 1) H 14 0 v 10) h0 hu5 (fun v v0 _ ev => gn v 10 v0 ev)
    have z11 := s5_one (f := fun v => Gp u G 14 0 v 11) (g := fun v => Gp (u + 1) H 14 0 v 11) h0 hu5 (fun v v0 _ ev => gn v 11 v0 ev)
    have zG := s5_one (f := uG (Gp u G) 0) (g := uG (Gp (u + 1) H) 0) h0 hu5 (fun v v0 _ ev => by
      unfold uG
      rw [gn v 9 v0 ev, gn v 6 v0 ev, gn v 7 v0 ev, gn v 11 v0 ev])
    unfold uG at zG
    rw [gu 9 (by decide), gu 6 (by decide), gu 7 (by decide), gu 11 (by decide), Gp_s (by decide), Gp_s (by decide), Gp_s (by decide), Gp_s (by decide), a4 11 (by decide) (by decide) (by decide) (by decide)] at zG
    rw [gu 9 (by decide), Gp_s (by decide)] at z9
    rw [gu 11 (by decide), Gp_s (by decide), a4 11 (by decide) (by decide) (by decide) (by decide)] at z11
    rw [gu10, Gp_10 h0, if_neg (by omega)] at z10
    refine ⟨t1, by omega, t3, t4, by omega, by omega, ?_⟩
    rw [t7]
    unfold uG
    omega
  · rw [k4]
    exact ⟨a14.1, fun j hj x x0 x1 => by rw [Gp_t (by decide)]; exact a14.2 j hj x x0 x1⟩
  · obtain ⟨l1, l2, l3, l4, l5, l6⟩ := q9
    unfold rB
    rw [m20 13 (by decide) (by decide) (by decide), m20 15 (by decide) (by decide) (by decide), m20 16 (by decide) (by decide) (by decide), m20 3 (by decide) (by decide) (by decide), r2 12 (by decide), m 25 (by decide) (by decide) (by decide)]
    refine ⟨l1, l2, by omega, by omega, ?_, ?_⟩
    · rw [s5_congr (f := fun v => if v < M 20 0 0 3 then xU M'' v 4 else 0) (g := fun v => if v < M 20 0 0 3 then xU M v 4 else 0) (fun v _ _ => by
        by_cases ev : v = u
        · rw [ev, xu 4]; rfl
        · rw [xn v 4 (by decide) (by decide) ev])]
      exact l5
    · rw [s5_congr (f := fun v => Gp (u + 1) H 14 0 v 2) (g := fun v => Gp u G 14 0 v 2) (fun v v0 _ => by
        by_cases ev : v = u
        · rw [ev, gu 2 (by decide), Gp_s (by decide), a4 2 (by decide) (by decide) (by decide) (by decide)]
        · exact gn v 2 v0 ev)]
      exact l6
end XN4

