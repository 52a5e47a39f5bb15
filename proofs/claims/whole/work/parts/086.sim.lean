section XSm
/-! the class's reader and the reference's -/
def uT (C : XM) : Tu := (C 18 0 0 1, C 19 0 0 0, max 0 (C 19 0 0 1), C 19 0 0 2, C 19 0 0 3)
def RS (C N : XM) : Prop :=
  (N 20 0 0 11 = 0 ∧ C 18 0 0 0 = 4 ∧ N 20 0 0 10 = -1 ∧ C 19 0 0 0 = -1 ∧ C 19 0 0 1 = -1 ∧ C 19 0 0 2 = -1 ∧ C 19 0 0 3 = -1) ∨
  (N 20 0 0 11 = 1 ∧ C 18 0 0 0 = 5 ∧ N 20 0 0 10 = -1 ∧ C 19 0 0 0 = -1 ∧ C 19 0 0 1 = -1 ∧ C 19 0 0 2 = -1 ∧ C 19 0 0 3 = -1 ∧ N 24 0 0 (5 * N 20 0 0 9) = C 18 0 0 1 ∧ (0 ≤ C 18 0 0 1 ∧ C 18 0 0 1 ≤ 7) ∧ N 24 0 0 (5 * N 20 0 0 9 + 2) = 0) ∨
  (N 20 0 0 11 = 2 ∧ C 18 0 0 0 = 0 ∧ N 20 0 0 10 = C 19 0 0 0 ∧ (N 20 0 0 10 = -1 ∨ (1 ≤ N 20 0 0 10 ∧ N 20 0 0 10 ≤ 300)) ∧ C 19 0 0 1 = -1 ∧ C 19 0 0 2 = -1 ∧ C 19 0 0 3 = -1 ∧ N 24 0 0 (5 * N 20 0 0 9) = C 18 0 0 1 ∧ (0 ≤ C 18 0 0 1 ∧ C 18 0 0 1 ≤ 7) ∧ N 24 0 0 (5 * N 20 0 0 9 + 2) = 0) ∨
  (N 20 0 0 11 = 3 ∧ C 18 0 0 0 = 1 ∧ N 20 0 0 10 = C 19 0 0 1 ∧ (-1 ≤ N 20 0 0 10 ∧ N 20 0 0 10 ≤ 300) ∧ C 19 0 0 2 = -1 ∧ C 19 0 0 3 = -1 ∧ N 24 0 0 (5 * N 20 0 0 9) = C 18 0 0 1 ∧ (0 ≤ C 18 0 0 1 ∧ C 18 0 0 1 ≤ 7) ∧ N 24 0 0 (5 * N 20 0 0 9 + 1) = C 19 0 0 0 ∧ (1 ≤ C 19 0 0 0 ∧ C 19 0 0 0 ≤ 300)) ∨
  (N 20 0 0 11 = 4 ∧ C 18 0 0 0 = 2 ∧ N 20 0 0 10 = C 19 0 0 2 ∧ (N 20 0 0 10 = -1 ∨ (1 ≤ N 20 0 0 10 ∧ N 20 0 0 10 ≤ 600)) ∧ C 19 0 0 3 = -1 ∧ N 24 0 0 (5 * N 20 0 0 9) = C 18 0 0 1 ∧ (0 ≤ C 18 0 0 1 ∧ C 18 0 0 1 ≤ 7) ∧ N 24 0 0 (5 * N 20 0 0 9 + 1) = C 19 0 0 0 ∧ (1 ≤ C 19 0 0 0 ∧ C 19 0 0 0 ≤ 300) ∧ N 24 0 0 (5 * N 20 0 0 9 + 2) = max 0 (C 19 0 0 1) ∧ (-1 ≤ C 19 0 0 1 ∧ C 19 0 0 1 ≤ 300)) ∨
  (N 20 0 0 11 = 5 ∧ C 18 0 0 0 = 3 ∧ N 20 0 0 10 = C 19 0 0 3 ∧ (N 20 0 0 10 = -1 ∨ (1 ≤ N 20 0 0 10 ∧ N 20 0 0 10 ≤ 600)) ∧ N 24 0 0 (5 * N 20 0 0 9) = C 18 0 0 1 ∧ (0 ≤ C 18 0 0 1 ∧ C 18 0 0 1 ≤ 7) ∧ N 24 0 0 (5 * N 20 0 0 9 + 1) = C 19 0 0 0 ∧ (1 ≤ C 19 0 0 0 ∧ C 19 0 0 0 ≤ 300) ∧ N 24 0 0 (5 * N 20 0 0 9 + 2) = max 0 (C 19 0 0 1) ∧ (-1 ≤ C 19 0 0 1 ∧ C 19 0 0 1 ≤ 300) ∧ N 24 0 0 (5 * N 20 0 0 9 + 3) = C 19 0 0 2 ∧ (1 ≤ C 19 0 0 2 ∧ C 19 0 0 2 ≤ 600))
/-- a digit -/
theorem dg_eq {N : XM} {p d c : Int} (hp : (p = 0 ∧ d = 2) ∨ (p = 1 ∧ d = 3) ∨ (p = 2 ∧ d = 4) ∨ (p = 3 ∧ d = 5)) (hd : N 20 0 0 11 = d) (hn : -1 ≤ N 20 0 0 10) (h0 : ¬ p = 1 → ¬ N 20 0 0 10 = 0) : rDg p (N 20 0 0 10) c ↔ tdb N (c - 48) := by
  unfold rDg tdb rNo tdV LST MST
  rw [hd]
  rcases hp with ⟨rfl, rfl⟩ | ⟨rfl, rfl⟩ | ⟨rfl, rfl⟩ | ⟨rfl, rfl⟩
  all_goals
    simp only [Int.reduceEq, Int.reduceLT, Int.reduceLE, if_true, if_false, or_false, or_true, and_true, true_and, and_false, not_false_eq_true, true_implies] at h0 ⊢
    by_cases q : N 20 0 0 10 = -1
    · rw [if_pos q]
      omega
    · rw [if_neg q]
      omega
theorem rdB_4 {C : XM} {c : Int} (h : C 18 0 0 0 = 4) : rdB C c = if 48 ≤ c ∧ c ≤ 55 then 1 else 0 := by
  unfold rdB
  rw [if_pos h]
theorem rdB_n {C : XM} {c : Int} (h : ¬ C 18 0 0 0 = 4) : rdB C c = if rDg (C 18 0 0 0) (C 19 0 0 (C 18 0 0 0)) c then 1 else if rNx C c = -1 then 0 else 1 := by
  unfold rdB
  rw [if_neg h]
theorem rdM_n {C : XM} {c : Int} (h : ¬ C 18 0 0 0 = 4) : rdM C c = if rDg (C 18 0 0 0) (C 19 0 0 (C 18 0 0 0)) c then xup C 19 0 0 (C 18 0 0 0) (rNo (C 19 0 0 (C 18 0 0 0)) c) else if rNx C c = -1 then C else rSg C c := by
  unfold rdM
  rw [if_neg h]
theorem tdR_p {N : XM} {x : Int} (h : tdb N x) : tdR N x = (1, xup N 20 0 0 10 (tdV N x)) := by
  unfold tdR
  rw [if_pos h]
theorem tdR_n {N : XM} {x : Int} (h : ¬ tdb N x) : tdR N x = (0, N) := by
  unfold tdR
  rw [if_neg h]
theorem ix5 (R : Int) : R + 2 - 1 = R + 1 ∧ R + 3 - 1 = R + 2 ∧ R + 4 - 1 = R + 3 ∧ R + 5 - 1 = R + 4 := by omega
theorem ne5 (R : Int) : (¬ R = R + 1) ∧ (¬ R = R + 2) ∧ (¬ R = R + 3) ∧ (¬ R = R + 4) ∧ (¬ R + 1 = R) ∧ (¬ R + 1 = R + 2) ∧ (¬ R + 1 = R + 3) ∧ (¬ R + 1 = R + 4) ∧ (¬ R + 2 = R) ∧ (¬ R + 2 = R + 1) ∧ (¬ R + 2 = R + 3) ∧ (¬ R + 2 = R + 4) ∧ (¬ R + 3 = R) ∧ (¬ R + 3 = R + 1) ∧ (¬ R + 3 = R + 2) ∧ (¬ R + 3 = R + 4) ∧ (¬ R + 4 = R) ∧ (¬ R + 4 = R + 1) ∧ (¬ R + 4 = R + 2) ∧ (¬ R + 4 = R + 3) := by omega
/-- what a step says -/
def stOK (C N : XM) (c : Int) : Prop := rdB C c = (tkR N c).1 ∧ ((tkR N c).1 = 1 → (¬ c = 44 → RS (rdM C c) (tkR N c).2 ∧ (tkR N c).2 20 0 0 9 = N 20 0 0 9 ∧ ∀ x : Int, x < 5 * N 20 0 0 9 → (tkR N c).2 24 0 0 x = N 24 0 0 x) ∧ (c = 44 → RS (rdM C c) (tkR N c).2 ∧ (tkR N c).2 20 0 0 9 = N 20 0 0 9 + 1 ∧ PA (tkR N c).2 (N 20 0 0 9) (uT C) ∧ tuOK (uT C) ∧ ∀ x : Int, x < 5 * N 20 0 0 9 → (tkR N c).2 24 0 0 x = N 24 0 0 x))
theorem st_no {C N : XM} {c : Int} (h1 : rdB C c = 0) (h2 : (tkR N c).1 = 0) : stOK C N c := ⟨by rw [h1, h2], fun q => absurd (h2.symm.trans q) (by decide)⟩
theorem st_yes {C N C' N' : XM} {c : Int} (h1 : rdB C c = 1) (h2 : tkR N c = (1, N')) (h3 : rdM C c = C') (hc : ¬ c = 44) (hr : RS C' N') (h9 : N' 20 0 0 9 = N 20 0 0 9) (h24 : ∀ x : Int, x < 5 * N 20 0 0 9 → N' 24 0 0 x = N 24 0 0 x) : stOK C N c := by
  unfold stOK
  rw [h1, h2, h3]
  exact ⟨rfl, fun _ => ⟨fun _ => ⟨hr, h9, h24⟩, fun z => absurd z hc⟩⟩
theorem RS_0 {C N : XM} {c : Int} (hd : N 20 0 0 11 = 0) (hp : C 18 0 0 0 = 4) (hn : N 20 0 0 10 = -1) (a0 : C 19 0 0 0 = -1) (a1 : C 19 0 0 1 = -1) (a2 : C 19 0 0 2 = -1) (a3 : C 19 0 0 3 = -1) : stOK C N c := by
  have n5 := ne5 (5 * N 20 0 0 9)
  have x5 := ix5 (5 * N 20 0 0 9)
  have e1 := rdB_4 (c := c) hp
  by_cases q : 48 ≤ c ∧ c ≤ 55
  · rw [if_pos q] at e1
    have e2 : tkR N c = (1, tpM N (c - 48)) := by
      unfold tkR
      rw [if_pos hd, if_pos (by omega)]
    have e3 : rdM C c = xup (xup C 18 0 0 1 (c - 48)) 18 0 0 0 5 := by
      unfold rdM
      rw [if_pos hp, if_pos q]
    refine st_yes e1 e2 e3 (by omega) ?_ ?_ ?_
    · refine Or.inr (Or.inl ?_)
      unfold tpM
      simp only [xup_app, Nat.reduceEqDiff, Int.reduceEq, true_and, and_true, false_and, and_false, and_self, true_or, or_true, if_true, if_false, n5.1, n5.2.1, n5.2.2.1, n5.2.2.2.1, n5.2.2.2.2.1, n5.2.2.2.2.2.1, n5.2.2.2.2.2.2.1, n5.2.2.2.2.2.2.2.1, n5.2.2.2.2.2.2.2.2.1, n5.2.2.2.2.2.2.2.2.2.1, n5.2.2.2.2.2.2.2.2.2.2.1, n5.2.2.2.2.2.2.2.2.2.2.2.1, n5.2.2.2.2.2.2.2.2.2.2.2.2.1, n5.2.2.2.2.2.2.2.2.2.2.2.2.2.1, n5.2.2.2.2.2.2.2.2.2.2.2.2.2.2.1, n5.2.2.2.2.2.2.2.2.2.2.2.2.2.2.2.1, n5.2.2.2.2.2.2.2.2.2.2.2.2.2.2.2.2.1, n5.2.2.2.2.2.2.2.2.2.2.2.2.2.2.2.2.2.1, n5.2.2.2.2.2.2.2.2.2.2.2.2.2.2.2.2.2.2.1, n5.2.2.2.2.2.2.2.2.2.2.2.2.2.2.2.2.2.2.2, x5.1, x5.2.1, x5.2.2.1, x5.2.2.2]
      omega
    · unfold tpM
      simp only [xup_app, Nat.reduceEqDiff, Int.reduceEq, true_and, and_true, false_and, and_false, and_self, true_or, or_true, if_true, if_false, n5.1, n5.2.1, n5.2.2.1, n5.2.2.2.1, n5.2.2.2.2.1, n5.2.2.2.2.2.1, n5.2.2.2.2.2.2.1, n5.2.2.2.2.2.2.2.1, n5.2.2.2.2.2.2.2.2.1, n5.2.2.2.2.2.2.2.2.2.1, n5.2.2.2.2.2.2.2.2.2.2.1, n5.2.2.2.2.2.2.2.2.2.2.2.1, n5.2.2.2.2.2.2.2.2.2.2.2.2.1, n5.2.2.2.2.2.2.2.2.2.2.2.2.2.1, n5.2.2.2.2.2.2.2.2.2.2.2.2.2.2.1, n5.2.2.2.2.2.2.2.2.2.2.2.2.2.2.2.1, n5.2.2.2.2.2.2.2.2.2.2.2.2.2.2.2.2.1, n5.2.2.2.2.2.2.2.2.2.2.2.2.2.2.2.2.2.1, n5.2.2.2.2.2.2.2.2.2.2.2.2.2.2.2.2.2.2.1, n5.2.2.2.2.2.2.2.2.2.2.2.2.2.2.2.2.2.2.2, x5.1, x5.2.1, x5.2.2.1, x5.2.2.2]
    · unfold tpM
      intro x hx
      have y0 : ¬ x = 5 * N 20 0 0 9 := by omega
      have y1 : ¬ x = 5 * N 20 0 0 9 + 1 := by omega
      have y2 : ¬ x = 5 * N 20 0 0 9 + 2 := by omega
      have y3 : ¬ x = 5 * N 20 0 0 9 + 3 := by omega
      have y4 : ¬ x = 5 * N 20 0 0 9 + 4 := by omega
      simp only [xup_app, Nat.reduceEqDiff, Int.reduceEq, true_and, and_true, false_and, and_false, and_self, true_or, or_true, if_true, if_false, n5.1, n5.2.1, n5.2.2.1, n5.2.2.2.1, n5.2.2.2.2.1, n5.2.2.2.2.2.1, n5.2.2.2.2.2.2.1, n5.2.2.2.2.2.2.2.1, n5.2.2.2.2.2.2.2.2.1, n5.2.2.2.2.2.2.2.2.2.1, n5.2.2.2.2.2.2.2.2.2.2.1, n5.2.2.2.2.2.2.2.2.2.2.2.1, n5.2.2.2.2.2.2.2.2.2.2.2.2.1, n5.2.2.2.2.2.2.2.2.2.2.2.2.2.1, n5.2.2.2.2.2.2.2.2.2.2.2.2.2.2.1, n5.2.2.2.2.2.2.2.2.2.2.2.2.2.2.2.1, n5.2.2.2.2.2.2.2.2.2.2.2.2.2.2.2.2.1, n5.2.2.2.2.2.2.2.2.2.2.2.2.2.2.2.2.2.1, n5.2.2.2.2.2.2.2.2.2.2.2.2.2.2.2.2.2.2.1, n5.2.2.2.2.2.2.2.2.2.2.2.2.2.2.2.2.2.2.2, x5.1, x5.2.1, x5.2.2.1, x5.2.2.2, y0, y1, y2, y3, y4]
  · rw [if_neg q] at e1
    refine st_no e1 ?_
    unfold tkR
    rw [if_pos hd, if_neg (by omega)]
theorem RS_1 {C N : XM} {c : Int} (hd : N 20 0 0 11 = 1) (hp : C 18 0 0 0 = 5) (hn : N 20 0 0 10 = -1) (a0 : C 19 0 0 0 = -1) (a1 : C 19 0 0 1 = -1) (a2 : C 19 0 0 2 = -1) (a3 : C 19 0 0 3 = -1) (hl : N 24 0 0 (5 * N 20 0 0 9) = C 18 0 0 1) (hl2 : 0 ≤ C 18 0 0 1 ∧ C 18 0 0 1 ≤ 7) (hg : N 24 0 0 (5 * N 20 0 0 9 + 2) = 0) : stOK C N c := by
  have n5 := ne5 (5 * N 20 0 0 9)
  have x5 := ix5 (5 * N 20 0 0 9)
  have hp4 : ¬ C 18 0 0 0 = 4 := by omega
  have ndg : ¬ rDg (C 18 0 0 0) (C 19 0 0 (C 18 0 0 0)) c := fun z => by
    have := z.1
    omega
  have e1 := rdB_n (c := c) hp4
  have e3 := rdM_n (c := c) hp4
  rw [if_neg ndg] at e1 e3
  have ex : rNx C c = if c = 58 then 0 else -1 := by
    unfold rNx
    rw [if_pos hp]
  by_cases q : c = 58
  · rw [if_pos q] at ex
    have ey : ¬ rNx C c = -1 := by rw [ex]; decide
    rw [if_neg ey] at e1 e3
    unfold rSg at e3
    rw [ex, if_neg (by decide)] at e3
    have e2 : tkR N c = (1, xup N 20 0 0 11 2) := by
      unfold tkR
      rw [if_neg (by omega), if_pos hd, if_pos q]
    refine st_yes e1 e2 e3 (by omega) ?_ ?_ ?_
    · refine Or.inr (Or.inr (Or.inl ?_))
      simp only [xup_app, Nat.reduceEqDiff, Int.reduceEq, true_and, and_true, false_and, and_false, and_self, true_or, or_true, if_true, if_false, n5.1, n5.2.1, n5.2.2.1, n5.2.2.2.1, n5.2.2.2.2.1, n5.2.2.2.2.2.1, n5.2.2.2.2.2.2.1, n5.2.2.2.2.2.2.2.1, n5.2.2.2.2.2.2.2.2.1, n5.2.2.2.2.2.2.2.2.2.1, n5.2.2.2.2.2.2.2.2.2.2.1, n5.2.2.2.2.2.2.2.2.2.2.2.1, n5.2.2.2.2.2.2.2.2.2.2.2.2.1, n5.2.2.2.2.2.2.2.2.2.2.2.2.2.1, n5.2.2.2.2.2.2.2.2.2.2.2.2.2.2.1, n5.2.2.2.2.2.2.2.2.2.2.2.2.2.2.2.1, n5.2.2.2.2.2.2.2.2.2.2.2.2.2.2.2.2.1, n5.2.2.2.2.2.2.2.2.2.2.2.2.2.2.2.2.2.1, n5.2.2.2.2.2.2.2.2.2.2.2.2.2.2.2.2.2.2.1, n5.2.2.2.2.2.2.2.2.2.2.2.2.2.2.2.2.2.2.2, x5.1, x5.2.1, x5.2.2.1, x5.2.2.2]
      omega
    · simp only [xup_app, Nat.reduceEqDiff, Int.reduceEq, true_and, and_true, false_and, and_false, and_self, true_or, or_true, if_true, if_false, n5.1, n5.2.1, n5.2.2.1, n5.2.2.2.1, n5.2.2.2.2.1, n5.2.2.2.2.2.1, n5.2.2.2.2.2.2.1, n5.2.2.2.2.2.2.2.1, n5.2.2.2.2.2.2.2.2.1, n5.2.2.2.2.2.2.2.2.2.1, n5.2.2.2.2.2.2.2.2.2.2.1, n5.2.2.2.2.2.2.2.2.2.2.2.1, n5.2.2.2.2.2.2.2.2.2.2.2.2.1, n5.2.2.2.2.2.2.2.2.2.2.2.2.2.1, n5.2.2.2.2.2.2.2.2.2.2.2.2.2.2.1, n5.2.2.2.2.2.2.2.2.2.2.2.2.2.2.2.1, n5.2.2.2.2.2.2.2.2.2.2.2.2.2.2.2.2.1, n5.2.2.2.2.2.2.2.2.2.2.2.2.2.2.2.2.2.1, n5.2.2.2.2.2.2.2.2.2.2.2.2.2.2.2.2.2.2.1, n5.2.2.2.2.2.2.2.2.2.2.2.2.2.2.2.2.2.2.2, x5.1, x5.2.1, x5.2.2.1, x5.2.2.2]
    · intro x hx
      have y0 : ¬ x = 5 * N 20 0 0 9 := by omega
      have y1 : ¬ x = 5 * N 20 0 0 9 + 1 := by omega
      have y2 : ¬ x = 5 * N 20 0 0 9 + 2 := by omega
      have y3 : ¬ x = 5 * N 20 0 0 9 + 3 := by omega
      have y4 : ¬ x = 5 * N 20 0 0 9 + 4 := by omega
      simp only [xup_app, Nat.reduceEqDiff, Int.reduceEq, true_and, and_true, false_and, and_false, and_self, true_or, or_true, if_true, if_false, n5.1, n5.2.1, n5.2.2.1, n5.2.2.2.1, n5.2.2.2.2.1, n5.2.2.2.2.2.1, n5.2.2.2.2.2.2.1, n5.2.2.2.2.2.2.2.1, n5.2.2.2.2.2.2.2.2.1, n5.2.2.2.2.2.2.2.2.2.1, n5.2.2.2.2.2.2.2.2.2.2.1, n5.2.2.2.2.2.2.2.2.2.2.2.1, n5.2.2.2.2.2.2.2.2.2.2.2.2.1, n5.2.2.2.2.2.2.2.2.2.2.2.2.2.1, n5.2.2.2.2.2.2.2.2.2.2.2.2.2.2.1, n5.2.2.2.2.2.2.2.2.2.2.2.2.2.2.2.1, n5.2.2.2.2.2.2.2.2.2.2.2.2.2.2.2.2.1, n5.2.2.2.2.2.2.2.2.2.2.2.2.2.2.2.2.2.1, n5.2.2.2.2.2.2.2.2.2.2.2.2.2.2.2.2.2.2.1, n5.2.2.2.2.2.2.2.2.2.2.2.2.2.2.2.2.2.2.2, x5.1, x5.2.1, x5.2.2.1, x5.2.2.2, y0, y1, y2, y3, y4]
  · rw [if_neg q] at ex
    rw [if_pos ex] at e1
    refine st_no e1 ?_
    unfold tkR
    rw [if_neg (by omega), if_pos hd, if_neg q]
theorem RS_2 {C N : XM} {c : Int} (hd : N 20 0 0 11 = 2) (hp : C 18 0 0 0 = 0) (hn : N 20 0 0 10 = C 19 0 0 0) (hb : N 20 0 0 10 = -1 ∨ (1 ≤ N 20 0 0 10 ∧ N 20 0 0 10 ≤ 300)) (a1 : C 19 0 0 1 = -1) (a2 : C 19 0 0 2 = -1) (a3 : C 19 0 0 3 = -1) (hl : N 24 0 0 (5 * N 20 0 0 9) = C 18 0 0 1) (hl2 : 0 ≤ C 18 0 0 1 ∧ C 18 0 0 1 ≤ 7) (hg : N 24 0 0 (5 * N 20 0 0 9 + 2) = 0) : stOK C N c := by
  have n5 := ne5 (5 * N 20 0 0 9)
  have x5 := ix5 (5 * N 20 0 0 9)
  have hp4 : ¬ C 18 0 0 0 = 4 := by omega
  have dg := dg_eq (N := N) (p := 0) (d := 2) (c := c) (by omega) hd (by omega) (by omega)
  have e1 := rdB_n (c := c) hp4
  have e3 := rdM_n (c := c) hp4
  rw [hp, ← hn] at e1 e3
  have hw : rWh C ↔ 1 ≤ N 20 0 0 10 := by
    unfold rWh LST
    rw [hp, ← hn]
    simp only [Int.reduceEq, Int.reduceLT, if_true, if_false, true_and]
  have ex : rNx C c = if ¬ rWh C then -1 else (if c = 103 then 1 else if c = 64 then 2 else -1) := by
    unfold rNx
    simp only [hp, Int.reduceEq, if_true, if_false]
  by_cases q0 : c = 103
  · have ndg : ¬ rDg 0 (N 20 0 0 10) c := fun z => by
      have := z.2.2.1
      have := z.2.1
      omega
    have ntd : ¬ tdb N (c - 48) := fun z => ndg (dg.mpr z)
    rw [if_neg ndg] at e1 e3
    by_cases w : rWh C
    · have w2 := hw.mp w
      rw [if_neg (fun z => z w)] at ex
      rw [if_pos q0] at ex
      have ey : ¬ rNx C c = -1 := by rw [ex]; decide
      rw [if_neg ey] at e1 e3
      unfold rSg at e3
      rw [ex, if_neg (by decide)] at e3
      have e2 : tkR N c = (1, enM N 3) := by
        unfold tkR
        simp only [hd, Int.reduceEq, if_false, if_true]
        rw [if_pos ⟨by omega, q0⟩]
      refine st_yes e1 e2 e3 (by omega) ?_ ?_ ?_
      · refine Or.inr (Or.inr (Or.inr (Or.inl ?_)))
        unfold enM
        rw [hd]
        simp only [xup_app, Nat.reduceEqDiff, Int.reduceEq, true_and, and_true, false_and, and_false, and_self, true_or, or_true, if_true, if_false, n5.1, n5.2.1, n5.2.2.1, n5.2.2.2.1, n5.2.2.2.2.1, n5.2.2.2.2.2.1, n5.2.2.2.2.2.2.1, n5.2.2.2.2.2.2.2.1, n5.2.2.2.2.2.2.2.2.1, n5.2.2.2.2.2.2.2.2.2.1, n5.2.2.2.2.2.2.2.2.2.2.1, n5.2.2.2.2.2.2.2.2.2.2.2.1, n5.2.2.2.2.2.2.2.2.2.2.2.2.1, n5.2.2.2.2.2.2.2.2.2.2.2.2.2.1, n5.2.2.2.2.2.2.2.2.2.2.2.2.2.2.1, n5.2.2.2.2.2.2.2.2.2.2.2.2.2.2.2.1, n5.2.2.2.2.2.2.2.2.2.2.2.2.2.2.2.2.1, n5.2.2.2.2.2.2.2.2.2.2.2.2.2.2.2.2.2.1, n5.2.2.2.2.2.2.2.2.2.2.2.2.2.2.2.2.2.2.1, n5.2.2.2.2.2.2.2.2.2.2.2.2.2.2.2.2.2.2.2, x5.1, x5.2.1, x5.2.2.1, x5.2.2.2]
        omega
      · unfold enM
        rw [hd]
        simp only [xup_app, Nat.reduceEqDiff, Int.reduceEq, true_and, and_true, false_and, and_false, and_self, true_or, or_true, if_true, if_false, n5.1, n5.2.1, n5.2.2.1, n5.2.2.2.1, n5.2.2.2.2.1, n5.2.2.2.2.2.1, n5.2.2.2.2.2.2.1, n5.2.2.2.2.2.2.2.1, n5.2.2.2.2.2.2.2.2.1, n5.2.2.2.2.2.2.2.2.2.1, n5.2.2.2.2.2.2.2.2.2.2.1, n5.2.2.2.2.2.2.2.2.2.2.2.1, n5.2.2.2.2.2.2.2.2.2.2.2.2.1, n5.2.2.2.2.2.2.2.2.2.2.2.2.2.1, n5.2.2.2.2.2.2.2.2.2.2.2.2.2.2.1, n5.2.2.2.2.2.2.2.2.2.2.2.2.2.2.2.1, n5.2.2.2.2.2.2.2.2.2.2.2.2.2.2.2.2.1, n5.2.2.2.2.2.2.2.2.2.2.2.2.2.2.2.2.2.1, n5.2.2.2.2.2.2.2.2.2.2.2.2.2.2.2.2.2.2.1, n5.2.2.2.2.2.2.2.2.2.2.2.2.2.2.2.2.2.2.2, x5.1, x5.2.1, x5.2.2.1, x5.2.2.2]
      · unfold enM
        rw [hd]
        intro x hx
        have y0 : ¬ x = 5 * N 20 0 0 9 := by omega
        have y1 : ¬ x = 5 * N 20 0 0 9 + 1 := by omega
        have y2 : ¬ x = 5 * N 20 0 0 9 + 2 := by omega
        have y3 : ¬ x = 5 * N 20 0 0 9 + 3 := by omega
        have y4 : ¬ x = 5 * N 20 0 0 9 + 4 := by omega
        simp only [xup_app, Nat.reduceEqDiff, Int.reduceEq, true_and, and_true, false_and, and_false, and_self, true_or, or_true, if_true, if_false, n5.1, n5.2.1, n5.2.2.1, n5.2.2.2.1, n5.2.2.2.2.1, n5.2.2.2.2.2.1, n5.2.2.2.2.2.2.1, n5.2.2.2.2.2.2.2.1, n5.2.2.2.2.2.2.2.2.1, n5.2.2.2.2.2.2.2.2.2.1, n5.2.2.2.2.2.2.2.2.2.2.1, n5.2.2.2.2.2.2.2.2.2.2.2.1, n5.2.2.2.2.2.2.2.2.2.2.2.2.1, n5.2.2.2.2.2.2.2.2.2.2.2.2.2.1, n5.2.2.2.2.2.2.2.2.2.2.2.2.2.2.1, n5.2.2.2.2.2.2.2.2.2.2.2.2.2.2.2.1, n5.2.2.2.2.2.2.2.2.2.2.2.2.2.2.2.2.1, n5.2.2.2.2.2.2.2.2.2.2.2.2.2.2.2.2.2.1, n5.2.2.2.2.2.2.2.2.2.2.2.2.2.2.2.2.2.2.1, n5.2.2.2.2.2.2.2.2.2.2.2.2.2.2.2.2.2.2.2, x5.1, x5.2.1, x5.2.2.1, x5.2.2.2, y0, y1, y2, y3, y4]
    · rw [if_pos w] at ex
      rw [if_pos ex] at e1
      refine st_no e1 ?_
      have w2 : ¬ 1 ≤ N 20 0 0 10 := fun z => w (hw.mpr z)
      unfold tkR
      simp only [hd, Int.reduceEq, if_false, if_true]
      rw [if_neg (fun z => absurd z.1 (by omega))]
      rw [if_neg (fun z => absurd z.1 (by omega))]
      rw [tdR_n ntd]
  by_cases q1 : c = 64
  · have ndg : ¬ rDg 0 (N 20 0 0 10) c := fun z => by
      have := z.2.2.1
      have := z.2.1
      omega
    have ntd : ¬ tdb N (c - 48) := fun z => ndg (dg.mpr z)
    rw [if_neg ndg] at e1 e3
    by_cases w : rWh C
    · have w2 := hw.mp w
      rw [if_neg (fun z => z w)] at ex
      rw [if_neg q0] at ex
      rw [if_pos q1] at ex
      have ey : ¬ rNx C c = -1 := by rw [ex]; decide
      rw [if_neg ey] at e1 e3
      unfold rSg at e3
      rw [ex, if_neg (by decide)] at e3
      have e2 : tkR N c = (1, enM N 4) := by
        unfold tkR
        simp only [hd, Int.reduceEq, if_false, if_true]
        rw [if_neg (fun z => q0 z.2)]
        rw [if_pos ⟨by omega, q1⟩]
      refine st_yes e1 e2 e3 (by omega) ?_ ?_ ?_
      · refine Or.inr (Or.inr (Or.inr (Or.inr (Or.inl ?_))))
        unfold enM
        rw [hd]
        simp only [xup_app, Nat.reduceEqDiff, Int.reduceEq, true_and, and_true, false_and, and_false, and_self, true_or, or_true, if_true, if_false, n5.1, n5.2.1, n5.2.2.1, n5.2.2.2.1, n5.2.2.2.2.1, n5.2.2.2.2.2.1, n5.2.2.2.2.2.2.1, n5.2.2.2.2.2.2.2.1, n5.2.2.2.2.2.2.2.2.1, n5.2.2.2.2.2.2.2.2.2.1, n5.2.2.2.2.2.2.2.2.2.2.1, n5.2.2.2.2.2.2.2.2.2.2.2.1, n5.2.2.2.2.2.2.2.2.2.2.2.2.1, n5.2.2.2.2.2.2.2.2.2.2.2.2.2.1, n5.2.2.2.2.2.2.2.2.2.2.2.2.2.2.1, n5.2.2.2.2.2.2.2.2.2.2.2.2.2.2.2.1, n5.2.2.2.2.2.2.2.2.2.2.2.2.2.2.2.2.1, n5.2.2.2.2.2.2.2.2.2.2.2.2.2.2.2.2.2.1, n5.2.2.2.2.2.2.2.2.2.2.2.2.2.2.2.2.2.2.1, n5.2.2.2.2.2.2.2.2.2.2.2.2.2.2.2.2.2.2.2, x5.1, x5.2.1, x5.2.2.1, x5.2.2.2]
        omega
      · unfold enM
        rw [hd]
        simp only [xup_app, Nat.reduceEqDiff, Int.reduceEq, true_and, and_true, false_and, and_false, and_self, true_or, or_true, if_true, if_false, n5.1, n5.2.1, n5.2.2.1, n5.2.2.2.1, n5.2.2.2.2.1, n5.2.2.2.2.2.1, n5.2.2.2.2.2.2.1, n5.2.2.2.2.2.2.2.1, n5.2.2.2.2.2.2.2.2.1, n5.2.2.2.2.2.2.2.2.2.1, n5.2.2.2.2.2.2.2.2.2.2.1, n5.2.2.2.2.2.2.2.2.2.2.2.1, n5.2.2.2.2.2.2.2.2.2.2.2.2.1, n5.2.2.2.2.2.2.2.2.2.2.2.2.2.1, n5.2.2.2.2.2.2.2.2.2.2.2.2.2.2.1, n5.2.2.2.2.2.2.2.2.2.2.2.2.2.2.2.1, n5.2.2.2.2.2.2.2.2.2.2.2.2.2.2.2.2.1, n5.2.2.2.2.2.2.2.2.2.2.2.2.2.2.2.2.2.1, n5.2.2.2.2.2.2.2.2.2.2.2.2.2.2.2.2.2.2.1, n5.2.2.2.2.2.2.2.2.2.2.2.2.2.2.2.2.2.2.2, x5.1, x5.2.1, x5.2.2.1, x5.2.2.2]
      · unfold enM
        rw [hd]
        intro x hx
        have y0 : ¬ x = 5 * N 20 0 0 9 := by omega
        have y1 : ¬ x = 5 * N 20 0 0 9 + 1 := by omega
        have y2 : ¬ x = 5 * N 20 0 0 9 + 2 := by omega
        have y3 : ¬ x = 5 * N 20 0 0 9 + 3 := by omega
        have y4 : ¬ x = 5 * N 20 0 0 9 + 4 := by omega
        simp only [xup_app, Nat.reduceEqDiff, Int.reduceEq, true_and, and_true, false_and, and_false, and_self, true_or, or_true, if_true, if_false, n5.1, n5.2.1, n5.2.2.1, n5.2.2.2.1, n5.2.2.2.2.1, n5.2.2.2.2.2.1, n5.2.2.2.2.2.2.1, n5.2.2.2.2.2.2.2.1, n5.2.2.2.2.2.2.2.2.1, n5.2.2.2.2.2.2.2.2.2.1, n5.2.2.2.2.2.2.2.2.2.2.1, n5.2.2.2.2.2.2.2.2.2.2.2.1, n5.2.2.2.2.2.2.2.2.2.2.2.2.1, n5.2.2.2.2.2.2.2.2.2.2.2.2.2.1, n5.2.2.2.2.2.2.2.2.2.2.2.2.2.2.1, n5.2.2.2.2.2.2.2.2.2.2.2.2.2.2.2.1, n5.2.2.2.2.2.2.2.2.2.2.2.2.2.2.2.2.1, n5.2.2.2.2.2.2.2.2.2.2.2.2.2.2.2.2.2.1, n5.2.2.2.2.2.2.2.2.2.2.2.2.2.2.2.2.2.2.1, n5.2.2.2.2.2.2.2.2.2.2.2.2.2.2.2.2.2.2.2, x5.1, x5.2.1, x5.2.2.1, x5.2.2.2, y0, y1, y2, y3, y4]
    · rw [if_pos w] at ex
      rw [if_pos ex] at e1
      refine st_no e1 ?_
      have w2 : ¬ 1 ≤ N 20 0 0 10 := fun z => w (hw.mpr z)
      unfold tkR
      simp only [hd, Int.reduceEq, if_false, if_true]
      rw [if_neg (fun z => absurd z.1 (by omega))]
      rw [if_neg (fun z => absurd z.1 (by omega))]
      rw [tdR_n ntd]
  have ch : ∀ z, rNx C c = z → z = -1 := fun z e => by
    rw [ex] at e
    split at e
    · exact e.symm
    · first
      | exact e.symm
      | rw [if_neg q0, if_neg q1] at e
        exact e.symm
  have ex2 := ch _ rfl
  have e2 : tkR N c = tdR N (c - 48) := by
    unfold tkR
    simp only [hd, Int.reduceEq, if_false, if_true]
    rw [if_neg (fun z => q0 z.2), if_neg (fun z => q1 z.2)]
  by_cases g : tdb N (c - 48)
  · have rd := dg.mpr g
    rw [if_pos rd] at e1 e3
    rw [tdR_p g] at e2
    have v := tdR_1 (M := N) (x := c - 48) (by omega) (by rw [tdR_p g])
    obtain ⟨v, v1, v2, v3, v4, v5, v6, -⟩ := v
    have ev : rNo (N 20 0 0 10) c = v := by
      rw [v6]
      rfl
    rw [ev] at e3
    rw [← v6] at e2
    rw [hd] at v3 v5
    simp only [Int.reduceEq, Int.reduceLT, if_true, if_false, not_false_eq_true, not_true_eq_false, true_implies, false_implies] at v3 v5
    refine st_yes e1 e2 e3 (by have := g.1; omega) ?_ ?_ ?_
    · refine Or.inr (Or.inr (Or.inl ?_))
      simp only [xup_app, Nat.reduceEqDiff, Int.reduceEq, true_and, and_true, false_and, and_false, and_self, true_or, or_true, if_true, if_false, n5.1, n5.2.1, n5.2.2.1, n5.2.2.2.1, n5.2.2.2.2.1, n5.2.2.2.2.2.1, n5.2.2.2.2.2.2.1, n5.2.2.2.2.2.2.2.1, n5.2.2.2.2.2.2.2.2.1, n5.2.2.2.2.2.2.2.2.2.1, n5.2.2.2.2.2.2.2.2.2.2.1, n5.2.2.2.2.2.2.2.2.2.2.2.1, n5.2.2.2.2.2.2.2.2.2.2.2.2.1, n5.2.2.2.2.2.2.2.2.2.2.2.2.2.1, n5.2.2.2.2.2.2.2.2.2.2.2.2.2.2.1, n5.2.2.2.2.2.2.2.2.2.2.2.2.2.2.2.1, n5.2.2.2.2.2.2.2.2.2.2.2.2.2.2.2.2.1, n5.2.2.2.2.2.2.2.2.2.2.2.2.2.2.2.2.2.1, n5.2.2.2.2.2.2.2.2.2.2.2.2.2.2.2.2.2.2.1, n5.2.2.2.2.2.2.2.2.2.2.2.2.2.2.2.2.2.2.2, x5.1, x5.2.1, x5.2.2.1, x5.2.2.2]
      omega
    · simp only [xup_app, Nat.reduceEqDiff, Int.reduceEq, true_and, and_true, false_and, and_false, and_self, true_or, or_true, if_true, if_false, n5.1, n5.2.1, n5.2.2.1, n5.2.2.2.1, n5.2.2.2.2.1, n5.2.2.2.2.2.1, n5.2.2.2.2.2.2.1, n5.2.2.2.2.2.2.2.1, n5.2.2.2.2.2.2.2.2.1, n5.2.2.2.2.2.2.2.2.2.1, n5.2.2.2.2.2.2.2.2.2.2.1, n5.2.2.2.2.2.2.2.2.2.2.2.1, n5.2.2.2.2.2.2.2.2.2.2.2.2.1, n5.2.2.2.2.2.2.2.2.2.2.2.2.2.1, n5.2.2.2.2.2.2.2.2.2.2.2.2.2.2.1, n5.2.2.2.2.2.2.2.2.2.2.2.2.2.2.2.1, n5.2.2.2.2.2.2.2.2.2.2.2.2.2.2.2.2.1, n5.2.2.2.2.2.2.2.2.2.2.2.2.2.2.2.2.2.1, n5.2.2.2.2.2.2.2.2.2.2.2.2.2.2.2.2.2.2.1, n5.2.2.2.2.2.2.2.2.2.2.2.2.2.2.2.2.2.2.2, x5.1, x5.2.1, x5.2.2.1, x5.2.2.2]
    · intro x hx
      have y0 : ¬ x = 5 * N 20 0 0 9 := by omega
      have y1 : ¬ x = 5 * N 20 0 0 9 + 1 := by omega
      have y2 : ¬ x = 5 * N 20 0 0 9 + 2 := by omega
      have y3 : ¬ x = 5 * N 20 0 0 9 + 3 := by omega
      have y4 : ¬ x = 5 * N 20 0 0 9 + 4 := by omega
      simp only [xup_app, Nat.reduceEqDiff, Int.reduceEq, true_and, and_true, false_and, and_false, and_self, true_or, or_true, if_true, if_false, n5.1, n5.2.1, n5.2.2.1, n5.2.2.2.1, n5.2.2.2.2.1, n5.2.2.2.2.2.1, n5.2.2.2.2.2.2.1, n5.2.2.2.2.2.2.2.1, n5.2.2.2.2.2.2.2.2.1, n5.2.2.2.2.2.2.2.2.2.1, n5.2.2.2.2.2.2.2.2.2.2.1, n5.2.2.2.2.2.2.2.2.2.2.2.1, n5.2.2.2.2.2.2.2.2.2.2.2.2.1, n5.2.2.2.2.2.2.2.2.2.2.2.2.2.1, n5.2.2.2.2.2.2.2.2.2.2.2.2.2.2.1, n5.2.2.2.2.2.2.2.2.2.2.2.2.2.2.2.1, n5.2.2.2.2.2.2.2.2.2.2.2.2.2.2.2.2.1, n5.2.2.2.2.2.2.2.2.2.2.2.2.2.2.2.2.2.1, n5.2.2.2.2.2.2.2.2.2.2.2.2.2.2.2.2.2.2.1, n5.2.2.2.2.2.2.2.2.2.2.2.2.2.2.2.2.2.2.2, x5.1, x5.2.1, x5.2.2.1, x5.2.2.2, y0, y1, y2, y3, y4]
  · rw [if_neg (fun z => g (dg.mp z)), if_pos ex2] at e1
    refine st_no e1 ?_
    rw [e2, tdR_n g]
theorem RS_3 {C N : XM} {c : Int} (hd : N 20 0 0 11 = 3) (hp : C 18 0 0 0 = 1) (hn : N 20 0 0 10 = C 19 0 0 1) (hb : -1 ≤ N 20 0 0 10 ∧ N 20 0 0 10 ≤ 300) (a2 : C 19 0 0 2 = -1) (a3 : C 19 0 0 3 = -1) (hl : N 24 0 0 (5 * N 20 0 0 9) = C 18 0 0 1) (hl2 : 0 ≤ C 18 0 0 1 ∧ C 18 0 0 1 ≤ 7) (he : N 24 0 0 (5 * N 20 0 0 9 + 1) = C 19 0 0 0) (he2 : 1 ≤ C 19 0 0 0 ∧ C 19 0 0 0 ≤ 300) : stOK C N c := by
  have n5 := ne5 (5 * N 20 0 0 9)
  have x5 := ix5 (5 * N 20 0 0 9)
  have hp4 : ¬ C 18 0 0 0 = 4 := by omega
  have dg := dg_eq (N := N) (p := 1) (d := 3) (c := c) (by omega) hd (by omega) (by omega)
  have e1 := rdB_n (c := c) hp4
  have e3 := rdM_n (c := c) hp4
  rw [hp, ← hn] at e1 e3
  have hw : rWh C ↔ 0 ≤ N 20 0 0 10 := by
    unfold rWh LST
    rw [hp, ← hn]
    simp only [Int.reduceEq, Int.reduceLT, if_true, if_false, true_and]
  have ex : rNx C c = if ¬ rWh C then -1 else (if c = 64 then 2 else -1) := by
    unfold rNx
    simp only [hp, Int.reduceEq, if_true, if_false]
  by_cases q0 : c = 64
  · have ndg : ¬ rDg 1 (N 20 0 0 10) c := fun z => by
      have := z.2.2.1
      have := z.2.1
      omega
    have ntd : ¬ tdb N (c - 48) := fun z => ndg (dg.mpr z)
    rw [if_neg ndg] at e1 e3
    by_cases w : rWh C
    · have w2 := hw.mp w
      rw [if_neg (fun z => z w)] at ex
      rw [if_pos q0] at ex
      have ey : ¬ rNx C c = -1 := by rw [ex]; decide
      rw [if_neg ey] at e1 e3
      unfold rSg at e3
      rw [ex, if_neg (by decide)] at e3
      have e2 : tkR N c = (1, enM N 4) := by
        unfold tkR
        simp only [hd, Int.reduceEq, if_false, if_true]
        rw [if_pos ⟨by omega, q0⟩]
      refine st_yes e1 e2 e3 (by omega) ?_ ?_ ?_
      · refine Or.inr (Or.inr (Or.inr (Or.inr (Or.inl ?_))))
        unfold enM
        rw [hd]
        simp only [xup_app, Nat.reduceEqDiff, Int.reduceEq, true_and, and_true, false_and, and_false, and_self, true_or, or_true, if_true, if_false, n5.1, n5.2.1, n5.2.2.1, n5.2.2.2.1, n5.2.2.2.2.1, n5.2.2.2.2.2.1, n5.2.2.2.2.2.2.1, n5.2.2.2.2.2.2.2.1, n5.2.2.2.2.2.2.2.2.1, n5.2.2.2.2.2.2.2.2.2.1, n5.2.2.2.2.2.2.2.2.2.2.1, n5.2.2.2.2.2.2.2.2.2.2.2.1, n5.2.2.2.2.2.2.2.2.2.2.2.2.1, n5.2.2.2.2.2.2.2.2.2.2.2.2.2.1, n5.2.2.2.2.2.2.2.2.2.2.2.2.2.2.1, n5.2.2.2.2.2.2.2.2.2.2.2.2.2.2.2.1, n5.2.2.2.2.2.2.2.2.2.2.2.2.2.2.2.2.1, n5.2.2.2.2.2.2.2.2.2.2.2.2.2.2.2.2.2.1, n5.2.2.2.2.2.2.2.2.2.2.2.2.2.2.2.2.2.2.1, n5.2.2.2.2.2.2.2.2.2.2.2.2.2.2.2.2.2.2.2, x5.1, x5.2.1, x5.2.2.1, x5.2.2.2]
        omega
      · unfold enM
        rw [hd]
        simp only [xup_app, Nat.reduceEqDiff, Int.reduceEq, true_and, and_true, false_and, and_false, and_self, true_or, or_true, if_true, if_false, n5.1, n5.2.1, n5.2.2.1, n5.2.2.2.1, n5.2.2.2.2.1, n5.2.2.2.2.2.1, n5.2.2.2.2.2.2.1, n5.2.2.2.2.2.2.2.1, n5.2.2.2.2.2.2.2.2.1, n5.2.2.2.2.2.2.2.2.2.1, n5.2.2.2.2.2.2.2.2.2.2.1, n5.2.2.2.2.2.2.2.2.2.2.2.1, n5.2.2.2.2.2.2.2.2.2.2.2.2.1, n5.2.2.2.2.2.2.2.2.2.2.2.2.2.1, n5.2.2.2.2.2.2.2.2.2.2.2.2.2.2.1, n5.2.2.2.2.2.2.2.2.2.2.2.2.2.2.2.1, n5.2.2.2.2.2.2.2.2.2.2.2.2.2.2.2.2.1, n5.2.2.2.2.2.2.2.2.2.2.2.2.2.2.2.2.2.1, n5.2.2.2.2.2.2.2.2.2.2.2.2.2.2.2.2.2.2.1, n5.2.2.2.2.2.2.2.2.2.2.2.2.2.2.2.2.2.2.2, x5.1, x5.2.1, x5.2.2.1, x5.2.2.2]
      · unfold enM
        rw [hd]
        intro x hx
        have y0 : ¬ x = 5 * N 20 0 0 9 := by omega
        have y1 : ¬ x = 5 * N 20 0 0 9 + 1 := by omega
        have y2 : ¬ x = 5 * N 20 0 0 9 + 2 := by omega
        have y3 : ¬ x = 5 * N 20 0 0 9 + 3 := by omega
        have y4 : ¬ x = 5 * N 20 0 0 9 + 4 := by omega
        simp only [xup_app, Nat.reduceEqDiff, Int.reduceEq, true_and, and_true, false_and, and_false, and_self, true_or, or_true, if_true, if_false, n5.1, n5.2.1, n5.2.2.1, n5.2.2.2.1, n5.2.2.2.2.1, n5.2.2.2.2.2.1, n5.2.2.2.2.2.2.1, n5.2.2.2.2.2.2.2.1, n5.2.2.2.2.2.2.2.2.1, n5.2.2.2.2.2.2.2.2.2.1, n5.2.2.2.2.2.2.2.2.2.2.1, n5.2.2.2.2.2.2.2.2.2.2.2.1, n5.2.2.2.2.2.2.2.2.2.2.2.2.1, n5.2.2.2.2.2.2.2.2.2.2.2.2.2.1, n5.2.2.2.2.2.2.2.2.2.2.2.2.2.2.1, n5.2.2.2.2.2.2.2.2.2.2.2.2.2.2.2.1, n5.2.2.2.2.2.2.2.2.2.2.2.2.2.2.2.2.1, n5.2.2.2.2.2.2.2.2.2.2.2.2.2.2.2.2.2.1, n5.2.2.2.2.2.2.2.2.2.2.2.2.2.2.2.2.2.2.1, n5.2.2.2.2.2.2.2.2.2.2.2.2.2.2.2.2.2.2.2, x5.1, x5.2.1, x5.2.2.1, x5.2.2.2, y0, y1, y2, y3, y4]
    · rw [if_pos w] at ex
      rw [if_pos ex] at e1
      refine st_no e1 ?_
      have w2 : ¬ 0 ≤ N 20 0 0 10 := fun z => w (hw.mpr z)
      unfold tkR
      simp only [hd, Int.reduceEq, if_false, if_true]
      rw [if_neg (fun z => absurd z.1 (by omega))]
      rw [tdR_n ntd]
  have ch : ∀ z, rNx C c = z → z = -1 := fun z e => by
    rw [ex] at e
    split at e
    · exact e.symm
    · first
      | exact e.symm
      | rw [if_neg q0] at e
        exact e.symm
  have ex2 := ch _ rfl
  have e2 : tkR N c = tdR N (c - 48) := by
    unfold tkR
    simp only [hd, Int.reduceEq, if_false, if_true]
    rw [if_neg (fun z => q0 z.2)]
  by_cases g : tdb N (c - 48)
  · have rd := dg.mpr g
    rw [if_pos rd] at e1 e3
    rw [tdR_p g] at e2
    have v := tdR_1 (M := N) (x := c - 48) (by omega) (by rw [tdR_p g])
    obtain ⟨v, v1, v2, v3, v4, v5, v6, -⟩ := v
    have ev : rNo (N 20 0 0 10) c = v := by
      rw [v6]
      rfl
    rw [ev] at e3
    rw [← v6] at e2
    rw [hd] at v3 v5
    simp only [Int.reduceEq, Int.reduceLT, if_true, if_false, not_false_eq_true, not_true_eq_false, true_implies, false_implies] at v3 v5
    refine st_yes e1 e2 e3 (by have := g.1; omega) ?_ ?_ ?_
    · refine Or.inr (Or.inr (Or.inr (Or.inl ?_)))
      simp only [xup_app, Nat.reduceEqDiff, Int.reduceEq, true_and, and_true, false_and, and_false, and_self, true_or, or_true, if_true, if_false, n5.1, n5.2.1, n5.2.2.1, n5.2.2.2.1, n5.2.2.2.2.1, n5.2.2.2.2.2.1, n5.2.2.2.2.2.2.1, n5.2.2.2.2.2.2.2.1, n5.2.2.2.2.2.2.2.2.1, n5.2.2.2.2.2.2.2.2.2.1, n5.2.2.2.2.2.2.2.2.2.2.1, n5.2.2.2.2.2.2.2.2.2.2.2.1, n5.2.2.2.2.2.2.2.2.2.2.2.2.1, n5.2.2.2.2.2.2.2.2.2.2.2.2.2.1, n5.2.2.2.2.2.2.2.2.2.2.2.2.2.2.1, n5.2.2.2.2.2.2.2.2.2.2.2.2.2.2.2.1, n5.2.2.2.2.2.2.2.2.2.2.2.2.2.2.2.2.1, n5.2.2.2.2.2.2.2.2.2.2.2.2.2.2.2.2.2.1, n5.2.2.2.2.2.2.2.2.2.2.2.2.2.2.2.2.2.2.1, n5.2.2.2.2.2.2.2.2.2.2.2.2.2.2.2.2.2.2.2, x5.1, x5.2.1, x5.2.2.1, x5.2.2.2]
      omega
    · simp only [xup_app, Nat.reduceEqDiff, Int.reduceEq, true_and, and_true, false_and, and_false, and_self, true_or, or_true, if_true, if_false, n5.1, n5.2.1, n5.2.2.1, n5.2.2.2.1, n5.2.2.2.2.1, n5.2.2.2.2.2.1, n5.2.2.2.2.2.2.1, n5.2.2.2.2.2.2.2.1, n5.2.2.2.2.2.2.2.2.1, n5.2.2.2.2.2.2.2.2.2.1, n5.2.2.2.2.2.2.2.2.2.2.1, n5.2.2.2.2.2.2.2.2.2.2.2.1, n5.2.2.2.2.2.2.2.2.2.2.2.2.1, n5.2.2.2.2.2.2.2.2.2.2.2.2.2.1, n5.2.2.2.2.2.2.2.2.2.2.2.2.2.2.1, n5.2.2.2.2.2.2.2.2.2.2.2.2.2.2.2.1, n5.2.2.2.2.2.2.2.2.2.2.2.2.2.2.2.2.1, n5.2.2.2.2.2.2.2.2.2.2.2.2.2.2.2.2.2.1, n5.2.2.2.2.2.2.2.2.2.2.2.2.2.2.2.2.2.2.1, n5.2.2.2.2.2.2.2.2.2.2.2.2.2.2.2.2.2.2.2, x5.1, x5.2.1, x5.2.2.1, x5.2.2.2]
    · intro x hx
      have y0 : ¬ x = 5 * N 20 0 0 9 := by omega
      have y1 : ¬ x = 5 * N 20 0 0 9 + 1 := by omega
      have y2 : ¬ x = 5 * N 20 0 0 9 + 2 := by omega
      have y3 : ¬ x = 5 * N 20 0 0 9 + 3 := by omega
      have y4 : ¬ x = 5 * N 20 0 0 9 + 4 := by omega
      simp only [xup_app, Nat.reduceEqDiff, Int.reduceEq, true_and, and_true, false_and, and_false, and_self, true_or, or_true, if_true, if_false, n5.1, n5.2.1, n5.2.2.1, n5.2.2.2.1, n5.2.2.2.2.1, n5.2.2.2.2.2.1, n5.2.2.2.2.2.2.1, n5.2.2.2.2.2.2.2.1, n5.2.2.2.2.2.2.2.2.1, n5.2.2.2.2.2.2.2.2.2.1, n5.2.2.2.2.2.2.2.2.2.2.1, n5.2.2.2.2.2.2.2.2.2.2.2.1, n5.2.2.2.2.2.2.2.2.2.2.2.2.1, n5.2.2.2.2.2.2.2.2.2.2.2.2.2.1, n5.2.2.2.2.2.2.2.2.2.2.2.2.2.2.1, n5.2.2.2.2.2.2.2.2.2.2.2.2.2.2.2.1, n5.2.2.2.2.2.2.2.2.2.2.2.2.2.2.2.2.1, n5.2.2.2.2.2.2.2.2.2.2.2.2.2.2.2.2.2.1, n5.2.2.2.2.2.2.2.2.2.2.2.2.2.2.2.2.2.2.1, n5.2.2.2.2.2.2.2.2.2.2.2.2.2.2.2.2.2.2.2, x5.1, x5.2.1, x5.2.2.1, x5.2.2.2, y0, y1, y2, y3, y4]
  · rw [if_neg (fun z => g (dg.mp z)), if_pos ex2] at e1
    refine st_no e1 ?_
    rw [e2, tdR_n g]
theorem RS_4 {C N : XM} {c : Int} (hd : N 20 0 0 11 = 4) (hp : C 18 0 0 0 = 2) (hn : N 20 0 0 10 = C 19 0 0 2) (hb : N 20 0 0 10 = -1 ∨ (1 ≤ N 20 0 0 10 ∧ N 20 0 0 10 ≤ 600)) (a3 : C 19 0 0 3 = -1) (hl : N 24 0 0 (5 * N 20 0 0 9) = C 18 0 0 1) (hl2 : 0 ≤ C 18 0 0 1 ∧ C 18 0 0 1 ≤ 7) (he : N 24 0 0 (5 * N 20 0 0 9 + 1) = C 19 0 0 0) (he2 : 1 ≤ C 19 0 0 0 ∧ C 19 0 0 0 ≤ 300) (hg : N 24 0 0 (5 * N 20 0 0 9 + 2) = max 0 (C 19 0 0 1)) (hg2 : -1 ≤ C 19 0 0 1 ∧ C 19 0 0 1 ≤ 300) : stOK C N c := by
  have n5 := ne5 (5 * N 20 0 0 9)
  have x5 := ix5 (5 * N 20 0 0 9)
  have hp4 : ¬ C 18 0 0 0 = 4 := by omega
  have dg := dg_eq (N := N) (p := 2) (d := 4) (c := c) (by omega) hd (by omega) (by omega)
  have e1 := rdB_n (c := c) hp4
  have e3 := rdM_n (c := c) hp4
  rw [hp, ← hn] at e1 e3
  have hw : rWh C ↔ 1 ≤ N 20 0 0 10 := by
    unfold rWh LST
    rw [hp, ← hn]
    simp only [Int.reduceEq, Int.reduceLT, if_true, if_false, true_and]
  have ex : rNx C c = if ¬ rWh C then -1 else (if c = 43 then 3 else -1) := by
    unfold rNx
    simp only [hp, Int.reduceEq, if_true, if_false]
  by_cases q0 : c = 43
  · have ndg : ¬ rDg 2 (N 20 0 0 10) c := fun z => by
      have := z.2.2.1
      have := z.2.1
      omega
    have ntd : ¬ tdb N (c - 48) := fun z => ndg (dg.mpr z)
    rw [if_neg ndg] at e1 e3
    by_cases w : rWh C
    · have w2 := hw.mp w
      rw [if_neg (fun z => z w)] at ex
      rw [if_pos q0] at ex
      have ey : ¬ rNx C c = -1 := by rw [ex]; decide
      rw [if_neg ey] at e1 e3
      unfold rSg at e3
      rw [ex, if_neg (by decide)] at e3
      have e2 : tkR N c = (1, enM N 5) := by
        unfold tkR
        simp only [hd, Int.reduceEq, if_false, if_true]
        rw [if_pos ⟨by omega, q0⟩]
      refine st_yes e1 e2 e3 (by omega) ?_ ?_ ?_
      · refine Or.inr (Or.inr (Or.inr (Or.inr (Or.inr (?_)))))
        unfold enM
        rw [hd]
        simp only [xup_app, Nat.reduceEqDiff, Int.reduceEq, true_and, and_true, false_and, and_false, and_self, true_or, or_true, if_true, if_false, n5.1, n5.2.1, n5.2.2.1, n5.2.2.2.1, n5.2.2.2.2.1, n5.2.2.2.2.2.1, n5.2.2.2.2.2.2.1, n5.2.2.2.2.2.2.2.1, n5.2.2.2.2.2.2.2.2.1, n5.2.2.2.2.2.2.2.2.2.1, n5.2.2.2.2.2.2.2.2.2.2.1, n5.2.2.2.2.2.2.2.2.2.2.2.1, n5.2.2.2.2.2.2.2.2.2.2.2.2.1, n5.2.2.2.2.2.2.2.2.2.2.2.2.2.1, n5.2.2.2.2.2.2.2.2.2.2.2.2.2.2.1, n5.2.2.2.2.2.2.2.2.2.2.2.2.2.2.2.1, n5.2.2.2.2.2.2.2.2.2.2.2.2.2.2.2.2.1, n5.2.2.2.2.2.2.2.2.2.2.2.2.2.2.2.2.2.1, n5.2.2.2.2.2.2.2.2.2.2.2.2.2.2.2.2.2.2.1, n5.2.2.2.2.2.2.2.2.2.2.2.2.2.2.2.2.2.2.2, x5.1, x5.2.1, x5.2.2.1, x5.2.2.2]
        omega
      · unfold enM
        rw [hd]
        simp only [xup_app, Nat.reduceEqDiff, Int.reduceEq, true_and, and_true, false_and, and_false, and_self, true_or, or_true, if_true, if_false, n5.1, n5.2.1, n5.2.2.1, n5.2.2.2.1, n5.2.2.2.2.1, n5.2.2.2.2.2.1, n5.2.2.2.2.2.2.1, n5.2.2.2.2.2.2.2.1, n5.2.2.2.2.2.2.2.2.1, n5.2.2.2.2.2.2.2.2.2.1, n5.2.2.2.2.2.2.2.2.2.2.1, n5.2.2.2.2.2.2.2.2.2.2.2.1, n5.2.2.2.2.2.2.2.2.2.2.2.2.1, n5.2.2.2.2.2.2.2.2.2.2.2.2.2.1, n5.2.2.2.2.2.2.2.2.2.2.2.2.2.2.1, n5.2.2.2.2.2.2.2.2.2.2.2.2.2.2.2.1, n5.2.2.2.2.2.2.2.2.2.2.2.2.2.2.2.2.1, n5.2.2.2.2.2.2.2.2.2.2.2.2.2.2.2.2.2.1, n5.2.2.2.2.2.2.2.2.2.2.2.2.2.2.2.2.2.2.1, n5.2.2.2.2.2.2.2.2.2.2.2.2.2.2.2.2.2.2.2, x5.1, x5.2.1, x5.2.2.1, x5.2.2.2]
      · unfold enM
        rw [hd]
        intro x hx
        have y0 : ¬ x = 5 * N 20 0 0 9 := by omega
        have y1 : ¬ x = 5 * N 20 0 0 9 + 1 := by omega
        have y2 : ¬ x = 5 * N 20 0 0 9 + 2 := by omega
        have y3 : ¬ x = 5 * N 20 0 0 9 + 3 := by omega
        have y4 : ¬ x = 5 * N 20 0 0 9 + 4 := by omega
        simp only [xup_app, Nat.reduceEqDiff, Int.reduceEq, true_and, and_true, false_and, and_false, and_self, true_or, or_true, if_true, if_false, n5.1, n5.2.1, n5.2.2.1, n5.2.2.2.1, n5.2.2.2.2.1, n5.2.2.2.2.2.1, n5.2.2.2.2.2.2.1, n5.2.2.2.2.2.2.2.1, n5.2.2.2.2.2.2.2.2.1, n5.2.2.2.2.2.2.2.2.2.1, n5.2.2.2.2.2.2.2.2.2.2.1, n5.2.2.2.2.2.2.2.2.2.2.2.1, n5.2.2.2.2.2.2.2.2.2.2.2.2.1, n5.2.2.2.2.2.2.2.2.2.2.2.2.2.1, n5.2.2.2.2.2.2.2.2.2.2.2.2.2.2.1, n5.2.2.2.2.2.2.2.2.2.2.2.2.2.2.2.1, n5.2.2.2.2.2.2.2.2.2.2.2.2.2.2.2.2.1, n5.2.2.2.2.2.2.2.2.2.2.2.2.2.2.2.2.2.1, n5.2.2.2.2.2.2.2.2.2.2.2.2.2.2.2.2.2.2.1, n5.2.2.2.2.2.2.2.2.2.2.2.2.2.2.2.2.2.2.2, x5.1, x5.2.1, x5.2.2.1, x5.2.2.2, y0, y1, y2, y3, y4]
    · rw [if_pos w] at ex
      rw [if_pos ex] at e1
      refine st_no e1 ?_
      have w2 : ¬ 1 ≤ N 20 0 0 10 := fun z => w (hw.mpr z)
      unfold tkR
      simp only [hd, Int.reduceEq, if_false, if_true]
      rw [if_neg (fun z => absurd z.1 (by omega))]
      rw [tdR_n ntd]
  have ch : ∀ z, rNx C c = z → z = -1 := fun z e => by
    rw [ex] at e
    split at e
    · exact e.symm
    · first
      | exact e.symm
      | rw [if_neg q0] at e
        exact e.symm
  have ex2 := ch _ rfl
  have e2 : tkR N c = tdR N (c - 48) := by
    unfold tkR
    simp only [hd, Int.reduceEq, if_false, if_true]
    rw [if_neg (fun z => q0 z.2)]
  by_cases g : tdb N (c - 48)
  · have rd := dg.mpr g
    rw [if_pos rd] at e1 e3
    rw [tdR_p g] at e2
    have v := tdR_1 (M := N) (x := c - 48) (by omega) (by rw [tdR_p g])
    obtain ⟨v, v1, v2, v3, v4, v5, v6, -⟩ := v
    have ev : rNo (N 20 0 0 10) c = v := by
      rw [v6]
      rfl
    rw [ev] at e3
    rw [← v6] at e2
    rw [hd] at v3 v5
    simp only [Int.reduceEq, Int.reduceLT, if_true, if_false, not_false_eq_true, not_true_eq_false, true_implies, false_implies] at v3 v5
    refine st_yes e1 e2 e3 (by have := g.1; omega) ?_ ?_ ?_
    · refine Or.inr (Or.inr (Or.inr (Or.inr (Or.inl ?_))))
      simp only [xup_app, Nat.reduceEqDiff, Int.reduceEq, true_and, and_true, false_and, and_false, and_self, true_or, or_true, if_true, if_false, n5.1, n5.2.1, n5.2.2.1, n5.2.2.2.1, n5.2.2.2.2.1, n5.2.2.2.2.2.1, n5.2.2.2.2.2.2.1, n5.2.2.2.2.2.2.2.1, n5.2.2.2.2.2.2.2.2.1, n5.2.2.2.2.2.2.2.2.2.1, n5.2.2.2.2.2.2.2.2.2.2.1, n5.2.2.2.2.2.2.2.2.2.2.2.1, n5.2.2.2.2.2.2.2.2.2.2.2.2.1, n5.2.2.2.2.2.2.2.2.2.2.2.2.2.1, n5.2.2.2.2.2.2.2.2.2.2.2.2.2.2.1, n5.2.2.2.2.2.2.2.2.2.2.2.2.2.2.2.1, n5.2.2.2.2.2.2.2.2.2.2.2.2.2.2.2.2.1, n5.2.2.2.2.2.2.2.2.2.2.2.2.2.2.2.2.2.1, n5.2.2.2.2.2.2.2.2.2.2.2.2.2.2.2.2.2.2.1, n5.2.2.2.2.2.2.2.2.2.2.2.2.2.2.2.2.2.2.2, x5.1, x5.2.1, x5.2.2.1, x5.2.2.2]
      omega
    · simp only [xup_app, Nat.reduceEqDiff, Int.reduceEq, true_and, and_true, false_and, and_false, and_self, true_or, or_true, if_true, if_false, n5.1, n5.2.1, n5.2.2.1, n5.2.2.2.1, n5.2.2.2.2.1, n5.2.2.2.2.2.1, n5.2.2.2.2.2.2.1, n5.2.2.2.2.2.2.2.1, n5.2.2.2.2.2.2.2.2.1, n5.2.2.2.2.2.2.2.2.2.1, n5.2.2.2.2.2.2.2.2.2.2.1, n5.2.2.2.2.2.2.2.2.2.2.2.1, n5.2.2.2.2.2.2.2.2.2.2.2.2.1, n5.2.2.2.2.2.2.2.2.2.2.2.2.2.1, n5.2.2.2.2.2.2.2.2.2.2.2.2.2.2.1, n5.2.2.2.2.2.2.2.2.2.2.2.2.2.2.2.1, n5.2.2.2.2.2.2.2.2.2.2.2.2.2.2.2.2.1, n5.2.2.2.2.2.2.2.2.2.2.2.2.2.2.2.2.2.1, n5.2.2.2.2.2.2.2.2.2.2.2.2.2.2.2.2.2.2.1, n5.2.2.2.2.2.2.2.2.2.2.2.2.2.2.2.2.2.2.2, x5.1, x5.2.1, x5.2.2.1, x5.2.2.2]
    · intro x hx
      have y0 : ¬ x = 5 * N 20 0 0 9 := by omega
      have y1 : ¬ x = 5 * N 20 0 0 9 + 1 := by omega
      have y2 : ¬ x = 5 * N 20 0 0 9 + 2 := by omega
      have y3 : ¬ x = 5 * N 20 0 0 9 + 3 := by omega
      have y4 : ¬ x = 5 * N 20 0 0 9 + 4 := by omega
      simp only [xup_app, Nat.reduceEqDiff, Int.reduceEq, true_and, and_true, false_and, and_false, and_self, true_or, or_true, if_true, if_false, n5.1, n5.2.1, n5.2.2.1, n5.2.2.2.1, n5.2.2.2.2.1, n5.2.2.2.2.2.1, n5.2.2.2.2.2.2.1, n5.2.2.2.2.2.2.2.1, n5.2.2.2.2.2.2.2.2.1, n5.2.2.2.2.2.2.2.2.2.1, n5.2.2.2.2.2.2.2.2.2.2.1, n5.2.2.2.2.2.2.2.2.2.2.2.1, n5.2.2.2.2.2.2.2.2.2.2.2.2.1, n5.2.2.2.2.2.2.2.2.2.2.2.2.2.1, n5.2.2.2.2.2.2.2.2.2.2.2.2.2.2.1, n5.2.2.2.2.2.2.2.2.2.2.2.2.2.2.2.1, n5.2.2.2.2.2.2.2.2.2.2.2.2.2.2.2.2.1, n5.2.2.2.2.2.2.2.2.2.2.2.2.2.2.2.2.2.1, n5.2.2.2.2.2.2.2.2.2.2.2.2.2.2.2.2.2.2.1, n5.2.2.2.2.2.2.2.2.2.2.2.2.2.2.2.2.2.2.2, x5.1, x5.2.1, x5.2.2.1, x5.2.2.2, y0, y1, y2, y3, y4]
  · rw [if_neg (fun z => g (dg.mp z)), if_pos ex2] at e1
    refine st_no e1 ?_
    rw [e2, tdR_n g]
theorem RS_5 {C N : XM} {c : Int} (hd : N 20 0 0 11 = 5) (hp : C 18 0 0 0 = 3) (hn : N 20 0 0 10 = C 19 0 0 3) (hb : N 20 0 0 10 = -1 ∨ (1 ≤ N 20 0 0 10 ∧ N 20 0 0 10 ≤ 600)) (hl : N 24 0 0 (5 * N 20 0 0 9) = C 18 0 0 1) (hl2 : 0 ≤ C 18 0 0 1 ∧ C 18 0 0 1 ≤ 7) (he : N 24 0 0 (5 * N 20 0 0 9 + 1) = C 19 0 0 0) (he2 : 1 ≤ C 19 0 0 0 ∧ C 19 0 0 0 ≤ 300) (hg : N 24 0 0 (5 * N 20 0 0 9 + 2) = max 0 (C 19 0 0 1)) (hg2 : -1 ≤ C 19 0 0 1 ∧ C 19 0 0 1 ≤ 300) (hk : N 24 0 0 (5 * N 20 0 0 9 + 3) = C 19 0 0 2) (hk2 : 1 ≤ C 19 0 0 2 ∧ C 19 0 0 2 ≤ 600) : stOK C N c := by
  have n5 := ne5 (5 * N 20 0 0 9)
  have x5 := ix5 (5 * N 20 0 0 9)
  have hp4 : ¬ C 18 0 0 0 = 4 := by omega
  have dg := dg_eq (N := N) (p := 3) (d := 5) (c := c) (by omega) hd (by omega) (by omega)
  have e1 := rdB_n (c := c) hp4
  have e3 := rdM_n (c := c) hp4
  rw [hp, ← hn] at e1 e3
  have hw : rWh C ↔ 30 ≤ N 20 0 0 10 := by
    unfold rWh LST
    rw [hp, ← hn]
    simp only [Int.reduceEq, Int.reduceLT, if_true, if_false, true_and]
  have ex : rNx C c = if ¬ rWh C then -1 else (if c = 44 then 4 else -1) := by
    unfold rNx
    simp only [hp, Int.reduceEq, if_true, if_false]
  by_cases q0 : c = 44
  · have ndg : ¬ rDg 3 (N 20 0 0 10) c := fun z => by
      have := z.2.2.1
      have := z.2.1
      omega
    have ntd : ¬ tdb N (c - 48) := fun z => ndg (dg.mpr z)
    rw [if_neg ndg] at e1 e3
    by_cases w : rWh C
    · have w2 := hw.mp w
      rw [if_neg (fun z => z w)] at ex
      rw [if_pos q0] at ex
      have ey : ¬ rNx C c = -1 := by rw [ex]; decide
      rw [if_neg ey] at e1 e3
      unfold rSg at e3
      rw [ex, if_pos rfl] at e3
      have e2 : tkR N c = (1, xup (enM N 0) 20 0 0 9 (N 20 0 0 9 + 1)) := by
        unfold tkR
        simp only [hd, Int.reduceEq, if_false, if_true]
        rw [if_pos ⟨q0, by omega⟩]
      unfold stOK
      rw [e1, e2, e3]
      refine ⟨rfl, fun _ => ⟨fun z => absurd q0 z, fun _ => ⟨?_, ?_, ?_, ?_, ?_⟩⟩⟩
      · refine Or.inl ?_
        unfold enM rBeg
        rw [hd]
        simp only [xup_app, Nat.reduceEqDiff, Int.reduceEq, true_and, and_true, false_and, and_false, and_self, true_or, or_true, if_true, if_false, n5.1, n5.2.1, n5.2.2.1, n5.2.2.2.1, n5.2.2.2.2.1, n5.2.2.2.2.2.1, n5.2.2.2.2.2.2.1, n5.2.2.2.2.2.2.2.1, n5.2.2.2.2.2.2.2.2.1, n5.2.2.2.2.2.2.2.2.2.1, n5.2.2.2.2.2.2.2.2.2.2.1, n5.2.2.2.2.2.2.2.2.2.2.2.1, n5.2.2.2.2.2.2.2.2.2.2.2.2.1, n5.2.2.2.2.2.2.2.2.2.2.2.2.2.1, n5.2.2.2.2.2.2.2.2.2.2.2.2.2.2.1, n5.2.2.2.2.2.2.2.2.2.2.2.2.2.2.2.1, n5.2.2.2.2.2.2.2.2.2.2.2.2.2.2.2.2.1, n5.2.2.2.2.2.2.2.2.2.2.2.2.2.2.2.2.2.1, n5.2.2.2.2.2.2.2.2.2.2.2.2.2.2.2.2.2.2.1, n5.2.2.2.2.2.2.2.2.2.2.2.2.2.2.2.2.2.2.2, x5.1, x5.2.1, x5.2.2.1, x5.2.2.2]
      · simp only [xup_app, Nat.reduceEqDiff, Int.reduceEq, true_and, and_true, false_and, and_false, and_self, true_or, or_true, if_true, if_false, n5.1, n5.2.1, n5.2.2.1, n5.2.2.2.1, n5.2.2.2.2.1, n5.2.2.2.2.2.1, n5.2.2.2.2.2.2.1, n5.2.2.2.2.2.2.2.1, n5.2.2.2.2.2.2.2.2.1, n5.2.2.2.2.2.2.2.2.2.1, n5.2.2.2.2.2.2.2.2.2.2.1, n5.2.2.2.2.2.2.2.2.2.2.2.1, n5.2.2.2.2.2.2.2.2.2.2.2.2.1, n5.2.2.2.2.2.2.2.2.2.2.2.2.2.1, n5.2.2.2.2.2.2.2.2.2.2.2.2.2.2.1, n5.2.2.2.2.2.2.2.2.2.2.2.2.2.2.2.1, n5.2.2.2.2.2.2.2.2.2.2.2.2.2.2.2.2.1, n5.2.2.2.2.2.2.2.2.2.2.2.2.2.2.2.2.2.1, n5.2.2.2.2.2.2.2.2.2.2.2.2.2.2.2.2.2.2.1, n5.2.2.2.2.2.2.2.2.2.2.2.2.2.2.2.2.2.2.2, x5.1, x5.2.1, x5.2.2.1, x5.2.2.2]
      · unfold PA uT enM
        rw [hd]
        simp only [xup_app, Nat.reduceEqDiff, Int.reduceEq, true_and, and_true, false_and, and_false, and_self, true_or, or_true, if_true, if_false, n5.1, n5.2.1, n5.2.2.1, n5.2.2.2.1, n5.2.2.2.2.1, n5.2.2.2.2.2.1, n5.2.2.2.2.2.2.1, n5.2.2.2.2.2.2.2.1, n5.2.2.2.2.2.2.2.2.1, n5.2.2.2.2.2.2.2.2.2.1, n5.2.2.2.2.2.2.2.2.2.2.1, n5.2.2.2.2.2.2.2.2.2.2.2.1, n5.2.2.2.2.2.2.2.2.2.2.2.2.1, n5.2.2.2.2.2.2.2.2.2.2.2.2.2.1, n5.2.2.2.2.2.2.2.2.2.2.2.2.2.2.1, n5.2.2.2.2.2.2.2.2.2.2.2.2.2.2.2.1, n5.2.2.2.2.2.2.2.2.2.2.2.2.2.2.2.2.1, n5.2.2.2.2.2.2.2.2.2.2.2.2.2.2.2.2.2.1, n5.2.2.2.2.2.2.2.2.2.2.2.2.2.2.2.2.2.2.1, n5.2.2.2.2.2.2.2.2.2.2.2.2.2.2.2.2.2.2.2, x5.1, x5.2.1, x5.2.2.1, x5.2.2.2]
        omega
      · unfold tuOK uT
        dsimp only
        omega
      · unfold enM
        rw [hd]
        intro x hx
        have y0 : ¬ x = 5 * N 20 0 0 9 := by omega
        have y1 : ¬ x = 5 * N 20 0 0 9 + 1 := by omega
        have y2 : ¬ x = 5 * N 20 0 0 9 + 2 := by omega
        have y3 : ¬ x = 5 * N 20 0 0 9 + 3 := by omega
        have y4 : ¬ x = 5 * N 20 0 0 9 + 4 := by omega
        simp only [xup_app, Nat.reduceEqDiff, Int.reduceEq, true_and, and_true, false_and, and_false, and_self, true_or, or_true, if_true, if_false, n5.1, n5.2.1, n5.2.2.1, n5.2.2.2.1, n5.2.2.2.2.1, n5.2.2.2.2.2.1, n5.2.2.2.2.2.2.1, n5.2.2.2.2.2.2.2.1, n5.2.2.2.2.2.2.2.2.1, n5.2.2.2.2.2.2.2.2.2.1, n5.2.2.2.2.2.2.2.2.2.2.1, n5.2.2.2.2.2.2.2.2.2.2.2.1, n5.2.2.2.2.2.2.2.2.2.2.2.2.1, n5.2.2.2.2.2.2.2.2.2.2.2.2.2.1, n5.2.2.2.2.2.2.2.2.2.2.2.2.2.2.1, n5.2.2.2.2.2.2.2.2.2.2.2.2.2.2.2.1, n5.2.2.2.2.2.2.2.2.2.2.2.2.2.2.2.2.1, n5.2.2.2.2.2.2.2.2.2.2.2.2.2.2.2.2.2.1, n5.2.2.2.2.2.2.2.2.2.2.2.2.2.2.2.2.2.2.1, n5.2.2.2.2.2.2.2.2.2.2.2.2.2.2.2.2.2.2.2, x5.1, x5.2.1, x5.2.2.1, x5.2.2.2, y0, y1, y2, y3, y4]
    · rw [if_pos w] at ex
      rw [if_pos ex] at e1
      refine st_no e1 ?_
      have w2 : ¬ 30 ≤ N 20 0 0 10 := fun z => w (hw.mpr z)
      unfold tkR
      simp only [hd, Int.reduceEq, if_false, if_true]
      rw [if_neg (fun z => absurd z.2 (by omega))]
      rw [tdR_n ntd]
  have ch : ∀ z, rNx C c = z → z = -1 := fun z e => by
    rw [ex] at e
    split at e
    · exact e.symm
    · first
      | exact e.symm
      | rw [if_neg q0] at e
        exact e.symm
  have ex2 := ch _ rfl
  have e2 : tkR N c = tdR N (c - 48) := by
    unfold tkR
    simp only [hd, Int.reduceEq, if_false, if_true]
    rw [if_neg (fun z => q0 z.1)]
  by_cases g : tdb N (c - 48)
  · have rd := dg.mpr g
    rw [if_pos rd] at e1 e3
    rw [tdR_p g] at e2
    have v := tdR_1 (M := N) (x := c - 48) (by omega) (by rw [tdR_p g])
    obtain ⟨v, v1, v2, v3, v4, v5, v6, -⟩ := v
    have ev : rNo (N 20 0 0 10) c = v := by
      rw [v6]
      rfl
    rw [ev] at e3
    rw [← v6] at e2
    rw [hd] at v3 v5
    simp only [Int.reduceEq, Int.reduceLT, if_true, if_false, not_false_eq_true, not_true_eq_false, true_implies, false_implies] at v3 v5
    refine st_yes e1 e2 e3 (by have := g.1; omega) ?_ ?_ ?_
    · refine Or.inr (Or.inr (Or.inr (Or.inr (Or.inr (?_)))))
      simp only [xup_app, Nat.reduceEqDiff, Int.reduceEq, true_and, and_true, false_and, and_false, and_self, true_or, or_true, if_true, if_false, n5.1, n5.2.1, n5.2.2.1, n5.2.2.2.1, n5.2.2.2.2.1, n5.2.2.2.2.2.1, n5.2.2.2.2.2.2.1, n5.2.2.2.2.2.2.2.1, n5.2.2.2.2.2.2.2.2.1, n5.2.2.2.2.2.2.2.2.2.1, n5.2.2.2.2.2.2.2.2.2.2.1, n5.2.2.2.2.2.2.2.2.2.2.2.1, n5.2.2.2.2.2.2.2.2.2.2.2.2.1, n5.2.2.2.2.2.2.2.2.2.2.2.2.2.1, n5.2.2.2.2.2.2.2.2.2.2.2.2.2.2.1, n5.2.2.2.2.2.2.2.2.2.2.2.2.2.2.2.1, n5.2.2.2.2.2.2.2.2.2.2.2.2.2.2.2.2.1, n5.2.2.2.2.2.2.2.2.2.2.2.2.2.2.2.2.2.1, n5.2.2.2.2.2.2.2.2.2.2.2.2.2.2.2.2.2.2.1, n5.2.2.2.2.2.2.2.2.2.2.2.2.2.2.2.2.2.2.2, x5.1, x5.2.1, x5.2.2.1, x5.2.2.2]
      omega
    · simp only [xup_app, Nat.reduceEqDiff, Int.reduceEq, true_and, and_true, false_and, and_false, and_self, true_or, or_true, if_true, if_false, n5.1, n5.2.1, n5.2.2.1, n5.2.2.2.1, n5.2.2.2.2.1, n5.2.2.2.2.2.1, n5.2.2.2.2.2.2.1, n5.2.2.2.2.2.2.2.1, n5.2.2.2.2.2.2.2.2.1, n5.2.2.2.2.2.2.2.2.2.1, n5.2.2.2.2.2.2.2.2.2.2.1, n5.2.2.2.2.2.2.2.2.2.2.2.1, n5.2.2.2.2.2.2.2.2.2.2.2.2.1, n5.2.2.2.2.2.2.2.2.2.2.2.2.2.1, n5.2.2.2.2.2.2.2.2.2.2.2.2.2.2.1, n5.2.2.2.2.2.2.2.2.2.2.2.2.2.2.2.1, n5.2.2.2.2.2.2.2.2.2.2.2.2.2.2.2.2.1, n5.2.2.2.2.2.2.2.2.2.2.2.2.2.2.2.2.2.1, n5.2.2.2.2.2.2.2.2.2.2.2.2.2.2.2.2.2.2.1, n5.2.2.2.2.2.2.2.2.2.2.2.2.2.2.2.2.2.2.2, x5.1, x5.2.1, x5.2.2.1, x5.2.2.2]
    · intro x hx
      have y0 : ¬ x = 5 * N 20 0 0 9 := by omega
      have y1 : ¬ x = 5 * N 20 0 0 9 + 1 := by omega
      have y2 : ¬ x = 5 * N 20 0 0 9 + 2 := by omega
      have y3 : ¬ x = 5 * N 20 0 0 9 + 3 := by omega
      have y4 : ¬ x = 5 * N 20 0 0 9 + 4 := by omega
      simp only [xup_app, Nat.reduceEqDiff, Int.reduceEq, true_and, and_true, false_and, and_false, and_self, true_or, or_true, if_true, if_false, n5.1, n5.2.1, n5.2.2.1, n5.2.2.2.1, n5.2.2.2.2.1, n5.2.2.2.2.2.1, n5.2.2.2.2.2.2.1, n5.2.2.2.2.2.2.2.1, n5.2.2.2.2.2.2.2.2.1, n5.2.2.2.2.2.2.2.2.2.1, n5.2.2.2.2.2.2.2.2.2.2.1, n5.2.2.2.2.2.2.2.2.2.2.2.1, n5.2.2.2.2.2.2.2.2.2.2.2.2.1, n5.2.2.2.2.2.2.2.2.2.2.2.2.2.1, n5.2.2.2.2.2.2.2.2.2.2.2.2.2.2.1, n5.2.2.2.2.2.2.2.2.2.2.2.2.2.2.2.1, n5.2.2.2.2.2.2.2.2.2.2.2.2.2.2.2.2.1, n5.2.2.2.2.2.2.2.2.2.2.2.2.2.2.2.2.2.1, n5.2.2.2.2.2.2.2.2.2.2.2.2.2.2.2.2.2.2.1, n5.2.2.2.2.2.2.2.2.2.2.2.2.2.2.2.2.2.2.2, x5.1, x5.2.1, x5.2.2.1, x5.2.2.2, y0, y1, y2, y3, y4]
  · rw [if_neg (fun z => g (dg.mp z)), if_pos ex2] at e1
    refine st_no e1 ?_
    rw [e2, tdR_n g]
theorem RS_step {C N : XM} (c : Int) (h : RS C N) : stOK C N c := by
  rcases h with ⟨h1, h2, h3, h4, h5, h6, h7⟩ | ⟨h1, h2, h3, h4, h5, h6, h7, h8, h9, h10⟩ | ⟨h1, h2, h3, h4, h5, h6, h7, h8, h9, h10⟩ | ⟨h1, h2, h3, h4, h5, h6, h7, h8, h9, h10⟩ | ⟨h1, h2, h3, h4, h5, h6, h7, h8, h9, h10, h11⟩ | ⟨h1, h2, h3, h4, h5, h6, h7, h8, h9, h10, h11, h12⟩
  · exact RS_0 h1 h2 h3 h4 h5 h6 h7
  · exact RS_1 h1 h2 h3 h4 h5 h6 h7 h8 h9 h10
  · exact RS_2 h1 h2 h3 h4 h5 h6 h7 h8 h9 h10
  · exact RS_3 h1 h2 h3 h4 h5 h6 h7 h8 h9 h10
  · exact RS_4 h1 h2 h3 h4 h5 h6 h7 h8 h9 h10 h11
  · exact RS_5 h1 h2 h3 h4 h5 h6 h7 h8 h9 h10 h11 h12
theorem RS_beg (C N : XM) : RS (rBeg C) (rbM N) := by
  refine Or.inl ?_
  unfold rBeg rbM
  simp only [xup_app, Nat.reduceEqDiff, Int.reduceEq, true_and, and_true, false_and, and_false, and_self, true_or, or_true, if_true, if_false]
/-- the units that are read to their comma -/
def uI : Nat → Int → XM → List Tu
  | 0, _, _ => []
  | n + 1, i, C => if C 17 0 0 i = 44 then uT C :: uI n (i + 1) (rdM C (C 17 0 0 i)) else uI n (i + 1) (rdM C (C 17 0 0 i))
def uL : Nat → Int → XM → List Tu
  | 0, _, C => [uT C]
  | n + 1, i, C => if C 17 0 0 i = 44 then uT C :: uL n (i + 1) (rdM C (C 17 0 0 i)) else uL n (i + 1) (rdM C (C 17 0 0 i))
theorem PS_app {M : XM} : ∀ (l l2 : List Tu) (j : Int), PS M j l → PS M (j + l.length) l2 → PS M j (l ++ l2)
  | [], l2, j, _, h2 => by simpa using h2
  | t :: ts, l2, j, h, h2 => by
    refine ⟨h.1, PS_app ts l2 (j + 1) h.2 ?_⟩
    have e : j + 1 + (ts.length : Int) = j + ((t :: ts).length : Int) := by simp only [List.length_cons]; omega
    rw [e]
    exact h2
theorem PA_low {M N : XM} {j : Int} {t : Tu} (e : ∀ x : Int, x < 5 * j + 5 → N 24 0 0 x = M 24 0 0 x) (h : PA M j t) : PA N j t := by
  unfold PA at h ⊢
  rw [e _ (by omega), e _ (by omega), e _ (by omega), e _ (by omega), e _ (by omega)]
  exact h
theorem PS_low {M N : XM} : ∀ (l : List Tu) (j : Int), (∀ x : Int, x < 5 * (j + l.length) → N 24 0 0 x = M 24 0 0 x) → PS M j l → PS N j l
  | [], _, _, _ => trivial
  | t :: ts, j, e, h => by
    have hl : (((t :: ts).length : Nat) : Int) = ts.length + 1 := by simp only [List.length_cons]; omega
    rw [hl] at e
    exact ⟨PA_low (fun x hx => e x (by omega)) h.1, PS_low ts (j + 1) (fun x hx => e x (by omega)) h.2⟩
theorem RS_all : ∀ (n : Nat) (i : Int) (C N : XM), RS C N → (∀ j : Int, i ≤ j → j < i + n → N 23 0 0 j = C 17 0 0 j) → (feF n i C).1 = (reF n i N).1 ∧ ((reF n i N).1 = i + n → RS (feF n i C).2 (reF n i N).2 ∧ PS (reF n i N).2 (N 20 0 0 9) (uI n i C) ∧ (∀ t ∈ uI n i C, tuOK t) ∧ (reF n i N).2 20 0 0 9 = N 20 0 0 9 + (uI n i C).length ∧ ∀ x : Int, x < 5 * N 20 0 0 9 → (reF n i N).2 24 0 0 x = N 24 0 0 x)
  | 0, i, C, N, h, _ => ⟨rfl, fun _ => ⟨h, trivial, fun t ht => absurd ht List.not_mem_nil, by simp [uI, reF], fun _ _ => rfl⟩⟩
  | n + 1, i, C, N, h, hx => by
    have ec := hx i (Int.le_refl i) (by omega)
    obtain ⟨s1, s2⟩ := RS_step (C 17 0 0 i) h
    simp only [feF, reF, uI]
    rw [ec]
    rcases tkR_01 N (C 17 0 0 i) with t0 | t0
    · rw [t0] at s1
      rw [if_pos s1, if_pos t0]
      exact ⟨rfl, fun q => by dsimp only at q; omega⟩
    · rw [t0] at s1
      rw [if_neg (by rw [s1]; decide), if_neg (by rw [t0]; decide)]
      obtain ⟨s3, s4⟩ := s2 t0
      have hx2 : ∀ j : Int, i + 1 ≤ j → j < i + 1 + n → (tkR N (C 17 0 0 i)).2 23 0 0 j = (rdM C (C 17 0 0 i)) 17 0 0 j := fun j a b => by
        rw [tkR_tag (by decide) (by decide), rdM_tag (by decide) (by decide)]
        exact hx j (by omega) (by omega)
      by_cases q : C 17 0 0 i = 44
      · obtain ⟨r1, r2, r3, r4, r5⟩ := s4 q
        obtain ⟨i1, i2⟩ := RS_all n (i + 1) _ _ r1 hx2
        refine ⟨i1, fun w => ?_⟩
        obtain ⟨j1, j2, j3, j4, j5⟩ := i2 (by omega)
        rw [if_pos q]
        rw [r2] at j2 j4 j5
        refine ⟨j1, ⟨PA_low (fun x hx => j5 x (by omega)) r3, j2⟩, fun t ht => ?_, ?_, fun x hx => (j5 x (by omega)).trans (r5 x hx)⟩
        · rcases List.mem_cons.mp ht with rfl | ht
          · exact r4
          · exact j3 t ht
        · rw [j4]
          simp only [List.length_cons]
          omega
      · obtain ⟨r1, r2, r5⟩ := s3 q
        obtain ⟨i1, i2⟩ := RS_all n (i + 1) _ _ r1 hx2
        refine ⟨i1, fun w => ?_⟩
        obtain ⟨j1, j2, j3, j4, j5⟩ := i2 (by omega)
        rw [if_neg q]
        rw [r2] at j2 j4 j5
        exact ⟨j1, j2, j3, j4, fun x hx => (j5 x hx).trans (r5 x hx)⟩
theorem uL_uI : ∀ (n : Nat) (i : Int) (C : XM), (feF n i C).1 = i + n → uL n i C = uI n i C ++ [uT (feF n i C).2]
  | 0, i, C, _ => rfl
  | n + 1, i, C, h => by
    simp only [feF] at h ⊢
    by_cases q : rdB C (C 17 0 0 i) = 0
    · rw [if_pos q] at h
      dsimp only at h
      omega
    · rw [if_neg q] at h ⊢
      have r := uL_uI n (i + 1) (rdM C (C 17 0 0 i)) (by omega)
      simp only [uL, uI]
      rw [r]
      split
      · rfl
      · rfl
/-- the list of units of a whole sheet -/
theorem sheet_l {C N : XM} {n : Nat} {i : Int} (h : RS C N) (h9 : N 20 0 0 9 = 0) (hx : ∀ j : Int, i ≤ j → j < i + n → N 23 0 0 j = C 17 0 0 j) (hw : (reF n i N).1 = i + n) (hd : (reF n i N).2 20 0 0 11 = 5) (h30 : 30 ≤ (reF n i N).2 20 0 0 10) : PS (enM (reF n i N).2 0) 0 (uL n i C) ∧ ((uL n i C).length : Int) = (reF n i N).2 20 0 0 9 + 1 ∧ ∀ t ∈ uL n i C, tuOK t := by
  obtain ⟨a1, a2⟩ := RS_all n i C N h hx
  obtain ⟨b1, b2, b3, b4, b5⟩ := a2 hw
  rw [uL_uI n i C (a1.trans hw)]
  rw [h9] at b2 b4
  obtain ⟨P, hP⟩ : ∃ P, P = (reF n i N).2 := ⟨_, rfl⟩
  obtain ⟨D, hD⟩ : ∃ D, D = (feF n i C).2 := ⟨_, rfl⟩
  rw [← hP] at hd h30 b1 b2 b4 ⊢
  rw [← hD] at b1 ⊢
  have n5 := ne5 (5 * P 20 0 0 9)
  have x5 := ix5 (5 * P 20 0 0 9)
  rcases b1 with ⟨h1, -⟩ | ⟨h1, -⟩ | ⟨h1, -⟩ | ⟨h1, -⟩ | ⟨h1, -⟩ | ⟨h1, h2, h3, h4, h5, h6, h7, h8, h9, h10, h11, h12⟩
  · omega
  · omega
  · omega
  · omega
  · omega
  · refine ⟨PS_app _ _ 0 (PS_low _ 0 (fun x hx => ?_) b2) ⟨?_, trivial⟩, ?_, fun t ht => ?_⟩
    · have y4 : ¬ x = 5 * P 20 0 0 9 + 4 := by omega
      unfold enM
      rw [hd]
      simp only [xup_app, Nat.reduceEqDiff, Int.reduceEq, true_and, and_true, false_and, and_false, and_self, true_or, or_true, if_true, if_false, n5.1, n5.2.1, n5.2.2.1, n5.2.2.2.1, n5.2.2.2.2.1, n5.2.2.2.2.2.1, n5.2.2.2.2.2.2.1, n5.2.2.2.2.2.2.2.1, n5.2.2.2.2.2.2.2.2.1, n5.2.2.2.2.2.2.2.2.2.1, n5.2.2.2.2.2.2.2.2.2.2.1, n5.2.2.2.2.2.2.2.2.2.2.2.1, n5.2.2.2.2.2.2.2.2.2.2.2.2.1, n5.2.2.2.2.2.2.2.2.2.2.2.2.2.1, n5.2.2.2.2.2.2.2.2.2.2.2.2.2.2.1, n5.2.2.2.2.2.2.2.2.2.2.2.2.2.2.2.1, n5.2.2.2.2.2.2.2.2.2.2.2.2.2.2.2.2.1, n5.2.2.2.2.2.2.2.2.2.2.2.2.2.2.2.2.2.1, n5.2.2.2.2.2.2.2.2.2.2.2.2.2.2.2.2.2.2.1, n5.2.2.2.2.2.2.2.2.2.2.2.2.2.2.2.2.2.2.2, x5.1, x5.2.1, x5.2.2.1, x5.2.2.2, y4]
    · rw [← b4]
      unfold PA uT enM
      rw [hd]
      simp only [xup_app, Nat.reduceEqDiff, Int.reduceEq, true_and, and_true, false_and, and_false, and_self, true_or, or_true, if_true, if_false, n5.1, n5.2.1, n5.2.2.1, n5.2.2.2.1, n5.2.2.2.2.1, n5.2.2.2.2.2.1, n5.2.2.2.2.2.2.1, n5.2.2.2.2.2.2.2.1, n5.2.2.2.2.2.2.2.2.1, n5.2.2.2.2.2.2.2.2.2.1, n5.2.2.2.2.2.2.2.2.2.2.1, n5.2.2.2.2.2.2.2.2.2.2.2.1, n5.2.2.2.2.2.2.2.2.2.2.2.2.1, n5.2.2.2.2.2.2.2.2.2.2.2.2.2.1, n5.2.2.2.2.2.2.2.2.2.2.2.2.2.2.1, n5.2.2.2.2.2.2.2.2.2.2.2.2.2.2.2.1, n5.2.2.2.2.2.2.2.2.2.2.2.2.2.2.2.2.1, n5.2.2.2.2.2.2.2.2.2.2.2.2.2.2.2.2.2.1, n5.2.2.2.2.2.2.2.2.2.2.2.2.2.2.2.2.2.2.1, n5.2.2.2.2.2.2.2.2.2.2.2.2.2.2.2.2.2.2.2, x5.1, x5.2.1, x5.2.2.1, x5.2.2.2]
      omega
    · simp only [List.length_append, List.length_cons, List.length_nil]
      omega
    · rcases List.mem_append.mp ht with ht | ht
      · exact b3 t ht
      · obtain rfl := List.mem_singleton.mp ht
        unfold tuOK uT
        dsimp only
        omega
/-! the class adds the units of the list -/
def rEq (C D : XM) : Prop := C 18 0 0 0 = D 18 0 0 0 ∧ C 18 0 0 1 = D 18 0 0 1 ∧ (C 19 0 0 0 = D 19 0 0 0 ∧ C 19 0 0 1 = D 19 0 0 1 ∧ C 19 0 0 2 = D 19 0 0 2 ∧ C 19 0 0 3 = D 19 0 0 3)
theorem rEq_at {C D : XM} (h : rEq C D) (hp : 0 ≤ C 18 0 0 0) (h4 : C 18 0 0 0 < 4) : C 19 0 0 (C 18 0 0 0) = D 19 0 0 (D 18 0 0 0) := by
  obtain ⟨h0, h1, h2, h3, h5, h6⟩ := h
  rw [← h0]
  rcases (show C 18 0 0 0 = 0 ∨ C 18 0 0 0 = 1 ∨ C 18 0 0 0 = 2 ∨ C 18 0 0 0 = 3 by omega) with e | e | e | e <;> rw [e] <;> assumption
theorem rWh_eq {C D : XM} (h : rEq C D) (hp : 0 ≤ C 18 0 0 0) : rWh C ↔ rWh D := by
  unfold rWh
  by_cases h4 : C 18 0 0 0 < 4
  · have e := rEq_at h hp h4
    rw [e, h.1]
  · rw [h.1] at h4
    rw [h.1]
    exact ⟨fun z => absurd z.1 h4, fun z => absurd z.1 h4⟩
theorem rNx_eq {C D : XM} (h : rEq C D) (hp : 0 ≤ C 18 0 0 0) (c : Int) : rNx C c = rNx D c := by
  unfold rNx
  have w := rWh_eq h hp
  have e : D 18 0 0 0 = C 18 0 0 0 := h.1.symm
  by_cases p5 : C 18 0 0 0 = 5
  · rw [if_pos p5, if_pos (show D 18 0 0 0 = 5 from by omega)]
  · rw [if_neg p5, if_neg (show ¬ D 18 0 0 0 = 5 from by omega)]
    by_cases q : rWh C
    · rw [if_neg (show ¬ ¬ rWh C from fun z => z q), if_neg (show ¬ ¬ rWh D from fun z => z (w.mp q))]
      simp only [e]
    · rw [if_pos q, if_pos (show ¬ rWh D from fun z => q (w.mpr z))]
theorem rdM_eq {C D : XM} (h : rEq C D) (hI : rI C) (c : Int) : rEq (rdM C c) (rdM D c) := by
  have hp := hI.1.1
  have h0 := h.1
  by_cases p4 : C 18 0 0 0 = 4
  · unfold rdM
    rw [if_pos p4, if_pos (show D 18 0 0 0 = 4 from by rw [← h0]; exact p4)]
    by_cases g : 48 ≤ c ∧ c ≤ 55
    · rw [if_pos g, if_pos g]
      unfold rEq
      simp only [xup_app, Nat.reduceEqDiff, Int.reduceEq, true_and, and_true, false_and, and_false, and_self, true_or, or_true, if_true, if_false]
      exact h.2.2
    · rw [if_neg g, if_neg g]
      exact h
  · rw [rdM_n p4, rdM_n (by rw [← h0]; exact p4)]
    by_cases h4 : C 18 0 0 0 < 4
    · have e := rEq_at h hp h4
      rw [← e, ← h0]
      by_cases g : rDg (C 18 0 0 0) (C 19 0 0 (C 18 0 0 0)) c
      · rw [if_pos g, if_pos g]
        obtain ⟨h0, h1, h2, h3, h5, h6⟩ := h
        unfold rEq
        rcases (show C 18 0 0 0 = 0 ∨ C 18 0 0 0 = 1 ∨ C 18 0 0 0 = 2 ∨ C 18 0 0 0 = 3 by omega) with e | e | e | e <;> rw [e] <;> simp only [xup_app, Nat.reduceEqDiff, Int.reduceEq, true_and, and_true, false_and, and_false, and_self, true_or, or_true, if_true, if_false] <;> (try rw [e] at h0) <;> omega
      · rw [if_neg g, if_neg g, ← rNx_eq h hp]
        split
        · exact h
        · unfold rSg
          rw [← rNx_eq h hp]
          split
          · unfold rEq rBeg
            simp only [xup_app, Nat.reduceEqDiff, Int.reduceEq, true_and, and_true, false_and, and_false, and_self, true_or, or_true, if_true, if_false]
          · obtain ⟨h0, h1, h2, h3, h5, h6⟩ := h
            unfold rEq
            simp only [xup_app, Nat.reduceEqDiff, Int.reduceEq, true_and, and_true, false_and, and_false, and_self, true_or, or_true, if_true, if_false]
            omega
    · have g1 : ¬ rDg (C 18 0 0 0) (C 19 0 0 (C 18 0 0 0)) c := fun z => h4 z.1
      have g2 : ¬ rDg (D 18 0 0 0) (D 19 0 0 (D 18 0 0 0)) c := fun z => h4 (by rw [h0]; exact z.1)
      rw [if_neg g1, if_neg g2, ← rNx_eq h hp]
      split
      · exact h
      · unfold rSg
        rw [← rNx_eq h hp]
        split
        · unfold rEq rBeg
          simp only [xup_app, Nat.reduceEqDiff, Int.reduceEq, true_and, and_true, false_and, and_false, and_self, true_or, or_true, if_true, if_false]
        · obtain ⟨h0, h1, h2, h3, h5, h6⟩ := h
          unfold rEq
          simp only [xup_app, Nat.reduceEqDiff, Int.reduceEq, true_and, and_true, false_and, and_false, and_self, true_or, or_true, if_true, if_false]
          omega
theorem uT_eq {C D : XM} (h : rEq C D) : uT C = uT D := by
  obtain ⟨h0, h1, h2, h3, h5, h6⟩ := h
  unfold uT
  rw [h1, h2, h3, h5, h6]
theorem uL_eq : ∀ (n : Nat) (i : Int) (C D : XM), rEq C D → rI C → C 17 = D 17 → uL n i C = uL n i D
  | 0, _, C, D, h, _, _ => by simp only [uL, uT_eq h]
  | n + 1, i, C, D, h, hI, e => by
    simp only [uL]
    rw [← e, uT_eq h, uL_eq n (i + 1) (rdM C (C 17 0 0 i)) (rdM D (C 17 0 0 i)) (rdM_eq h hI _) (rI_rd hI) (by rw [rdM_tag (by decide) (by decide), rdM_tag (by decide) (by decide), e])]
/-- the same but for the reader -/
def cF (C F : XM) : Prop := ∀ t : Nat, ¬ t = 18 → ¬ t = 19 → C t = F t
theorem cF_rd {C F : XM} (h : cF C F) (c : Int) : cF (rdM C c) F := fun t a b => (rdM_tag a b).trans (h t a b)
theorem cF_new {C F : XM} (h : cF C F) : cF (auU C) (nuT F 0 (uT C)) := by
  intro t a b
  unfold auU nuT uT fNewU
  have e1 := h 1 (by decide) (by decide)
  funext i k s
  simp only [xup_app, e1, h t a b]
theorem rEq_refl (C : XM) : rEq C C := ⟨rfl, rfl, rfl, rfl, rfl, rfl⟩
theorem rEq_au (C : XM) : rEq C (auU C) := by
  have e : ∀ t : Nat, t = 18 ∨ t = 19 → auU C t = C t := fun t ht => by
    unfold auU
    exact fNewU_tag (by omega) (by omega)
  unfold rEq
  rw [e 18 (by decide), e 19 (by decide)]
  exact ⟨rfl, rfl, rfl, rfl, rfl, rfl⟩
theorem auF_adL : ∀ (n : Nat) (i a : Int) (C F : XM), cF C F → rI C → i + n = C 0 0 0 5 → (auF (n + 1) i a C).1 = a + (adL 0 (uL n i C) F).1 ∧ cF (auF (n + 1) i a C).2 (adL 0 (uL n i C) F).2
  | 0, i, a, C, F, h, hI, hi => by
    have e1 := h 1 (by decide) (by decide)
    have ei : i = C 0 0 0 5 := by omega
    simp only [auF, uL, adL]
    rw [if_pos (Or.inl ei)]
    have ri : ∀ D : XM, D 0 = C 0 → rdI D i = D := fun D e => by
      unfold rdI
      rw [e, if_neg (by omega)]
    have em : maT F 0 (uT C) ↔ (C 18 0 0 1 < C 1 0 0 3 ∧ max 0 (C 19 0 0 1) ≤ C 19 0 0 0 ∧ C 1 0 0 10 < 12) := by
      unfold maT uT
      rw [e1]
    by_cases m : C 18 0 0 1 < C 1 0 0 3 ∧ max 0 (C 19 0 0 1) ≤ C 19 0 0 0 ∧ C 1 0 0 10 < 12
    · rw [if_pos m, if_pos (em.mpr m), ri (auU C) (auU_0 C)]
      exact ⟨by dsimp only; omega, cF_new h⟩
    · rw [if_neg m, if_neg (fun z => m (em.mp z))]
      exact ⟨by dsimp only; omega, h⟩
  | n + 1, i, a, C, F, h, hI, hi => by
    have e1 := h 1 (by decide) (by decide)
    have e0 := h 0 (by decide) (by decide)
    have ei : i < C 0 0 0 5 := by omega
    have ri : ∀ D : XM, D 0 = C 0 → D 17 = C 17 → rdI D i = rdM D (C 17 0 0 i) := fun D e e2 => by
      unfold rdI
      rw [e, e2, if_pos ei]
    have em : maT F 0 (uT C) ↔ (C 18 0 0 1 < C 1 0 0 3 ∧ max 0 (C 19 0 0 1) ≤ C 19 0 0 0 ∧ C 1 0 0 10 < 12) := by
      unfold maT uT
      rw [e1]
    rw [auF]
    simp only [uL]
    by_cases q : C 17 0 0 i = 44
    · rw [if_pos (Or.inr q), if_pos q]
      simp only [adL]
      by_cases m : C 18 0 0 1 < C 1 0 0 3 ∧ max 0 (C 19 0 0 1) ≤ C 19 0 0 0 ∧ C 1 0 0 10 < 12
      · have a17 : auU C 17 = C 17 := fNewU_tag (by decide) (by decide)
        rw [if_pos m, if_pos (em.mpr m), ri (auU C) (auU_0 C) a17]
        have hI2 : rI (auU C) := by
          unfold rI at hI ⊢
          have e18 : auU C 18 = C 18 := fNewU_tag (by decide) (by decide)
          have e19 : auU C 19 = C 19 := fNewU_tag (by decide) (by decide)
          rw [e18, e19]
          exact hI
        obtain ⟨r1, r2⟩ := auF_adL n (i + 1) (a + 1) (rdM (auU C) (C 17 0 0 i)) (nuT F 0 (uT C)) (cF_rd (cF_new h) _) (rI_rd hI2) (by rw [rdM_tag (by decide) (by decide), auU_0]; omega)
        have eu := uL_eq n (i + 1) (rdM C (C 17 0 0 i)) (rdM (auU C) (C 17 0 0 i)) (rdM_eq (rEq_au C) hI _) (rI_rd hI) (by rw [rdM_tag (by decide) (by decide), rdM_tag (by decide) (by decide), a17])
        rw [eu]
        exact ⟨by rw [r1]; dsimp only; omega, r2⟩
      · rw [if_neg m, if_neg (fun z => m (em.mp z))]
        exact ⟨by dsimp only; omega, h⟩
    · rw [if_neg (fun z => z.elim (fun z => by omega) q), if_neg q, ri C rfl rfl]
      exact auF_adL n (i + 1) a (rdM C (C 17 0 0 i)) F (cF_rd h _) (rI_rd hI) (by rw [rdM_tag (by decide) (by decide)]; omega)
end XSm

