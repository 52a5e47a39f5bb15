section XKl
/-! the two are in relation at the start -/
theorem sm_0 : ∀ (n : Nat) (f : Int → Int) (a : Int), (∀ x : Int, f x = 0) → sm f a n = 0
  | 0, _, _, _ => rfl
  | n + 1, f, a, h => by
    rw [sm_cons, h, sm_0 n f (a + 1) h]
    rfl
theorem M0_fC (i : Int) : fC M0 i := by
  unfold fC
  exact ⟨⟨(show (0 : Int) ≤ 0 by decide), (show (0 : Int) ≤ 8 by decide)⟩, ⟨(show (0 : Int) ≤ 0 by decide), (show (0 : Int) ≤ 3 by decide)⟩, ⟨(show (0 : Int) ≤ 0 by decide), (show (0 : Int) ≤ 4 by decide)⟩, ⟨(show (0 : Int) ≤ 0 by decide), (show (0 : Int) ≤ 12 by decide)⟩, ⟨(show (0 : Int) ≤ 0 by decide), (show (0 : Int) ≤ 30000 by decide)⟩, ⟨(show (1 : Int) ≤ 10 by decide), (show (10 : Int) ≤ 50 by decide)⟩, ⟨(show (0 : Int) ≤ 15 by decide), (show (15 : Int) ≤ 120 by decide)⟩, ⟨(show (0 : Int) ≤ 1 by decide), (show (1 : Int) ≤ 20 by decide)⟩, ⟨(show (5 : Int) ≤ 40 by decide), (show (40 : Int) ≤ 60 by decide)⟩, ⟨(show (1 : Int) ≤ 5 by decide), (show (5 : Int) ≤ 20 by decide)⟩, ⟨(show (10 : Int) ≤ 120 by decide), (show (120 : Int) ≤ 500 by decide)⟩, fun p _ _ => ⟨⟨Int.le_refl 0, (show (0 : Int) ≤ 99 by decide)⟩, ⟨Int.le_refl 0, (show (0 : Int) ≤ 99 by decide)⟩⟩⟩
theorem M0_fS (i : Int) : fS 0 M0 i := by
  refine ⟨fun j _ _ => ⟨?_, fun x _ _ => Int.le_refl 0⟩, fun x _ _ => ?_⟩
  · unfold mI
    intro d _ _
    have e := sm_0 64 (M0 11 i j) (64 * d) (fun _ => rfl)
    exact (show (0 : Int) = 0 from rfl).trans e.symm
  · have e := sm_0 7 (fun j => M0 11 i j x) 0 (fun _ => rfl)
    rw [e]
    exact Int.le_refl 0
theorem M0_fK (i : Int) : fK M0 i := fun k _ _ => ⟨⟨(show (0 : Int) ≤ 0 by decide), (show (0 : Int) < 8 by decide)⟩, fun w _ _ => ⟨Int.le_refl 0, (show (0 : Int) ≤ 999 by decide)⟩, ⟨(show (-1 : Int) ≤ -1 by decide), (show (-1 : Int) ≤ 2 by decide)⟩, ⟨(show (0 : Int) ≤ 0 by decide), (show (0 : Int) ≤ 300 by decide)⟩, fun h => absurd (show (0 : Int) < 0 from h) (by decide)⟩
theorem M0_fL (i : Int) : fL M0 i := fun l _ _ => ⟨⟨(show (-1 : Int) ≤ -1 by decide), (show (-1 : Int) < 8 by decide)⟩, ⟨(show (-1 : Int) ≤ -1 by decide), (show (-1 : Int) < 8 by decide)⟩, ⟨(show (0 : Int) ≤ 0 by decide), (show (0 : Int) ≤ 10000 by decide)⟩, fun _ => rfl, fun h => absurd rfl h⟩
theorem M0_fU (i : Int) : fU 0 M0 i := by
  refine ⟨fun u _ _ => ⟨⟨(show (0 : Int) ≤ 0 by decide), (show (0 : Int) ≤ 2 by decide)⟩, ⟨(show (0 : Int) ≤ 0 by decide), (show (0 : Int) < 8 by decide)⟩, ⟨(show (0 : Int) ≤ 0 by decide), (show (0 : Int) ≤ 0 by decide), (show (0 : Int) ≤ 300 by decide)⟩, ⟨(show (0 : Int) ≤ 0 by decide), (show (0 : Int) ≤ 50000 by decide)⟩, ⟨(show (0 : Int) ≤ 0 by decide), (show (0 : Int) ≤ 600 by decide)⟩, ⟨(show (0 : Int) ≤ 0 by decide), (show (0 : Int) ≤ 0 by decide)⟩, ⟨(show (-1 : Int) ≤ -1 by decide), (show (-1 : Int) ≤ 30000 by decide)⟩, ⟨(show (0 : Int) ≤ 0 by decide), (show (0 : Int) ≤ 0 by decide)⟩, ⟨(show (0 : Int) ≤ 0 by decide), (show (0 : Int) ≤ 100000000 by decide)⟩⟩, ?_, Int.le_refl 0⟩
  exact sm_0 12 (uG M0 i) 0 (fun _ => rfl)
theorem M0_fH (i : Int) : fH M0 i := ⟨⟨M0_fC i, M0_fS i, M0_fK i, M0_fL i, M0_fU i⟩, (show (0 : Int) ≤ 20000 by decide)⟩
theorem M0_KI : KI M0 := ⟨M0_fH 0, ⟨by decide, by decide⟩, ⟨by decide, by decide⟩⟩
end XKl
