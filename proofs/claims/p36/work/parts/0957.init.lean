section XIn
/-! the law up to its loop -/
/-- with p places and q kitchens and lorries -/
def IN (N : Int → Int) (n0 p q : Int) (M : XM) : Prop := KI M ∧
  ((∀ (t : Nat) (k s : Int), t < 20 → ¬ t = 15 → ¬ t = 1 → ¬ t = 3 → ¬ t = 4 → ¬ (t = 8 ∧ s = 0) → ¬ (t = 13 ∧ s = 0) → M t 0 k s = M0 t 0 k s) ∧ (∀ s : Int, M 1 0 0 s = if s = 3 then p else if s = 6 ∨ s = 8 then q else 0)) ∧
  (∀ i : Int, 0 ≤ i → i < p → (0 ≤ M 21 0 0 i ∧ M 21 0 0 i < 1000) ∧ M 3 0 0 i = M 21 0 0 i / 100 ∧ M 4 0 0 i = M 21 0 0 i % 100) ∧
  (∀ j : Int, 0 ≤ j → j < q → (M 8 0 j 0 = M 22 0 0 j ∧ 0 ≤ M 22 0 0 j ∧ M 22 0 0 j < n0) ∧ (M 13 0 j 0 = M 26 0 0 j ∧ 0 ≤ M 26 0 0 j ∧ M 26 0 0 j < n0)) ∧
  (∀ s : Int, M 20 0 0 s = N s) ∧ (∀ (t : Nat) (s : Int), t = 23 ∨ t = 24 ∨ t = 25 ∨ t = 27 ∨ t = 28 ∨ t = 29 → M t 0 0 s = 0) ∧ M 15 0 0 2 = min 6 (p + 2 * q)
def nR (n0 : Int) : Int → Int := fun s => if s = 0 then n0 else if s = 11 then 120 else if s = 10 then 5 else if s = 9 then 40 else if s = 8 then 1 else if s = 7 then 15 else if s = 6 then 10 else 0
theorem uv_addPlace {x y : Int} {M : XM} {Q : XPo} (hK : KI M) (hx : 0 ≤ x ∧ x ≤ 99) (hy : 0 ≤ y ∧ y ≤ 99) (h8 : ¬ 8 ≤ M 1 0 0 3) (h : Q [xI (M 1 0 0 3)] (fNewP (fKeep M) 0 x y)) : sX7_addPlace [xR 0 0 0, xI x, xI y] M Q := ⟨⟨rfl, xvz_0⟩, hK, ⟨by omega, by omega⟩, ⟨by omega, by omega⟩, hx, hy, h8, h⟩
theorem uv_addKitchen {p : Int} {M : XM} {Q : XPo} (hK : KI M) (p8 : p < 8) (hp : 0 ≤ p ∧ p < M 1 0 0 3) (h8 : ¬ 3 ≤ M 1 0 0 6) (h : Q [xI (M 1 0 0 6)] (fNewK (fKeep M) 0 p)) : sX7_addKitchen [xR 0 0 0, xI p] M Q := ⟨⟨rfl, xvz_0⟩, hK, ⟨by omega, by omega⟩, hp, h8, h⟩
theorem uv_addLorry {p : Int} {M : XM} {Q : XPo} (hK : KI M) (p8 : p < 8) (hp : 0 ≤ p ∧ p < M 1 0 0 3) (h8 : ¬ 4 ≤ M 1 0 0 8) (h : Q [xI (M 1 0 0 8)] (fNewL (fKeep M) 0 p)) : sX7_addLorry [xR 0 0 0, xI p] M Q := ⟨⟨rfl, xvz_0⟩, hK, ⟨by omega, by omega⟩, hp, h8, h⟩
theorem fK15 (M : XM) : fKeep M 15 0 0 2 = min 6 (M 15 0 0 2 + 1) := by
  unfold fKeep
  rw [xup_app, if_pos ⟨rfl, rfl, rfl, rfl⟩]
theorem IN_place {N : Int → Int} {n0 p x : Int} {M M2 : XM} (h : IN N n0 p 0 M) (hp : 0 ≤ p ∧ p < 3) (hx : 0 ≤ x ∧ x < 1000) (h2 : M2 = fNewP (fKeep (xup M 21 0 0 p x)) 0 (x / 100) (x % 100)) : IN N n0 (p + 1) 0 M2 := by
  obtain ⟨hK, ⟨g1, g2⟩, g3, g4, g5, g6, g7⟩ := h
  obtain ⟨M1, hM1⟩ : ∃ M1 : XM, M1 = xup M 21 0 0 p x := ⟨_, rfl⟩
  rw [← hM1] at h2
  have E1 : EQ M1 M := fun t ht => by rw [hM1, xup_tag (by omega)]
  have K1 := KI_EQ hK E1
  have k : ∀ (t : Nat) (j s : Int), t < 20 → ¬ t = 15 → fKeep M1 t 0 j s = M t 0 j s := fun t j s ht h15 => by rw [fKeep_0' K1 j s h15, E1 t ht]
  have e3 : fKeep M1 1 0 0 3 = p := by rw [k 1 _ _ (by decide) (by decide), g2, if_pos rfl]
  have at2 : ∀ (t : Nat) (j s : Int), M2 t 0 j s = if t = 1 ∧ j = 0 ∧ s = 3 then p + 1 else if t = 4 ∧ j = 0 ∧ s = p then x % 100 else if t = 3 ∧ j = 0 ∧ s = p then x / 100 else fKeep M1 t 0 j s := fun t j s => by
    rw [h2]
    unfold fNewP
    rw [e3]
    simp only [xup_app, true_and]
  have o2 : ∀ (t : Nat) (j s : Int), ¬ t = 1 → ¬ t = 3 → ¬ t = 4 → M2 t 0 j s = fKeep M1 t 0 j s := fun t j s a b c => by rw [at2, if_neg (fun z => a z.1), if_neg (fun z => c z.1), if_neg (fun z => b z.1)]
  have hi : ∀ (t : Nat) (s : Int), 20 ≤ t → M2 t 0 0 s = M1 t 0 0 s := fun t s ht => by rw [o2 t 0 s (by omega) (by omega) (by omega), fKeep_hi ht]
  have hi1 : ∀ (t : Nat) (s : Int), 20 ≤ t → ¬ t = 21 → M2 t 0 0 s = M t 0 0 s := fun t s ht n => by rw [hi t s ht, hM1, xup_tag n]
  have t15 : M2 15 = fKeep M1 15 := by
    rw [h2]
    unfold fNewP
    rw [xup_tag (by decide), xup_tag (by decide), xup_tag (by decide)]
  refine ⟨KI_op K1 t15 (by rw [at2, if_neg (by omega), if_neg (by omega), if_neg (by omega)]) (fun c b hI => by rw [h2]; exact fI_newP hI (by rw [e3]; omega) ⟨by omega, by omega⟩ ⟨by omega, by omega⟩), ⟨fun t j s ht h15 h1 h3 h4 h8 h13 => by rw [o2 t j s h1 h3 h4, k t j s ht h15]; exact g1 t j s ht h15 h1 h3 h4 h8 h13, fun s => by
    rw [at2]
    by_cases e : s = 3
    · rw [if_pos ⟨rfl, rfl, e⟩, if_pos e]
    · rw [if_neg (fun z => e z.2.2), if_neg (by omega), if_neg (by omega), k 1 _ _ (by decide) (by decide), g2]
      simp only [e, if_false]⟩, fun i i0 i1 => ?_, fun j j0 j1 => absurd j1 (by omega), fun s => by rw [hi1 20 s (by decide) (by decide)]; exact g5 s, fun t s ht => by rw [hi1 t s (by omega) (by omega)]; exact g6 t s ht, ?_⟩
  · rw [hi 21 i (by decide), at2, at2, hM1, xup_row]
    simp only [sup_at, true_and]
    by_cases e : i = p
    · simp only [e, Nat.reduceEqDiff, false_and, if_false, if_true, and_self]
      exact ⟨hx, trivial⟩
    · simp only [e, Nat.reduceEqDiff, false_and, and_false, if_false]
      rw [← hM1, k 3 _ _ (by decide) (by decide), k 4 _ _ (by decide) (by decide)]
      exact g3 i i0 (by omega)
  · rw [t15, fK15, E1 15 (by decide), g7]
    omega
theorem IN_kl {N : Int → Int} {n0 q x y : Int} {M M3 M4 : XM} (h : IN N n0 n0 q M) (hn : 2 ≤ n0 ∧ n0 ≤ 3) (hq : 0 ≤ q ∧ q < 2) (hx : 0 ≤ x ∧ x < n0) (hy : 0 ≤ y ∧ y < n0) (h3 : M3 = fNewK (fKeep (xup (xup M 22 0 0 q x) 26 0 0 q y)) 0 x) (h4 : M4 = fNewL (fKeep M3) 0 y) : KI M3 ∧ M3 1 0 0 3 = n0 ∧ M3 1 0 0 8 = q ∧ M3 26 0 0 q = y ∧ IN N n0 n0 (q + 1) M4 := by
  obtain ⟨hK, ⟨g1, g2⟩, g3, g4, g5, g6, g7⟩ := h
  obtain ⟨M1, hM1⟩ : ∃ M1 : XM, M1 = xup (xup M 22 0 0 q x) 26 0 0 q y := ⟨_, rfl⟩
  rw [← hM1] at h3
  have E1 : EQ M1 M := fun t ht => by rw [hM1, xup_tag (by omega), xup_tag (by omega)]
  have K1 := KI_EQ hK E1
  have k : ∀ (t : Nat) (j s : Int), t < 20 → ¬ t = 15 → fKeep M1 t 0 j s = M t 0 j s := fun t j s ht h15 => by rw [fKeep_0' K1 j s h15, E1 t ht]
  have e6 : fKeep M1 1 0 0 6 = q := by rw [k 1 _ _ (by decide) (by decide), g2, if_neg (by decide), if_pos (by decide)]
  have at3 : ∀ (t : Nat) (j s : Int), M3 t 0 j s = if t = 1 ∧ j = 0 ∧ s = 6 then q + 1 else if t = 8 ∧ j = q ∧ s = 0 then x else fKeep M1 t 0 j s := fun t j s => by
    rw [h3]
    unfold fNewK
    rw [e6]
    simp only [xup_app, true_and]
  have t15 : M3 15 = fKeep M1 15 := by
    rw [h3]
    unfold fNewK
    rw [xup_tag (by decide), xup_tag (by decide)]
  have K3 : KI M3 := KI_op K1 t15 (by rw [at3, if_neg (by omega), if_neg (by omega)]) (fun c b hI => by rw [h3]; exact fI_newK hI (by rw [e6]; omega) ⟨hx.1, by omega⟩)
  have k3 : ∀ (t : Nat) (j s : Int), ¬ t = 15 → fKeep M3 t 0 j s = M3 t 0 j s := fun t j s h15 => fKeep_0' K3 j s h15
  have e8 : M3 1 0 0 8 = q := by rw [at3, if_neg (by omega), if_neg (by omega), k 1 _ _ (by decide) (by decide), g2, if_neg (by decide), if_pos (by decide)]
  have e8' : fKeep M3 1 0 0 8 = q := by rw [k3 _ _ _ (by decide)]; exact e8
  have at4 : ∀ (t : Nat) (j s : Int), M4 t 0 j s = if t = 1 ∧ j = 0 ∧ s = 8 then q + 1 else if t = 13 ∧ j = q ∧ s = 0 then y else fKeep M3 t 0 j s := fun t j s => by
    rw [h4]
    unfold fNewL
    rw [e8']
    simp only [xup_app, true_and]
  have t154 : M4 15 = fKeep M3 15 := by
    rw [h4]
    unfold fNewL
    rw [xup_tag (by decide), xup_tag (by decide)]
  have K4 : KI M4 := KI_op K3 t154 (by rw [at4, if_neg (by omega), if_neg (by omega)]) (fun c b hI => by rw [h4]; exact fI_newL hI (by rw [e8']; omega) ⟨hy.1, by omega⟩)
  have hi3 : ∀ (t : Nat) (s : Int), 20 ≤ t → M3 t 0 0 s = M1 t 0 0 s := fun t s ht => by rw [at3, if_neg (by omega), if_neg (by omega), fKeep_hi ht]
  have hi4 : ∀ (t : Nat) (s : Int), 20 ≤ t → M4 t 0 0 s = M1 t 0 0 s := fun t s ht => by rw [at4, if_neg (by omega), if_neg (by omega), fKeep_hi ht, hi3 t s ht]
  have m1 : ∀ (t : Nat) (s : Int), ¬ t = 22 → ¬ t = 26 → M1 t 0 0 s = M t 0 0 s := fun t s a b => by rw [hM1, xup_tag b, xup_tag a]
  have m22 : ∀ s : Int, M1 22 0 0 s = if s = q then x else M 22 0 0 s := fun s => by rw [hM1, xup_tag (by decide), xup_row]; rfl
  have m26 : ∀ s : Int, M1 26 0 0 s = if s = q then y else M 26 0 0 s := fun s => by rw [hM1, xup_row, xup_tag (by decide)]; rfl
  have lo : ∀ (t : Nat) (j s : Int), t < 20 → ¬ t = 15 → M4 t 0 j s = if t = 1 ∧ j = 0 ∧ s = 8 then q + 1 else if t = 13 ∧ j = q ∧ s = 0 then y else if t = 1 ∧ j = 0 ∧ s = 6 then q + 1 else if t = 8 ∧ j = q ∧ s = 0 then x else M t 0 j s := fun t j s ht h15 => by rw [at4, k3 t j s h15, at3, k t j s ht h15]
  refine ⟨K3, ?_, e8, by rw [hi3 26 q (by decide), m26, if_pos rfl], K4, ⟨fun t j s ht h15 h1 h3 h4 h8 h13 => by rw [lo t j s ht h15, if_neg (by omega), if_neg (by omega), if_neg (by omega), if_neg (by omega)]; exact g1 t j s ht h15 h1 h3 h4 h8 h13, fun s => by
    rw [lo 1 0 s (by decide) (by decide), g2]
    by_cases e8 : s = 8
    · rw [if_pos ⟨rfl, rfl, e8⟩, if_neg (by omega), if_pos (Or.inr e8)]
    · rw [if_neg (fun z => e8 z.2.2), if_neg (by omega)]
      by_cases e6 : s = 6
      · rw [if_pos ⟨rfl, rfl, e6⟩, if_neg (by omega), if_pos (Or.inl e6)]
      · rw [if_neg (fun z => e6 z.2.2), if_neg (by omega)]
        by_cases e3 : s = 3
        · rw [if_pos e3, if_pos e3]
        · rw [if_neg e3, if_neg e3, if_neg (by omega), if_neg (by omega)]⟩, fun i i0 i1 => by
    rw [hi4 21 i (by decide), m1 21 i (by decide) (by decide), lo 3 0 i (by decide) (by decide), lo 4 0 i (by decide) (by decide), if_neg (by omega), if_neg (by omega), if_neg (by omega), if_neg (by omega), if_neg (by omega), if_neg (by omega), if_neg (by omega), if_neg (by omega)]
    exact g3 i i0 i1, fun j j0 j1 => ?_, fun s => by rw [hi4 20 s (by decide), m1 20 s (by decide) (by decide)]; exact g5 s, fun t s ht => by rw [hi4 t s (by omega), m1 t s (by omega) (by omega)]; exact g6 t s ht, ?_⟩
  · rw [at3, if_neg (by omega), if_neg (by omega), k 1 _ _ (by decide) (by decide), g2, if_pos rfl]
  · rw [hi4 22 j (by decide), hi4 26 j (by decide), m22, m26, lo 8 j 0 (by decide) (by decide), lo 13 j 0 (by decide) (by decide)]
    by_cases e : j = q
    · simp only [e, Nat.reduceEqDiff, false_and, and_self, if_true, if_false, true_and]
      exact ⟨hx, hy⟩
    · simp only [e, Nat.reduceEqDiff, false_and, and_false, if_false]
      exact g4 j j0 (by omega)
  · rw [t154, fK15, t15, fK15, E1 15 (by decide), g7]
    omega
theorem IN_full {n0 : Int} {N : Int → Int} {M : XM} (h : IN N n0 n0 2 M) (hn : 2 ≤ n0 ∧ n0 ≤ 3) (hN : ∀ s : Int, N s = if s = 5 then 6 else if s = 2 then 2 else if s = 1 then 2 else nR n0 s) : Full 0 M := by
  obtain ⟨hK, ⟨g1, g2⟩, g3, g4, g5, g6, g7⟩ := h
  have n : ∀ s : Int, M 20 0 0 s = if s = 5 then 6 else if s = 2 then 2 else if s = 1 then 2 else nR n0 s := fun s => by rw [g5, hN]
  unfold nR at n
  have z12 : ∀ s : Int, 12 ≤ s → M 20 0 0 s = 0 := fun s hs => by
    rw [n]
    iterate 10 rw [if_neg (by omega)]
  have a0 : M 20 0 0 0 = n0 := by rw [n]; rfl
  have a1 : M 20 0 0 1 = 2 := by rw [n]; rfl
  have a2 : M 20 0 0 2 = 2 := by rw [n]; rfl
  have a3 : M 20 0 0 3 = 0 := by rw [n]; rfl
  have a4 : M 20 0 0 4 = 0 := by rw [n]; rfl
  have a5 : M 20 0 0 5 = 6 := by rw [n]; rfl
  have a6 : M 20 0 0 6 = 10 := by rw [n]; rfl
  have a7 : M 20 0 0 7 = 15 := by rw [n]; rfl
  have a8 : M 20 0 0 8 = 1 := by rw [n]; rfl
  have a9 : M 20 0 0 9 = 40 := by rw [n]; rfl
  have a10 : M 20 0 0 10 = 5 := by rw [n]; rfl
  have a11 : M 20 0 0 11 = 120 := by rw [n]; rfl
  have l8 : ∀ k s : Int, ¬ s = 0 → M 8 0 k s = if s = 2 then -1 else 0 := fun k s hs => (g1 8 k s (by omega) (by omega) (by omega) (by omega) (by omega) (fun z => hs z.2) (by omega)).trans rfl
  have l13 : ∀ k s : Int, ¬ s = 0 → M 13 0 k s = if s = 0 ∨ s = 1 then -1 else 0 := fun k s hs => (g1 13 k s (by omega) (by omega) (by omega) (by omega) (by omega) (by omega) (fun z => hs z.2)).trans rfl
  have l14 : ∀ k s : Int, M 14 0 k s = if s = 8 then -1 else 0 := fun k s => (g1 14 k s (by omega) (by omega) (by omega) (by omega) (by omega) (by omega) (by omega)).trans rfl
  have l9 : ∀ k s : Int, M 9 0 k s = 0 := fun k s => (g1 9 k s (by omega) (by omega) (by omega) (by omega) (by omega) (by omega) (by omega)).trans rfl
  have l11 : ∀ k s : Int, M 11 0 k s = 0 := fun k s => (g1 11 k s (by omega) (by omega) (by omega) (by omega) (by omega) (by omega) (by omega)).trans rfl
  have l2 : ∀ s : Int, M 2 0 0 s = M0 2 0 0 s := fun s => g1 2 0 s (by omega) (by omega) (by omega) (by omega) (by omega) (by omega) (by omega)
  have z23 : ∀ s : Int, M 23 0 0 s = 0 := fun s => g6 23 s (by decide)
  have z25 : ∀ s : Int, M 25 0 0 s = 0 := fun s => g6 25 s (by decide)
  have z27 : ∀ s : Int, M 27 0 0 s = 0 := fun s => g6 27 s (by decide)
  have z29 : ∀ s : Int, M 29 0 0 s = 0 := fun s => g6 29 s (by decide)
  have zs : ∀ (f : Int → Int), (∀ u : Int, f u = 0) → s5 f = 0 := fun f hf => by
    unfold s5
    rw [hf, hf, hf, hf, hf]
    rfl
  refine ⟨hK, ⟨⟨by rw [a4]; decide, by decide⟩, by rw [a4, z12 18 (by decide)]; decide⟩, fun _ => 0, 0, ⟨⟨a6, a7, a8, a9, a10, a11⟩, ⟨(l2 0).trans rfl, (l2 1).trans rfl, (l2 2).trans rfl, (l2 3).trans rfl, (l2 4).trans rfl, (l2 5).trans rfl⟩, ⟨by omega, by omega⟩, ⟨a1, a2⟩, ⟨by omega, by omega⟩, ⟨by rw [g2, a0]; rfl, by rw [g2]; rfl, by rw [g2]; rfl, by rw [g2, a3]; rfl, by rw [g2, a4]; rfl⟩, by omega, a5, by rw [g7]; omega⟩, fun i i0 i1 => g3 i i0 (by omega), fun k k0 k1 => ?_, fun l k0 k1 => ?_, fun u u0 u1 => ⟨fun z => absurd z (by omega), fun _ => ?_⟩, ?_, ?_, ⟨fun q hq => absurd rfl hq, fun j hj x x0 x1 => l11 j x⟩, ?_⟩
  · have g := (g4 k k0 k1).1
    unfold rK1
    rw [z25, a0]
    exact ⟨g, fun d d0 d1 => by rw [l9, z23]; decide, ⟨(l8 k 3 (by decide)).trans rfl, by decide, by decide⟩, fun _ => (l8 k 2 (by decide)).trans rfl, fun z => absurd rfl z⟩
  · have g := (g4 l k0 k1).2
    unfold rL1
    rw [z27, a0]
    exact ⟨g.2, ⟨by decide, by decide, (l13 l 2 (by decide)).trans rfl⟩, fun _ => ⟨g.1, (l13 l 1 (by decide)).trans rfl⟩, fun z => absurd rfl z⟩
  · unfold rU0
    simp only [l14, Int.reduceEq, if_true, if_false, and_self]
  · unfold rT
    rw [zs _ (fun u => (l14 u 9).trans rfl), zs _ (fun u => (l14 u 10).trans rfl), zs _ (fun u => (l14 u 11).trans rfl), zs (uG M 0) (fun u => by unfold uG; rw [l14, l14, l14, l14]; rfl), l8 0 5 (by decide), l8 1 5 (by decide), l8 0 6 (by decide), l8 1 6 (by decide), l13 0 5 (by decide), l13 1 5 (by decide), g2, z12 13 (by decide), z12 14 (by decide), z12 15 (by decide), z12 16 (by decide), z12 17 (by decide), z12 18 (by decide)]
    exact ⟨rfl, rfl, rfl, rfl, rfl, rfl, rfl⟩
  · unfold BM
    rw [z12 12 (by decide)]
    exact ⟨⟨by decide, by decide⟩, fun k a b => absurd b (by omega), fun k k' a b => absurd b (by omega), fun _ => Or.inl rfl, rfl⟩
  · unfold rB
    rw [z12 13 (by decide), z12 15 (by decide), z12 12 (by decide), z12 16 (by decide), z25, z25, a3, zs (fun u => M 14 0 u 2) (fun u => (l14 u 2).trans rfl), zs _ (fun u => by
      by_cases c : u < 0
      · rw [if_pos c]
        unfold xU
        exact g6 28 _ (by decide)
      · rw [if_neg c])]
    exact ⟨by decide, by decide, by decide, by decide, by decide, by decide⟩
set_option maxRecDepth 100000 in
theorem kL_pl {Post : XPo} {WW : XK} (hC : XCl (xlk (pL_law Post)) WW) (hcell : ∀ pc : Nat, (pc = 100 ∨ pc = 130 ∨ pc = 144 ∨ pc = 214 ∨ pc = 234 ∨ pc = 290 ∨ pc = 302) → ∀ (L : XLs) (st : List XV) (M : XM) (k : Int), 0 ≤ k → k ≤ 1000 → xcat st ≤ 8 → (∀ v : Int, XInR v → WW (pc + 3) L (xI v :: st) M) → WW pc L (xI k :: xR 40 0 0 :: st) M) {n0 : Int} (hn : 2 ≤ n0 ∧ n0 ≤ 3) (h : ∀ M : XM, IN (nR n0) n0 n0 0 M → WW 187 [some (xR 40 0 0), some (xR 0 0 0), some (xR 20 0 0), some (xR 21 0 0), some (xR 22 0 0), some (xR 23 0 0), some (xR 24 0 0), some (xR 25 0 0), some (xR 26 0 0), some (xR 27 0 0), some (xR 28 0 0), some (xR 29 0 0), some (xI (n0)), none, none, none, none, none, none, none] [] M) : ∀ (n : Nat) (p : Int) (M : XM), 0 ≤ p → p + n = n0 → IN (nR n0) n0 p 0 M → WW 112 [some (xR 40 0 0), some (xR 0 0 0), some (xR 20 0 0), some (xR 21 0 0), some (xR 22 0 0), some (xR 23 0 0), some (xR 24 0 0), some (xR 25 0 0), some (xR 26 0 0), some (xR 27 0 0), some (xR 28 0 0), some (xR 29 0 0), some (xI (p)), none, none, none, none, none, none, none] [] M := by
  intro n
  induction n with
  | zero =>
    intro p M h0 h1 hI
    have e : p = n0 := by omega
    subst e
    have h' := h M hI
    have a0 : M 20 0 0 0 = p := (hI.2.2.2.2.1 0).trans rfl
    have rp : XInR p := ⟨by omega, by omega⟩
    refine yru_ok hC [187, 120] 7 _ _ _ _ ?_
    simp only [ykk_ap, Int.reduceEq, Int.reduceLT, Int.reduceLE, Int.reduceNeg, Int.reduceAdd, Int.reduceSub, Int.reduceMul, and_self, false_and, and_false, not_true_eq_false, not_false_eq_true, true_implies, false_implies, xq0, xq1, xq2, xq3, xq4, xq5, xqR, xq1R, xq3R, xt1, xt2, xt3, List.mem_cons, List.not_mem_nil, or_false, false_or, or_self, if_false, if_true, reduceIte, reduceCtorEq, xent, xen, List.length_cons, List.length_nil, List.replicate, j_c, j_cJ, j_ild, j_ald, j_lld, j_ist, j_ast, j_lst, j_inc, j_add, j_sub, j_mul, j_neg, j_div, j_rem, j_and, j_shr, j_shl1, j_or, j_ladd, j_lsub, j_lmul, j_i2l, j_lcmp, j_i2c, j_dup, j_dup2, j_pop, j_goto, j_ieq, j_ine, j_ilt, j_ige, j_igt, j_ile, j_eq, j_ne, j_lt, j_ge, j_gt, j_le, xsw, j_tsw, j_gI, j_gJ, j_gR, j_pI, j_pJ, j_gs, j_iald, j_iast, j_cald, j_cast, j_aald, j_cpy, j_min, j_max, j_abs, j_iret, j_zret, j_lret, j_dret, j_ret0, j_V0, j_V1, j_V2, j_V3, j_V4, j_V5, j_S1, j_S2, j_S3, xget, xset, xset2, xclr, xc1, xcat, Nat.reduceAdd, Nat.reduceEqDiff, Nat.reduceLT, Nat.reduceLeDiff, Nat.reduceMul, List.cons_append, List.nil_append, true_and, and_true, List.singleton_append, j_lsw2, j_Sn, j_ush, j_dupx2, List.take_succ_cons, List.take_zero, List.drop_succ_cons, List.drop_zero, List.reverse_cons, List.reverse_nil, Nat.le_refl, fL_law_112, fL_law_114, fL_law_115, fL_law_116, fL_law_117, xvz_20, xvz_21, xvz_22, xvz_23, xvz_24, xvz_25, xvz_26, xvz_27, xvz_28, xvz_29, xrz_20, xrz_21, xrz_22, xrz_23, xrz_24, xrz_25, xrz_26, xrz_27, xrz_28, xrz_29, xdz_20, xdz_21, xdz_22, xdz_23, xdz_24, xdz_25, xdz_26, xdz_27, xdz_28, xdz_29, xlen, xcat, xc1, Nat.zero_le, Nat.reduceLeDiff, List.length_cons, List.length_nil, xvz_0, a0, rp, Int.le_refl]
    exact h'
  | succ n ih =>
    intro p M h0 h1 hI
    have a0 : M 20 0 0 0 = n0 := (hI.2.2.2.2.1 0).trans rfl
    have rp : XInR p := ⟨by omega, by omega⟩
    have rn : XInR n0 := ⟨by omega, by omega⟩
    have hlt : ¬ n0 ≤ p := by omega
    have p8 : p < 8 := by omega
    refine yru_ok hC [187, 120] 7 _ _ _ _ ?_
    simp only [ykk_ap, Int.reduceEq, Int.reduceLT, Int.reduceLE, Int.reduceNeg, Int.reduceAdd, Int.reduceSub, Int.reduceMul, and_self, false_and, and_false, not_true_eq_false, not_false_eq_true, true_implies, false_implies, xq0, xq1, xq2, xq3, xq4, xq5, xqR, xq1R, xq3R, xt1, xt2, xt3, List.mem_cons, List.not_mem_nil, or_false, false_or, or_self, if_false, if_true, reduceIte, reduceCtorEq, xent, xen, List.length_cons, List.length_nil, List.replicate, j_c, j_cJ, j_ild, j_ald, j_lld, j_ist, j_ast, j_lst, j_inc, j_add, j_sub, j_mul, j_neg, j_div, j_rem, j_and, j_shr, j_shl1, j_or, j_ladd, j_lsub, j_lmul, j_i2l, j_lcmp, j_i2c, j_dup, j_dup2, j_pop, j_goto, j_ieq, j_ine, j_ilt, j_ige, j_igt, j_ile, j_eq, j_ne, j_lt, j_ge, j_gt, j_le, xsw, j_tsw, j_gI, j_gJ, j_gR, j_pI, j_pJ, j_gs, j_iald, j_iast, j_cald, j_cast, j_aald, j_cpy, j_min, j_max, j_abs, j_iret, j_zret, j_lret, j_dret, j_ret0, j_V0, j_V1, j_V2, j_V3, j_V4, j_V5, j_S1, j_S2, j_S3, xget, xset, xset2, xclr, xc1, xcat, Nat.reduceAdd, Nat.reduceEqDiff, Nat.reduceLT, Nat.reduceLeDiff, Nat.reduceMul, List.cons_append, List.nil_append, true_and, and_true, List.singleton_append, j_lsw2, j_Sn, j_ush, j_dupx2, List.take_succ_cons, List.take_zero, List.drop_succ_cons, List.drop_zero, List.reverse_cons, List.reverse_nil, Nat.le_refl, fL_law_112, fL_law_114, fL_law_115, fL_law_116, fL_law_117, xvz_20, xvz_21, xvz_22, xvz_23, xvz_24, xvz_25, xvz_26, xvz_27, xvz_28, xvz_29, xrz_20, xrz_21, xrz_22, xrz_23, xrz_24, xrz_25, xrz_26, xrz_27, xrz_28, xrz_29, xdz_20, xdz_21, xdz_22, xdz_23, xdz_24, xdz_25, xdz_26, xdz_27, xdz_28, xdz_29, xlen, xcat, xc1, Nat.zero_le, Nat.reduceLeDiff, List.length_cons, List.length_nil, xvz_0, a0, rp, rn, hlt]
    refine yru_ok hC [130] 9 _ _ _ _ ?_
    simp only [ykk_ap, Int.reduceEq, Int.reduceLT, Int.reduceLE, Int.reduceNeg, Int.reduceAdd, Int.reduceSub, Int.reduceMul, and_self, false_and, and_false, not_true_eq_false, not_false_eq_true, true_implies, false_implies, xq0, xq1, xq2, xq3, xq4, xq5, xqR, xq1R, xq3R, xt1, xt2, xt3, List.mem_cons, List.not_mem_nil, or_false, false_or, or_self, if_false, if_true, reduceIte, reduceCtorEq, xent, xen, List.length_cons, List.length_nil, List.replicate, j_c, j_cJ, j_ild, j_ald, j_lld, j_ist, j_ast, j_lst, j_inc, j_add, j_sub, j_mul, j_neg, j_div, j_rem, j_and, j_shr, j_shl1, j_or, j_ladd, j_lsub, j_lmul, j_i2l, j_lcmp, j_i2c, j_dup, j_dup2, j_pop, j_goto, j_ieq, j_ine, j_ilt, j_ige, j_igt, j_ile, j_eq, j_ne, j_lt, j_ge, j_gt, j_le, xsw, j_tsw, j_gI, j_gJ, j_gR, j_pI, j_pJ, j_gs, j_iald, j_iast, j_cald, j_cast, j_aald, j_cpy, j_min, j_max, j_abs, j_iret, j_zret, j_lret, j_dret, j_ret0, j_V0, j_V1, j_V2, j_V3, j_V4, j_V5, j_S1, j_S2, j_S3, xget, xset, xset2, xclr, xc1, xcat, Nat.reduceAdd, Nat.reduceEqDiff, Nat.reduceLT, Nat.reduceLeDiff, Nat.reduceMul, List.cons_append, List.nil_append, true_and, and_true, List.singleton_append, j_lsw2, j_Sn, j_ush, j_dupx2, List.take_succ_cons, List.take_zero, List.drop_succ_cons, List.drop_zero, List.reverse_cons, List.reverse_nil, Nat.le_refl, fL_law_120, fL_law_121, fL_law_123, fL_law_125, fL_law_126, fL_law_128, fL_law_129, xvz_20, xvz_21, xvz_22, xvz_23, xvz_24, xvz_25, xvz_26, xvz_27, xvz_28, xvz_29, xrz_20, xrz_21, xrz_22, xrz_23, xrz_24, xrz_25, xrz_26, xrz_27, xrz_28, xrz_29, xdz_20, xdz_21, xdz_22, xdz_23, xdz_24, xdz_25, xdz_26, xdz_27, xdz_28, xdz_29, xlen, xcat, xc1, Nat.zero_le, Nat.reduceLeDiff, List.length_cons, List.length_nil, xvz_0, a0, rp, rn, hlt]
    refine hcell 130 (by decide) _ _ _ _ (by omega) (by omega) (Nat.le_of_ble_eq_true rfl) (fun c1 r1 => ?_)
    refine yru_ok hC [144] 9 _ _ _ _ ?_
    simp only [ykk_ap, Int.reduceEq, Int.reduceLT, Int.reduceLE, Int.reduceNeg, Int.reduceAdd, Int.reduceSub, Int.reduceMul, and_self, false_and, and_false, not_true_eq_false, not_false_eq_true, true_implies, false_implies, xq0, xq1, xq2, xq3, xq4, xq5, xqR, xq1R, xq3R, xt1, xt2, xt3, List.mem_cons, List.not_mem_nil, or_false, false_or, or_self, if_false, if_true, reduceIte, reduceCtorEq, xent, xen, List.length_cons, List.length_nil, List.replicate, j_c, j_cJ, j_ild, j_ald, j_lld, j_ist, j_ast, j_lst, j_inc, j_add, j_sub, j_mul, j_neg, j_div, j_rem, j_and, j_shr, j_shl1, j_or, j_ladd, j_lsub, j_lmul, j_i2l, j_lcmp, j_i2c, j_dup, j_dup2, j_pop, j_goto, j_ieq, j_ine, j_ilt, j_ige, j_igt, j_ile, j_eq, j_ne, j_lt, j_ge, j_gt, j_le, xsw, j_tsw, j_gI, j_gJ, j_gR, j_pI, j_pJ, j_gs, j_iald, j_iast, j_cald, j_cast, j_aald, j_cpy, j_min, j_max, j_abs, j_iret, j_zret, j_lret, j_dret, j_ret0, j_V0, j_V1, j_V2, j_V3, j_V4, j_V5, j_S1, j_S2, j_S3, xget, xset, xset2, xclr, xc1, xcat, Nat.reduceAdd, Nat.reduceEqDiff, Nat.reduceLT, Nat.reduceLeDiff, Nat.reduceMul, List.cons_append, List.nil_append, true_and, and_true, List.singleton_append, j_lsw2, j_Sn, j_ush, j_dupx2, List.take_succ_cons, List.take_zero, List.drop_succ_cons, List.drop_zero, List.reverse_cons, List.reverse_nil, Nat.le_refl, fL_law_133, fL_law_135, fL_law_138, fL_law_139, fL_law_140, fL_law_142, fL_law_143, sL_at, xvz_20, xvz_21, xvz_22, xvz_23, xvz_24, xvz_25, xvz_26, xvz_27, xvz_28, xvz_29, xrz_20, xrz_21, xrz_22, xrz_23, xrz_24, xrz_25, xrz_26, xrz_27, xrz_28, xrz_29, xdz_20, xdz_21, xdz_22, xdz_23, xdz_24, xdz_25, xdz_26, xdz_27, xdz_28, xdz_29, xlen, xcat, xc1, Nat.zero_le, Nat.reduceLeDiff, List.length_cons, List.length_nil, xvz_0]
    refine hcell 144 (by decide) _ _ _ _ (by omega) (by omega) (Nat.le_of_ble_eq_true rfl) (fun c2 r2 => ?_)
    have t1 := aT_in (x := c1) (n := 8) (by decide)
    have t2 := aT_in (x := c2 / 16) (n := 8) (by decide)
    have p4 : c2 / 2 ^ (4 : Int).toNat = c2 / 16 := rfl
    obtain ⟨x, hx⟩ : ∃ x : Int, 100 * aT c1 8 + aT (c2 / 16) 8 = x := ⟨_, rfl⟩
    have hx1 : 0 ≤ x ∧ x < 1000 := by omega
    have rx : XInR x := ⟨by omega, by omega⟩
    have hx0 := hx1.1
    have hx9 : x ≤ 2147483647 := by omega
    have td : Int.tdiv x 100 = x / 100 := Int.tdiv_eq_ediv_of_nonneg hx1.1
    have tm : Int.tmod x 100 = x % 100 := Int.tmod_eq_emod_of_nonneg hx1.1
    obtain ⟨M1, hM1⟩ : ∃ M1 : XM, M1 = xup M 21 0 0 p x := ⟨_, rfl⟩
    have e21 : M1 21 0 0 p = x := by rw [hM1, xup_row]; exact if_pos rfl
    refine yru_ok hC [174] 20 _ _ _ _ ?_
    simp only [ykk_ap, Int.reduceEq, Int.reduceLT, Int.reduceLE, Int.reduceNeg, Int.reduceAdd, Int.reduceSub, Int.reduceMul, and_self, false_and, and_false, not_true_eq_false, not_false_eq_true, true_implies, false_implies, xq0, xq1, xq2, xq3, xq4, xq5, xqR, xq1R, xq3R, xt1, xt2, xt3, List.mem_cons, List.not_mem_nil, or_false, false_or, or_self, if_false, if_true, reduceIte, reduceCtorEq, xent, xen, List.length_cons, List.length_nil, List.replicate, j_c, j_cJ, j_ild, j_ald, j_lld, j_ist, j_ast, j_lst, j_inc, j_add, j_sub, j_mul, j_neg, j_div, j_rem, j_and, j_shr, j_shl1, j_or, j_ladd, j_lsub, j_lmul, j_i2l, j_lcmp, j_i2c, j_dup, j_dup2, j_pop, j_goto, j_ieq, j_ine, j_ilt, j_ige, j_igt, j_ile, j_eq, j_ne, j_lt, j_ge, j_gt, j_le, xsw, j_tsw, j_gI, j_gJ, j_gR, j_pI, j_pJ, j_gs, j_iald, j_iast, j_cald, j_cast, j_aald, j_cpy, j_min, j_max, j_abs, j_iret, j_zret, j_lret, j_dret, j_ret0, j_V0, j_V1, j_V2, j_V3, j_V4, j_V5, j_S1, j_S2, j_S3, xget, xset, xset2, xclr, xc1, xcat, Nat.reduceAdd, Nat.reduceEqDiff, Nat.reduceLT, Nat.reduceLeDiff, Nat.reduceMul, List.cons_append, List.nil_append, true_and, and_true, List.singleton_append, j_lsw2, j_Sn, j_ush, j_dupx2, List.take_succ_cons, List.take_zero, List.drop_succ_cons, List.drop_zero, List.reverse_cons, List.reverse_nil, Nat.le_refl, fL_law_147, fL_law_148, fL_law_149, fL_law_151, fL_law_154, fL_law_155, fL_law_156, fL_law_157, fL_law_158, fL_law_160, fL_law_161, fL_law_163, fL_law_164, fL_law_165, fL_law_167, fL_law_168, fL_law_170, fL_law_171, sL_at, xvz_20, xvz_21, xvz_22, xvz_23, xvz_24, xvz_25, xvz_26, xvz_27, xvz_28, xvz_29, xrz_20, xrz_21, xrz_22, xrz_23, xrz_24, xrz_25, xrz_26, xrz_27, xrz_28, xrz_29, xdz_20, xdz_21, xdz_22, xdz_23, xdz_24, xdz_25, xdz_26, xdz_27, xdz_28, xdz_29, xlen, xcat, xc1, Nat.zero_le, Nat.reduceLeDiff, List.length_cons, List.length_nil, xvz_0, xr_c (n := 0) rfl, xr_c (n := 1) rfl, xr_c (n := 2) rfl, xr_c (n := 3) rfl, xr_c (n := 4) rfl, xr_c (n := 5) rfl, xr_c (n := 6) rfl, xr_c (n := 8) rfl, xr_c (n := 10) rfl, xr_c (n := 15) rfl, xr_c (n := 40) rfl, xr_c (n := 50) rfl, xr_c (n := 100) rfl, xr_c (n := 120) rfl, r2, p4, hx, rx, h0, p8, hx0, hx9, td, tm, xup_app]
    have E1 : EQ M1 M := fun t ht => by rw [hM1, xup_tag (by omega)]
    have K1 := KI_EQ hI.1 E1
    have e3 : M1 1 0 0 3 = p := by rw [E1 1 (by decide), hI.2.1.2]; rfl
    rw [← hM1]
    refine uv_addPlace K1 ⟨by omega, by omega⟩ ⟨by omega, by omega⟩ (by omega) ?_
    rw [e3]
    obtain ⟨M2, hM2⟩ : ∃ M2 : XM, M2 = fNewP (fKeep M1) 0 (x / 100) (x % 100) := ⟨_, rfl⟩
    rw [← hM2]
    have hb := ih (p + 1) M2 (by omega) (by omega) (IN_place hI ⟨h0, by omega⟩ hx1 (by rw [hM2, hM1]))
    refine yru_ok hC [181, 179] 4 _ _ _ _ ?_
    simp only [ykk_ap, Int.reduceEq, Int.reduceLT, Int.reduceLE, Int.reduceNeg, Int.reduceAdd, Int.reduceSub, Int.reduceMul, and_self, false_and, and_false, not_true_eq_false, not_false_eq_true, true_implies, false_implies, xq0, xq1, xq2, xq3, xq4, xq5, xqR, xq1R, xq3R, xt1, xt2, xt3, List.mem_cons, List.not_mem_nil, or_false, false_or, or_self, if_false, if_true, reduceIte, reduceCtorEq, xent, xen, List.length_cons, List.length_nil, List.replicate, j_c, j_cJ, j_ild, j_ald, j_lld, j_ist, j_ast, j_lst, j_inc, j_add, j_sub, j_mul, j_neg, j_div, j_rem, j_and, j_shr, j_shl1, j_or, j_ladd, j_lsub, j_lmul, j_i2l, j_lcmp, j_i2c, j_dup, j_dup2, j_pop, j_goto, j_ieq, j_ine, j_ilt, j_ige, j_igt, j_ile, j_eq, j_ne, j_lt, j_ge, j_gt, j_le, xsw, j_tsw, j_gI, j_gJ, j_gR, j_pI, j_pJ, j_gs, j_iald, j_iast, j_cald, j_cast, j_aald, j_cpy, j_min, j_max, j_abs, j_iret, j_zret, j_lret, j_dret, j_ret0, j_V0, j_V1, j_V2, j_V3, j_V4, j_V5, j_S1, j_S2, j_S3, xget, xset, xset2, xclr, xc1, xcat, Nat.reduceAdd, Nat.reduceEqDiff, Nat.reduceLT, Nat.reduceLeDiff, Nat.reduceMul, List.cons_append, List.nil_append, true_and, and_true, List.singleton_append, j_lsw2, j_Sn, j_ush, j_dupx2, List.take_succ_cons, List.take_zero, List.drop_succ_cons, List.drop_zero, List.reverse_cons, List.reverse_nil, Nat.le_refl, fL_law_174, fL_law_176, xvz_20, xvz_21, xvz_22, xvz_23, xvz_24, xvz_25, xvz_26, xvz_27, xvz_28, xvz_29, xrz_20, xrz_21, xrz_22, xrz_23, xrz_24, xrz_25, xrz_26, xrz_27, xrz_28, xrz_29, xdz_20, xdz_21, xdz_22, xdz_23, xdz_24, xdz_25, xdz_26, xdz_27, xdz_28, xdz_29, xlen, xcat, xc1, Nat.zero_le, Nat.reduceLeDiff, List.length_cons, List.length_nil, xvz_0, rp]
    refine yru_ok hC [112] 4 _ _ _ _ ?_
    simp only [ykk_ap, Int.reduceEq, Int.reduceLT, Int.reduceLE, Int.reduceNeg, Int.reduceAdd, Int.reduceSub, Int.reduceMul, and_self, false_and, and_false, not_true_eq_false, not_false_eq_true, true_implies, false_implies, xq0, xq1, xq2, xq3, xq4, xq5, xqR, xq1R, xq3R, xt1, xt2, xt3, List.mem_cons, List.not_mem_nil, or_false, false_or, or_self, if_false, if_true, reduceIte, reduceCtorEq, xent, xen, List.length_cons, List.length_nil, List.replicate, j_c, j_cJ, j_ild, j_ald, j_lld, j_ist, j_ast, j_lst, j_inc, j_add, j_sub, j_mul, j_neg, j_div, j_rem, j_and, j_shr, j_shl1, j_or, j_ladd, j_lsub, j_lmul, j_i2l, j_lcmp, j_i2c, j_dup, j_dup2, j_pop, j_goto, j_ieq, j_ine, j_ilt, j_ige, j_igt, j_ile, j_eq, j_ne, j_lt, j_ge, j_gt, j_le, xsw, j_tsw, j_gI, j_gJ, j_gR, j_pI, j_pJ, j_gs, j_iald, j_iast, j_cald, j_cast, j_aald, j_cpy, j_min, j_max, j_abs, j_iret, j_zret, j_lret, j_dret, j_ret0, j_V0, j_V1, j_V2, j_V3, j_V4, j_V5, j_S1, j_S2, j_S3, xget, xset, xset2, xclr, xc1, xcat, Nat.reduceAdd, Nat.reduceEqDiff, Nat.reduceLT, Nat.reduceLeDiff, Nat.reduceMul, List.cons_append, List.nil_append, true_and, and_true, List.singleton_append, j_lsw2, j_Sn, j_ush, j_dupx2, List.take_succ_cons, List.take_zero, List.drop_succ_cons, List.drop_zero, List.reverse_cons, List.reverse_nil, Nat.le_refl, fL_law_181, fL_law_184, xvz_20, xvz_21, xvz_22, xvz_23, xvz_24, xvz_25, xvz_26, xvz_27, xvz_28, xvz_29, xrz_20, xrz_21, xrz_22, xrz_23, xrz_24, xrz_25, xrz_26, xrz_27, xrz_28, xrz_29, xdz_20, xdz_21, xdz_22, xdz_23, xdz_24, xdz_25, xdz_26, xdz_27, xdz_28, xdz_29, xlen, xcat, xc1, Nat.zero_le, Nat.reduceLeDiff, List.length_cons, List.length_nil, xvz_0, rp]
    exact hb
set_option maxRecDepth 100000 in
theorem kL_kl {Post : XPo} {WW : XK} (hC : XCl (xlk (pL_law Post)) WW) (hcell : ∀ pc : Nat, (pc = 100 ∨ pc = 130 ∨ pc = 144 ∨ pc = 214 ∨ pc = 234 ∨ pc = 290 ∨ pc = 302) → ∀ (L : XLs) (st : List XV) (M : XM) (k : Int), 0 ≤ k → k ≤ 1000 → xcat st ≤ 8 → (∀ v : Int, XInR v → WW (pc + 3) L (xI v :: st) M) → WW pc L (xI k :: xR 40 0 0 :: st) M) {N : Int → Int} {n0 q : Int} (hn : 2 ≤ n0 ∧ n0 ≤ 3) (hN : N 0 = n0) (hq : 0 ≤ q ∧ q < 2) {M : XM} (hI : IN N n0 n0 q M) (h : ∀ M' : XM, IN N n0 n0 (q + 1) M' → WW 198 [some (xR 40 0 0), some (xR 0 0 0), some (xR 20 0 0), some (xR 21 0 0), some (xR 22 0 0), some (xR 23 0 0), some (xR 24 0 0), some (xR 25 0 0), some (xR 26 0 0), some (xR 27 0 0), some (xR 28 0 0), some (xR 29 0 0), some (xI (q + 1)), none, none, none, none, none, none, none] [] M') : WW 198 [some (xR 40 0 0), some (xR 0 0 0), some (xR 20 0 0), some (xR 21 0 0), some (xR 22 0 0), some (xR 23 0 0), some (xR 24 0 0), some (xR 25 0 0), some (xR 26 0 0), some (xR 27 0 0), some (xR 28 0 0), some (xR 29 0 0), some (xI (q)), none, none, none, none, none, none, none] [] M := by
  have a0 : M 20 0 0 0 = n0 := (hI.2.2.2.2.1 0).trans hN
  have rq : XInR q := ⟨by omega, by omega⟩
  have hlt : ¬ 2 ≤ q := by omega
  have q0 := hq.1
  have q3 : q < 3 := by omega
  have q4 : q < 4 := by omega
  have k1 : 0 < n0 := by omega
  have k2 : n0 ≤ 1000000 := by omega
  refine yru_ok hC [270, 204] 5 _ _ _ _ ?_
  simp only [ykk_ap, Int.reduceEq, Int.reduceLT, Int.reduceLE, Int.reduceNeg, Int.reduceAdd, Int.reduceSub, Int.reduceMul, and_self, false_and, and_false, not_true_eq_false, not_false_eq_true, true_implies, false_implies, xq0, xq1, xq2, xq3, xq4, xq5, xqR, xq1R, xq3R, xt1, xt2, xt3, List.mem_cons, List.not_mem_nil, or_false, false_or, or_self, if_false, if_true, reduceIte, reduceCtorEq, xent, xen, List.length_cons, List.length_nil, List.replicate, j_c, j_cJ, j_ild, j_ald, j_lld, j_ist, j_ast, j_lst, j_inc, j_add, j_sub, j_mul, j_neg, j_div, j_rem, j_and, j_shr, j_shl1, j_or, j_ladd, j_lsub, j_lmul, j_i2l, j_lcmp, j_i2c, j_dup, j_dup2, j_pop, j_goto, j_ieq, j_ine, j_ilt, j_ige, j_igt, j_ile, j_eq, j_ne, j_lt, j_ge, j_gt, j_le, xsw, j_tsw, j_gI, j_gJ, j_gR, j_pI, j_pJ, j_gs, j_iald, j_iast, j_cald, j_cast, j_aald, j_cpy, j_min, j_max, j_abs, j_iret, j_zret, j_lret, j_dret, j_ret0, j_V0, j_V1, j_V2, j_V3, j_V4, j_V5, j_S1, j_S2, j_S3, xget, xset, xset2, xclr, xc1, xcat, Nat.reduceAdd, Nat.reduceEqDiff, Nat.reduceLT, Nat.reduceLeDiff, Nat.reduceMul, List.cons_append, List.nil_append, true_and, and_true, List.singleton_append, j_lsw2, j_Sn, j_ush, j_dupx2, List.take_succ_cons, List.take_zero, List.drop_succ_cons, List.drop_zero, List.reverse_cons, List.reverse_nil, Nat.le_refl, fL_law_198, fL_law_200, fL_law_201, xvz_20, xvz_21, xvz_22, xvz_23, xvz_24, xvz_25, xvz_26, xvz_27, xvz_28, xvz_29, xrz_20, xrz_21, xrz_22, xrz_23, xrz_24, xrz_25, xrz_26, xrz_27, xrz_28, xrz_29, xdz_20, xdz_21, xdz_22, xdz_23, xdz_24, xdz_25, xdz_26, xdz_27, xdz_28, xdz_29, xlen, xcat, xc1, Nat.zero_le, Nat.reduceLeDiff, List.length_cons, List.length_nil, xvz_0, xr_c (n := 0) rfl, xr_c (n := 1) rfl, xr_c (n := 2) rfl, xr_c (n := 3) rfl, xr_c (n := 4) rfl, xr_c (n := 5) rfl, xr_c (n := 6) rfl, xr_c (n := 8) rfl, xr_c (n := 10) rfl, xr_c (n := 15) rfl, xr_c (n := 40) rfl, xr_c (n := 50) rfl, xr_c (n := 100) rfl, xr_c (n := 120) rfl, rq, hlt]
  refine yru_ok hC [214] 8 _ _ _ _ ?_
  simp only [ykk_ap, Int.reduceEq, Int.reduceLT, Int.reduceLE, Int.reduceNeg, Int.reduceAdd, Int.reduceSub, Int.reduceMul, and_self, false_and, and_false, not_true_eq_false, not_false_eq_true, true_implies, false_implies, xq0, xq1, xq2, xq3, xq4, xq5, xqR, xq1R, xq3R, xt1, xt2, xt3, List.mem_cons, List.not_mem_nil, or_false, false_or, or_self, if_false, if_true, reduceIte, reduceCtorEq, xent, xen, List.length_cons, List.length_nil, List.replicate, j_c, j_cJ, j_ild, j_ald, j_lld, j_ist, j_ast, j_lst, j_inc, j_add, j_sub, j_mul, j_neg, j_div, j_rem, j_and, j_shr, j_shl1, j_or, j_ladd, j_lsub, j_lmul, j_i2l, j_lcmp, j_i2c, j_dup, j_dup2, j_pop, j_goto, j_ieq, j_ine, j_ilt, j_ige, j_igt, j_ile, j_eq, j_ne, j_lt, j_ge, j_gt, j_le, xsw, j_tsw, j_gI, j_gJ, j_gR, j_pI, j_pJ, j_gs, j_iald, j_iast, j_cald, j_cast, j_aald, j_cpy, j_min, j_max, j_abs, j_iret, j_zret, j_lret, j_dret, j_ret0, j_V0, j_V1, j_V2, j_V3, j_V4, j_V5, j_S1, j_S2, j_S3, xget, xset, xset2, xclr, xc1, xcat, Nat.reduceAdd, Nat.reduceEqDiff, Nat.reduceLT, Nat.reduceLeDiff, Nat.reduceMul, List.cons_append, List.nil_append, true_and, and_true, List.singleton_append, j_lsw2, j_Sn, j_ush, j_dupx2, List.take_succ_cons, List.take_zero, List.drop_succ_cons, List.drop_zero, List.reverse_cons, List.reverse_nil, Nat.le_refl, fL_law_204, fL_law_206, fL_law_208, fL_law_209, fL_law_211, fL_law_213, xvz_20, xvz_21, xvz_22, xvz_23, xvz_24, xvz_25, xvz_26, xvz_27, xvz_28, xvz_29, xrz_20, xrz_21, xrz_22, xrz_23, xrz_24, xrz_25, xrz_26, xrz_27, xrz_28, xrz_29, xdz_20, xdz_21, xdz_22, xdz_23, xdz_24, xdz_25, xdz_26, xdz_27, xdz_28, xdz_29, xlen, xcat, xc1, Nat.zero_le, Nat.reduceLeDiff, List.length_cons, List.length_nil, xvz_0, xr_c (n := 0) rfl, xr_c (n := 1) rfl, xr_c (n := 2) rfl, xr_c (n := 3) rfl, xr_c (n := 4) rfl, xr_c (n := 5) rfl, xr_c (n := 6) rfl, xr_c (n := 8) rfl, xr_c (n := 10) rfl, xr_c (n := 15) rfl, xr_c (n := 40) rfl, xr_c (n := 50) rfl, xr_c (n := 100) rfl, xr_c (n := 120) rfl, rq, hlt]
  refine hcell 214 (by decide) _ _ _ _ (by omega) (by omega) (Nat.le_of_ble_eq_true rfl) (fun c1 r1 => ?_)
  have t1 := aT_in (x := c1) (n := n0) k1
  have t2 : ∀ c2 : Int, 0 ≤ aT c2 n0 ∧ aT c2 n0 < n0 := fun c2 => aT_in k1
  obtain ⟨x, hx⟩ : ∃ x : Int, aT c1 n0 = x := ⟨_, rfl⟩
  rw [hx] at t1
  refine yru_ok hC [234] 13 _ _ _ _ ?_
  simp only [ykk_ap, Int.reduceEq, Int.reduceLT, Int.reduceLE, Int.reduceNeg, Int.reduceAdd, Int.reduceSub, Int.reduceMul, and_self, false_and, and_false, not_true_eq_false, not_false_eq_true, true_implies, false_implies, xq0, xq1, xq2, xq3, xq4, xq5, xqR, xq1R, xq3R, xt1, xt2, xt3, List.mem_cons, List.not_mem_nil, or_false, false_or, or_self, if_false, if_true, reduceIte, reduceCtorEq, xent, xen, List.length_cons, List.length_nil, List.replicate, j_c, j_cJ, j_ild, j_ald, j_lld, j_ist, j_ast, j_lst, j_inc, j_add, j_sub, j_mul, j_neg, j_div, j_rem, j_and, j_shr, j_shl1, j_or, j_ladd, j_lsub, j_lmul, j_i2l, j_lcmp, j_i2c, j_dup, j_dup2, j_pop, j_goto, j_ieq, j_ine, j_ilt, j_ige, j_igt, j_ile, j_eq, j_ne, j_lt, j_ge, j_gt, j_le, xsw, j_tsw, j_gI, j_gJ, j_gR, j_pI, j_pJ, j_gs, j_iald, j_iast, j_cald, j_cast, j_aald, j_cpy, j_min, j_max, j_abs, j_iret, j_zret, j_lret, j_dret, j_ret0, j_V0, j_V1, j_V2, j_V3, j_V4, j_V5, j_S1, j_S2, j_S3, xget, xset, xset2, xclr, xc1, xcat, Nat.reduceAdd, Nat.reduceEqDiff, Nat.reduceLT, Nat.reduceLeDiff, Nat.reduceMul, List.cons_append, List.nil_append, true_and, and_true, List.singleton_append, j_lsw2, j_Sn, j_ush, j_dupx2, List.take_succ_cons, List.take_zero, List.drop_succ_cons, List.drop_zero, List.reverse_cons, List.reverse_nil, Nat.le_refl, fL_law_217, fL_law_218, fL_law_219, fL_law_220, fL_law_223, fL_law_224, fL_law_226, fL_law_228, fL_law_229, fL_law_231, fL_law_233, sL_at, xvz_20, xvz_21, xvz_22, xvz_23, xvz_24, xvz_25, xvz_26, xvz_27, xvz_28, xvz_29, xrz_20, xrz_21, xrz_22, xrz_23, xrz_24, xrz_25, xrz_26, xrz_27, xrz_28, xrz_29, xdz_20, xdz_21, xdz_22, xdz_23, xdz_24, xdz_25, xdz_26, xdz_27, xdz_28, xdz_29, xlen, xcat, xc1, Nat.zero_le, Nat.reduceLeDiff, List.length_cons, List.length_nil, xvz_0, xr_c (n := 0) rfl, xr_c (n := 1) rfl, xr_c (n := 2) rfl, xr_c (n := 3) rfl, xr_c (n := 4) rfl, xr_c (n := 5) rfl, xr_c (n := 6) rfl, xr_c (n := 8) rfl, xr_c (n := 10) rfl, xr_c (n := 15) rfl, xr_c (n := 40) rfl, xr_c (n := 50) rfl, xr_c (n := 100) rfl, xr_c (n := 120) rfl, a0, k1, k2, q0, q3, hx]
  refine hcell 234 (by decide) _ _ _ _ (by omega) (by omega) (Nat.le_of_ble_eq_true rfl) (fun c2 r2 => ?_)
  have t3 := t2 c2
  obtain ⟨y, hy⟩ : ∃ y : Int, aT c2 n0 = y := ⟨_, rfl⟩
  rw [hy] at t3
  obtain ⟨M1, hM1⟩ : ∃ M1 : XM, M1 = xup (xup M 22 0 0 q x) 26 0 0 q y := ⟨_, rfl⟩
  obtain ⟨M3, hM3⟩ : ∃ M3 : XM, M3 = fNewK (fKeep M1) 0 x := ⟨_, rfl⟩
  obtain ⟨M4, hM4⟩ : ∃ M4 : XM, M4 = fNewL (fKeep M3) 0 y := ⟨_, rfl⟩
  obtain ⟨K3, f3, f8, f26, hI4⟩ := IN_kl hI hn hq t1 t3 (by rw [hM3, hM1]) hM4
  have E1 : EQ M1 M := fun t ht => by rw [hM1, xup_tag (by omega), xup_tag (by omega)]
  have K1 := KI_EQ hI.1 E1
  have e3 : M1 1 0 0 3 = n0 := by rw [E1 1 (by decide), hI.2.1.2]; rfl
  have e6 : M1 1 0 0 6 = q := by rw [E1 1 (by decide), hI.2.1.2]; rfl
  have hb := h M4 hI4
  refine yru_ok hC [253] 12 _ _ _ _ ?_
  simp only [ykk_ap, Int.reduceEq, Int.reduceLT, Int.reduceLE, Int.reduceNeg, Int.reduceAdd, Int.reduceSub, Int.reduceMul, and_self, false_and, and_false, not_true_eq_false, not_false_eq_true, true_implies, false_implies, xq0, xq1, xq2, xq3, xq4, xq5, xqR, xq1R, xq3R, xt1, xt2, xt3, List.mem_cons, List.not_mem_nil, or_false, false_or, or_self, if_false, if_true, reduceIte, reduceCtorEq, xent, xen, List.length_cons, List.length_nil, List.replicate, j_c, j_cJ, j_ild, j_ald, j_lld, j_ist, j_ast, j_lst, j_inc, j_add, j_sub, j_mul, j_neg, j_div, j_rem, j_and, j_shr, j_shl1, j_or, j_ladd, j_lsub, j_lmul, j_i2l, j_lcmp, j_i2c, j_dup, j_dup2, j_pop, j_goto, j_ieq, j_ine, j_ilt, j_ige, j_igt, j_ile, j_eq, j_ne, j_lt, j_ge, j_gt, j_le, xsw, j_tsw, j_gI, j_gJ, j_gR, j_pI, j_pJ, j_gs, j_iald, j_iast, j_cald, j_cast, j_aald, j_cpy, j_min, j_max, j_abs, j_iret, j_zret, j_lret, j_dret, j_ret0, j_V0, j_V1, j_V2, j_V3, j_V4, j_V5, j_S1, j_S2, j_S3, xget, xset, xset2, xclr, xc1, xcat, Nat.reduceAdd, Nat.reduceEqDiff, Nat.reduceLT, Nat.reduceLeDiff, Nat.reduceMul, List.cons_append, List.nil_append, true_and, and_true, List.singleton_append, j_lsw2, j_Sn, j_ush, j_dupx2, List.take_succ_cons, List.take_zero, List.drop_succ_cons, List.drop_zero, List.reverse_cons, List.reverse_nil, Nat.le_refl, fL_law_237, fL_law_238, fL_law_239, fL_law_240, fL_law_243, fL_law_244, fL_law_245, fL_law_247, fL_law_249, fL_law_250, sL_at, xvz_20, xvz_21, xvz_22, xvz_23, xvz_24, xvz_25, xvz_26, xvz_27, xvz_28, xvz_29, xrz_20, xrz_21, xrz_22, xrz_23, xrz_24, xrz_25, xrz_26, xrz_27, xrz_28, xrz_29, xdz_20, xdz_21, xdz_22, xdz_23, xdz_24, xdz_25, xdz_26, xdz_27, xdz_28, xdz_29, xlen, xcat, xc1, Nat.zero_le, Nat.reduceLeDiff, List.length_cons, List.length_nil, xvz_0, xr_c (n := 0) rfl, xr_c (n := 1) rfl, xr_c (n := 2) rfl, xr_c (n := 3) rfl, xr_c (n := 4) rfl, xr_c (n := 5) rfl, xr_c (n := 6) rfl, xr_c (n := 8) rfl, xr_c (n := 10) rfl, xr_c (n := 15) rfl, xr_c (n := 40) rfl, xr_c (n := 50) rfl, xr_c (n := 100) rfl, xr_c (n := 120) rfl, xup_app, a0, k1, k2, q0, q3, q4, hy, Nat.reduceEqDiff]
  rw [← hM1]
  refine uv_addKitchen K1 (by omega) ⟨t1.1, by omega⟩ (by omega) ?_
  rw [← hM3]
  refine yru_ok hC [263] 8 _ _ _ _ ?_
  simp only [ykk_ap, Int.reduceEq, Int.reduceLT, Int.reduceLE, Int.reduceNeg, Int.reduceAdd, Int.reduceSub, Int.reduceMul, and_self, false_and, and_false, not_true_eq_false, not_false_eq_true, true_implies, false_implies, xq0, xq1, xq2, xq3, xq4, xq5, xqR, xq1R, xq3R, xt1, xt2, xt3, List.mem_cons, List.not_mem_nil, or_false, false_or, or_self, if_false, if_true, reduceIte, reduceCtorEq, xent, xen, List.length_cons, List.length_nil, List.replicate, j_c, j_cJ, j_ild, j_ald, j_lld, j_ist, j_ast, j_lst, j_inc, j_add, j_sub, j_mul, j_neg, j_div, j_rem, j_and, j_shr, j_shl1, j_or, j_ladd, j_lsub, j_lmul, j_i2l, j_lcmp, j_i2c, j_dup, j_dup2, j_pop, j_goto, j_ieq, j_ine, j_ilt, j_ige, j_igt, j_ile, j_eq, j_ne, j_lt, j_ge, j_gt, j_le, xsw, j_tsw, j_gI, j_gJ, j_gR, j_pI, j_pJ, j_gs, j_iald, j_iast, j_cald, j_cast, j_aald, j_cpy, j_min, j_max, j_abs, j_iret, j_zret, j_lret, j_dret, j_ret0, j_V0, j_V1, j_V2, j_V3, j_V4, j_V5, j_S1, j_S2, j_S3, xget, xset, xset2, xclr, xc1, xcat, Nat.reduceAdd, Nat.reduceEqDiff, Nat.reduceLT, Nat.reduceLeDiff, Nat.reduceMul, List.cons_append, List.nil_append, true_and, and_true, List.singleton_append, j_lsw2, j_Sn, j_ush, j_dupx2, List.take_succ_cons, List.take_zero, List.drop_succ_cons, List.drop_zero, List.reverse_cons, List.reverse_nil, Nat.le_refl, fL_law_253, fL_law_254, fL_law_255, fL_law_257, fL_law_259, fL_law_260, xvz_20, xvz_21, xvz_22, xvz_23, xvz_24, xvz_25, xvz_26, xvz_27, xvz_28, xvz_29, xrz_20, xrz_21, xrz_22, xrz_23, xrz_24, xrz_25, xrz_26, xrz_27, xrz_28, xrz_29, xdz_20, xdz_21, xdz_22, xdz_23, xdz_24, xdz_25, xdz_26, xdz_27, xdz_28, xdz_29, xlen, xcat, xc1, Nat.zero_le, Nat.reduceLeDiff, List.length_cons, List.length_nil, xvz_0, xr_c (n := 0) rfl, xr_c (n := 1) rfl, xr_c (n := 2) rfl, xr_c (n := 3) rfl, xr_c (n := 4) rfl, xr_c (n := 5) rfl, xr_c (n := 6) rfl, xr_c (n := 8) rfl, xr_c (n := 10) rfl, xr_c (n := 15) rfl, xr_c (n := 40) rfl, xr_c (n := 50) rfl, xr_c (n := 100) rfl, xr_c (n := 120) rfl, f26, q0, q4]
  refine uv_addLorry K3 (by omega) ⟨t3.1, by omega⟩ (by omega) ?_
  rw [← hM4]
  refine yru_ok hC [198] 5 _ _ _ _ ?_
  simp only [ykk_ap, Int.reduceEq, Int.reduceLT, Int.reduceLE, Int.reduceNeg, Int.reduceAdd, Int.reduceSub, Int.reduceMul, and_self, false_and, and_false, not_true_eq_false, not_false_eq_true, true_implies, false_implies, xq0, xq1, xq2, xq3, xq4, xq5, xqR, xq1R, xq3R, xt1, xt2, xt3, List.mem_cons, List.not_mem_nil, or_false, false_or, or_self, if_false, if_true, reduceIte, reduceCtorEq, xent, xen, List.length_cons, List.length_nil, List.replicate, j_c, j_cJ, j_ild, j_ald, j_lld, j_ist, j_ast, j_lst, j_inc, j_add, j_sub, j_mul, j_neg, j_div, j_rem, j_and, j_shr, j_shl1, j_or, j_ladd, j_lsub, j_lmul, j_i2l, j_lcmp, j_i2c, j_dup, j_dup2, j_pop, j_goto, j_ieq, j_ine, j_ilt, j_ige, j_igt, j_ile, j_eq, j_ne, j_lt, j_ge, j_gt, j_le, xsw, j_tsw, j_gI, j_gJ, j_gR, j_pI, j_pJ, j_gs, j_iald, j_iast, j_cald, j_cast, j_aald, j_cpy, j_min, j_max, j_abs, j_iret, j_zret, j_lret, j_dret, j_ret0, j_V0, j_V1, j_V2, j_V3, j_V4, j_V5, j_S1, j_S2, j_S3, xget, xset, xset2, xclr, xc1, xcat, Nat.reduceAdd, Nat.reduceEqDiff, Nat.reduceLT, Nat.reduceLeDiff, Nat.reduceMul, List.cons_append, List.nil_append, true_and, and_true, List.singleton_append, j_lsw2, j_Sn, j_ush, j_dupx2, List.take_succ_cons, List.take_zero, List.drop_succ_cons, List.drop_zero, List.reverse_cons, List.reverse_nil, Nat.le_refl, fL_law_263, fL_law_264, fL_law_267, xvz_20, xvz_21, xvz_22, xvz_23, xvz_24, xvz_25, xvz_26, xvz_27, xvz_28, xvz_29, xrz_20, xrz_21, xrz_22, xrz_23, xrz_24, xrz_25, xrz_26, xrz_27, xrz_28, xrz_29, xdz_20, xdz_21, xdz_22, xdz_23, xdz_24, xdz_25, xdz_26, xdz_27, xdz_28, xdz_29, xlen, xcat, xc1, Nat.zero_le, Nat.reduceLeDiff, List.length_cons, List.length_nil, xvz_0, xr_c (n := 0) rfl, xr_c (n := 1) rfl, xr_c (n := 2) rfl, xr_c (n := 3) rfl, xr_c (n := 4) rfl, xr_c (n := 5) rfl, xr_c (n := 6) rfl, xr_c (n := 8) rfl, xr_c (n := 10) rfl, xr_c (n := 15) rfl, xr_c (n := 40) rfl, xr_c (n := 50) rfl, xr_c (n := 100) rfl, xr_c (n := 120) rfl]
  exact hb
set_option maxRecDepth 100000 in
theorem kL_init {Post : XPo} {WW : XK} (hC : XCl (xlk (pL_law Post)) WW) (hcell : ∀ pc : Nat, (pc = 100 ∨ pc = 130 ∨ pc = 144 ∨ pc = 214 ∨ pc = 234 ∨ pc = 290 ∨ pc = 302) → ∀ (L : XLs) (st : List XV) (M : XM) (k : Int), 0 ≤ k → k ≤ 1000 → xcat st ≤ 8 → (∀ v : Int, XInR v → WW (pc + 3) L (xI v :: st) M) → WW pc L (xI k :: xR 40 0 0 :: st) M) (hend : ∀ (L : XLs) (M : XM), WW 530 L [xI 1] M) : WW 61 [some (xR 40 0 0), some (xR 0 0 0), some (xR 20 0 0), some (xR 21 0 0), some (xR 22 0 0), some (xR 23 0 0), some (xR 24 0 0), some (xR 25 0 0), some (xR 26 0 0), some (xR 27 0 0), some (xR 28 0 0), some (xR 29 0 0), none, none, none, none, none, none, none, none] [] M0 := by
  refine yru_ok hC [100] 31 _ _ _ _ ?_
  simp only [ykk_ap, Int.reduceEq, Int.reduceLT, Int.reduceLE, Int.reduceNeg, Int.reduceAdd, Int.reduceSub, Int.reduceMul, and_self, false_and, and_false, not_true_eq_false, not_false_eq_true, true_implies, false_implies, xq0, xq1, xq2, xq3, xq4, xq5, xqR, xq1R, xq3R, xt1, xt2, xt3, List.mem_cons, List.not_mem_nil, or_false, false_or, or_self, if_false, if_true, reduceIte, reduceCtorEq, xent, xen, List.length_cons, List.length_nil, List.replicate, j_c, j_cJ, j_ild, j_ald, j_lld, j_ist, j_ast, j_lst, j_inc, j_add, j_sub, j_mul, j_neg, j_div, j_rem, j_and, j_shr, j_shl1, j_or, j_ladd, j_lsub, j_lmul, j_i2l, j_lcmp, j_i2c, j_dup, j_dup2, j_pop, j_goto, j_ieq, j_ine, j_ilt, j_ige, j_igt, j_ile, j_eq, j_ne, j_lt, j_ge, j_gt, j_le, xsw, j_tsw, j_gI, j_gJ, j_gR, j_pI, j_pJ, j_gs, j_iald, j_iast, j_cald, j_cast, j_aald, j_cpy, j_min, j_max, j_abs, j_iret, j_zret, j_lret, j_dret, j_ret0, j_V0, j_V1, j_V2, j_V3, j_V4, j_V5, j_S1, j_S2, j_S3, xget, xset, xset2, xclr, xc1, xcat, Nat.reduceAdd, Nat.reduceEqDiff, Nat.reduceLT, Nat.reduceLeDiff, Nat.reduceMul, List.cons_append, List.nil_append, true_and, and_true, List.singleton_append, j_lsw2, j_Sn, j_ush, j_dupx2, List.take_succ_cons, List.take_zero, List.drop_succ_cons, List.drop_zero, List.reverse_cons, List.reverse_nil, Nat.le_refl, fL_law_61, fL_law_62, fL_law_64, fL_law_66, fL_law_67, fL_law_68, fL_law_70, fL_law_72, fL_law_73, fL_law_74, fL_law_76, fL_law_77, fL_law_78, fL_law_79, fL_law_81, fL_law_83, fL_law_84, fL_law_85, fL_law_87, fL_law_88, fL_law_89, fL_law_90, fL_law_92, fL_law_94, fL_law_95, fL_law_96, fL_law_97, fL_law_98, fL_law_99, xvz_20, xvz_21, xvz_22, xvz_23, xvz_24, xvz_25, xvz_26, xvz_27, xvz_28, xvz_29, xrz_20, xrz_21, xrz_22, xrz_23, xrz_24, xrz_25, xrz_26, xrz_27, xrz_28, xrz_29, xdz_20, xdz_21, xdz_22, xdz_23, xdz_24, xdz_25, xdz_26, xdz_27, xdz_28, xdz_29, xlen, xcat, xc1, Nat.zero_le, Nat.reduceLeDiff, List.length_cons, List.length_nil, xvz_0, xr_c (n := 0) rfl, xr_c (n := 1) rfl, xr_c (n := 2) rfl, xr_c (n := 3) rfl, xr_c (n := 4) rfl, xr_c (n := 5) rfl, xr_c (n := 6) rfl, xr_c (n := 8) rfl, xr_c (n := 10) rfl, xr_c (n := 15) rfl, xr_c (n := 40) rfl, xr_c (n := 50) rfl, xr_c (n := 100) rfl, xr_c (n := 120) rfl]
  refine hcell 100 (by decide) _ _ _ _ (by decide) (by decide) (Nat.le_of_ble_eq_true rfl) (fun c r => ?_)
  have t1 := aT_in (x := c) (n := 2) (by decide)
  obtain ⟨n0, hn0⟩ : ∃ n0 : Int, 2 + aT c 2 = n0 := ⟨_, rfl⟩
  have hn : 2 ≤ n0 ∧ n0 ≤ 3 := by omega
  obtain ⟨M1, hM1⟩ : ∃ M1 : XM, M1 = xup (xup (xup (xup (xup (xup (xup M0 20 0 0 6 10) 20 0 0 7 15) 20 0 0 8 1) 20 0 0 9 40) 20 0 0 10 5) 20 0 0 11 120) 20 0 0 0 n0 := ⟨_, rfl⟩
  refine yru_ok hC [112] 8 _ _ _ _ ?_
  simp only [ykk_ap, Int.reduceEq, Int.reduceLT, Int.reduceLE, Int.reduceNeg, Int.reduceAdd, Int.reduceSub, Int.reduceMul, and_self, false_and, and_false, not_true_eq_false, not_false_eq_true, true_implies, false_implies, xq0, xq1, xq2, xq3, xq4, xq5, xqR, xq1R, xq3R, xt1, xt2, xt3, List.mem_cons, List.not_mem_nil, or_false, false_or, or_self, if_false, if_true, reduceIte, reduceCtorEq, xent, xen, List.length_cons, List.length_nil, List.replicate, j_c, j_cJ, j_ild, j_ald, j_lld, j_ist, j_ast, j_lst, j_inc, j_add, j_sub, j_mul, j_neg, j_div, j_rem, j_and, j_shr, j_shl1, j_or, j_ladd, j_lsub, j_lmul, j_i2l, j_lcmp, j_i2c, j_dup, j_dup2, j_pop, j_goto, j_ieq, j_ine, j_ilt, j_ige, j_igt, j_ile, j_eq, j_ne, j_lt, j_ge, j_gt, j_le, xsw, j_tsw, j_gI, j_gJ, j_gR, j_pI, j_pJ, j_gs, j_iald, j_iast, j_cald, j_cast, j_aald, j_cpy, j_min, j_max, j_abs, j_iret, j_zret, j_lret, j_dret, j_ret0, j_V0, j_V1, j_V2, j_V3, j_V4, j_V5, j_S1, j_S2, j_S3, xget, xset, xset2, xclr, xc1, xcat, Nat.reduceAdd, Nat.reduceEqDiff, Nat.reduceLT, Nat.reduceLeDiff, Nat.reduceMul, List.cons_append, List.nil_append, true_and, and_true, List.singleton_append, j_lsw2, j_Sn, j_ush, j_dupx2, List.take_succ_cons, List.take_zero, List.drop_succ_cons, List.drop_zero, List.reverse_cons, List.reverse_nil, Nat.le_refl, fL_law_103, fL_law_104, fL_law_107, fL_law_108, fL_law_109, fL_law_110, sL_at, xvz_20, xvz_21, xvz_22, xvz_23, xvz_24, xvz_25, xvz_26, xvz_27, xvz_28, xvz_29, xrz_20, xrz_21, xrz_22, xrz_23, xrz_24, xrz_25, xrz_26, xrz_27, xrz_28, xrz_29, xdz_20, xdz_21, xdz_22, xdz_23, xdz_24, xdz_25, xdz_26, xdz_27, xdz_28, xdz_29, xlen, xcat, xc1, Nat.zero_le, Nat.reduceLeDiff, List.length_cons, List.length_nil, xvz_0, xr_c (n := 0) rfl, xr_c (n := 1) rfl, xr_c (n := 2) rfl, xr_c (n := 3) rfl, xr_c (n := 4) rfl, xr_c (n := 5) rfl, xr_c (n := 6) rfl, xr_c (n := 8) rfl, xr_c (n := 10) rfl, xr_c (n := 15) rfl, xr_c (n := 40) rfl, xr_c (n := 50) rfl, xr_c (n := 100) rfl, xr_c (n := 120) rfl, hn0]
  rw [← hM1]
  have o1 : ∀ t : Nat, ¬ t = 20 → M1 t = M0 t := fun t ht => by rw [hM1, xup_tag ht, xup_tag ht, xup_tag ht, xup_tag ht, xup_tag ht, xup_tag ht, xup_tag ht]
  have E1 : EQ M1 M0 := fun t ht => o1 t (by omega)
  have I1 : IN (nR n0) n0 0 0 M1 := ⟨KI_EQ M0_KI E1, ⟨fun t k s ht _ _ _ _ _ _ => by rw [o1 t (by omega)], fun s => by
    rw [o1 1 (by decide)]
    show (0 : Int) = _
    by_cases e : s = 3
    · rw [if_pos e]
    · rw [if_neg e]
      by_cases e : s = 6 ∨ s = 8
      · rw [if_pos e]
      · rw [if_neg e]⟩, fun i i0 i1 => absurd i1 (by omega), fun i i0 i1 => absurd i1 (by omega), fun s => by
    rw [hM1, xup_row, xup_row, xup_row, xup_row, xup_row, xup_row, xup_row]
    rfl, fun t s ht => by
    rw [o1 t (by omega)]
    rcases ht with rfl | rfl | rfl | rfl | rfl | rfl <;> rfl, by rw [o1 15 (by decide)]; rfl⟩
  refine kL_pl hC hcell hn (fun M hI => ?_) n0.toNat 0 M1 (by decide) (by omega) I1
  obtain ⟨M2, hM2⟩ : ∃ M2 : XM, M2 = xup (xup M 20 0 0 1 2) 20 0 0 2 2 := ⟨_, rfl⟩
  refine yru_ok hC [198] 12 _ _ _ _ ?_
  simp only [ykk_ap, Int.reduceEq, Int.reduceLT, Int.reduceLE, Int.reduceNeg, Int.reduceAdd, Int.reduceSub, Int.reduceMul, and_self, false_and, and_false, not_true_eq_false, not_false_eq_true, true_implies, false_implies, xq0, xq1, xq2, xq3, xq4, xq5, xqR, xq1R, xq3R, xt1, xt2, xt3, List.mem_cons, List.not_mem_nil, or_false, false_or, or_self, if_false, if_true, reduceIte, reduceCtorEq, xent, xen, List.length_cons, List.length_nil, List.replicate, j_c, j_cJ, j_ild, j_ald, j_lld, j_ist, j_ast, j_lst, j_inc, j_add, j_sub, j_mul, j_neg, j_div, j_rem, j_and, j_shr, j_shl1, j_or, j_ladd, j_lsub, j_lmul, j_i2l, j_lcmp, j_i2c, j_dup, j_dup2, j_pop, j_goto, j_ieq, j_ine, j_ilt, j_ige, j_igt, j_ile, j_eq, j_ne, j_lt, j_ge, j_gt, j_le, xsw, j_tsw, j_gI, j_gJ, j_gR, j_pI, j_pJ, j_gs, j_iald, j_iast, j_cald, j_cast, j_aald, j_cpy, j_min, j_max, j_abs, j_iret, j_zret, j_lret, j_dret, j_ret0, j_V0, j_V1, j_V2, j_V3, j_V4, j_V5, j_S1, j_S2, j_S3, xget, xset, xset2, xclr, xc1, xcat, Nat.reduceAdd, Nat.reduceEqDiff, Nat.reduceLT, Nat.reduceLeDiff, Nat.reduceMul, List.cons_append, List.nil_append, true_and, and_true, List.singleton_append, j_lsw2, j_Sn, j_ush, j_dupx2, List.take_succ_cons, List.take_zero, List.drop_succ_cons, List.drop_zero, List.reverse_cons, List.reverse_nil, Nat.le_refl, fL_law_187, fL_law_188, fL_law_189, fL_law_190, fL_law_191, fL_law_192, fL_law_193, fL_law_194, fL_law_195, fL_law_196, xvz_20, xvz_21, xvz_22, xvz_23, xvz_24, xvz_25, xvz_26, xvz_27, xvz_28, xvz_29, xrz_20, xrz_21, xrz_22, xrz_23, xrz_24, xrz_25, xrz_26, xrz_27, xrz_28, xrz_29, xdz_20, xdz_21, xdz_22, xdz_23, xdz_24, xdz_25, xdz_26, xdz_27, xdz_28, xdz_29, xlen, xcat, xc1, Nat.zero_le, Nat.reduceLeDiff, List.length_cons, List.length_nil, xvz_0, xr_c (n := 0) rfl, xr_c (n := 1) rfl, xr_c (n := 2) rfl, xr_c (n := 3) rfl, xr_c (n := 4) rfl, xr_c (n := 5) rfl, xr_c (n := 6) rfl, xr_c (n := 8) rfl, xr_c (n := 10) rfl, xr_c (n := 15) rfl, xr_c (n := 40) rfl, xr_c (n := 50) rfl, xr_c (n := 100) rfl, xr_c (n := 120) rfl]
  rw [← hM2]
  have I2 : IN (fun s => if s = 2 then 2 else if s = 1 then 2 else nR n0 s) n0 n0 0 M2 := by
    obtain ⟨hK, ⟨g1, g2⟩, g3, g4, g5, g6, g7⟩ := hI
    have o2 : ∀ t : Nat, ¬ t = 20 → M2 t = M t := fun t ht => by rw [hM2, xup_tag ht, xup_tag ht]
    refine ⟨KI_EQ hK (fun t ht => o2 t (by omega)), ⟨fun t k s ht a b c d e f => by rw [o2 t (by omega)]; exact g1 t k s ht a b c d e f, fun s => by rw [o2 1 (by decide)]; exact g2 s⟩, fun i i0 i1 => by rw [o2 21 (by decide), o2 3 (by decide), o2 4 (by decide)]; exact g3 i i0 i1, fun i i0 i1 => absurd i1 (by omega), fun s => by
      rw [hM2, xup_row, xup_row]
      simp only [sup_at, g5], fun t s ht => by rw [o2 t (by omega)]; exact g6 t s ht, by rw [o2 15 (by decide)]; exact g7⟩
  refine kL_kl hC hcell hn rfl (by decide) I2 (fun M3 I3 => ?_)
  refine kL_kl hC hcell hn rfl (by decide) I3 (fun M4 I4 => ?_)
  obtain ⟨M5, hM5⟩ : ∃ M5 : XM, M5 = xup M4 20 0 0 5 6 := ⟨_, rfl⟩
  refine yru_ok hC [270, 204] 5 _ _ _ _ ?_
  simp only [ykk_ap, Int.reduceEq, Int.reduceLT, Int.reduceLE, Int.reduceNeg, Int.reduceAdd, Int.reduceSub, Int.reduceMul, and_self, false_and, and_false, not_true_eq_false, not_false_eq_true, true_implies, false_implies, xq0, xq1, xq2, xq3, xq4, xq5, xqR, xq1R, xq3R, xt1, xt2, xt3, List.mem_cons, List.not_mem_nil, or_false, false_or, or_self, if_false, if_true, reduceIte, reduceCtorEq, xent, xen, List.length_cons, List.length_nil, List.replicate, j_c, j_cJ, j_ild, j_ald, j_lld, j_ist, j_ast, j_lst, j_inc, j_add, j_sub, j_mul, j_neg, j_div, j_rem, j_and, j_shr, j_shl1, j_or, j_ladd, j_lsub, j_lmul, j_i2l, j_lcmp, j_i2c, j_dup, j_dup2, j_pop, j_goto, j_ieq, j_ine, j_ilt, j_ige, j_igt, j_ile, j_eq, j_ne, j_lt, j_ge, j_gt, j_le, xsw, j_tsw, j_gI, j_gJ, j_gR, j_pI, j_pJ, j_gs, j_iald, j_iast, j_cald, j_cast, j_aald, j_cpy, j_min, j_max, j_abs, j_iret, j_zret, j_lret, j_dret, j_ret0, j_V0, j_V1, j_V2, j_V3, j_V4, j_V5, j_S1, j_S2, j_S3, xget, xset, xset2, xclr, xc1, xcat, Nat.reduceAdd, Nat.reduceEqDiff, Nat.reduceLT, Nat.reduceLeDiff, Nat.reduceMul, List.cons_append, List.nil_append, true_and, and_true, List.singleton_append, j_lsw2, j_Sn, j_ush, j_dupx2, List.take_succ_cons, List.take_zero, List.drop_succ_cons, List.drop_zero, List.reverse_cons, List.reverse_nil, Nat.le_refl, fL_law_198, fL_law_200, fL_law_201, xvz_20, xvz_21, xvz_22, xvz_23, xvz_24, xvz_25, xvz_26, xvz_27, xvz_28, xvz_29, xrz_20, xrz_21, xrz_22, xrz_23, xrz_24, xrz_25, xrz_26, xrz_27, xrz_28, xrz_29, xdz_20, xdz_21, xdz_22, xdz_23, xdz_24, xdz_25, xdz_26, xdz_27, xdz_28, xdz_29, xlen, xcat, xc1, Nat.zero_le, Nat.reduceLeDiff, List.length_cons, List.length_nil, xvz_0, xr_c (n := 0) rfl, xr_c (n := 1) rfl, xr_c (n := 2) rfl, xr_c (n := 3) rfl, xr_c (n := 4) rfl, xr_c (n := 5) rfl, xr_c (n := 6) rfl, xr_c (n := 8) rfl, xr_c (n := 10) rfl, xr_c (n := 15) rfl, xr_c (n := 40) rfl, xr_c (n := 50) rfl, xr_c (n := 100) rfl, xr_c (n := 120) rfl]
  refine yru_ok hC [278] 8 _ _ _ _ ?_
  simp only [ykk_ap, Int.reduceEq, Int.reduceLT, Int.reduceLE, Int.reduceNeg, Int.reduceAdd, Int.reduceSub, Int.reduceMul, and_self, false_and, and_false, not_true_eq_false, not_false_eq_true, true_implies, false_implies, xq0, xq1, xq2, xq3, xq4, xq5, xqR, xq1R, xq3R, xt1, xt2, xt3, List.mem_cons, List.not_mem_nil, or_false, false_or, or_self, if_false, if_true, reduceIte, reduceCtorEq, xent, xen, List.length_cons, List.length_nil, List.replicate, j_c, j_cJ, j_ild, j_ald, j_lld, j_ist, j_ast, j_lst, j_inc, j_add, j_sub, j_mul, j_neg, j_div, j_rem, j_and, j_shr, j_shl1, j_or, j_ladd, j_lsub, j_lmul, j_i2l, j_lcmp, j_i2c, j_dup, j_dup2, j_pop, j_goto, j_ieq, j_ine, j_ilt, j_ige, j_igt, j_ile, j_eq, j_ne, j_lt, j_ge, j_gt, j_le, xsw, j_tsw, j_gI, j_gJ, j_gR, j_pI, j_pJ, j_gs, j_iald, j_iast, j_cald, j_cast, j_aald, j_cpy, j_min, j_max, j_abs, j_iret, j_zret, j_lret, j_dret, j_ret0, j_V0, j_V1, j_V2, j_V3, j_V4, j_V5, j_S1, j_S2, j_S3, xget, xset, xset2, xclr, xc1, xcat, Nat.reduceAdd, Nat.reduceEqDiff, Nat.reduceLT, Nat.reduceLeDiff, Nat.reduceMul, List.cons_append, List.nil_append, true_and, and_true, List.singleton_append, j_lsw2, j_Sn, j_ush, j_dupx2, List.take_succ_cons, List.take_zero, List.drop_succ_cons, List.drop_zero, List.reverse_cons, List.reverse_nil, Nat.le_refl, fL_law_270, fL_law_271, fL_law_272, fL_law_274, fL_law_275, fL_law_276, xvz_20, xvz_21, xvz_22, xvz_23, xvz_24, xvz_25, xvz_26, xvz_27, xvz_28, xvz_29, xrz_20, xrz_21, xrz_22, xrz_23, xrz_24, xrz_25, xrz_26, xrz_27, xrz_28, xrz_29, xdz_20, xdz_21, xdz_22, xdz_23, xdz_24, xdz_25, xdz_26, xdz_27, xdz_28, xdz_29, xlen, xcat, xc1, Nat.zero_le, Nat.reduceLeDiff, List.length_cons, List.length_nil, xvz_0, xr_c (n := 0) rfl, xr_c (n := 1) rfl, xr_c (n := 2) rfl, xr_c (n := 3) rfl, xr_c (n := 4) rfl, xr_c (n := 5) rfl, xr_c (n := 6) rfl, xr_c (n := 8) rfl, xr_c (n := 10) rfl, xr_c (n := 15) rfl, xr_c (n := 40) rfl, xr_c (n := 50) rfl, xr_c (n := 100) rfl, xr_c (n := 120) rfl]
  rw [← hM5]
  have I5 : IN (fun s => if s = 5 then 6 else if s = 2 then 2 else if s = 1 then 2 else nR n0 s) n0 n0 2 M5 := by
    obtain ⟨hK, ⟨g1, g2⟩, g3, g4, g5, g6, g7⟩ := I4
    have o2 : ∀ t : Nat, ¬ t = 20 → M5 t = M4 t := fun t ht => by rw [hM5, xup_tag ht]
    refine ⟨KI_EQ hK (fun t ht => o2 t (by omega)), ⟨fun t k s ht a b c d e f => by rw [o2 t (by omega)]; exact g1 t k s ht a b c d e f, fun s => by rw [o2 1 (by decide)]; exact g2 s⟩, fun i i0 i1 => by rw [o2 21 (by decide), o2 3 (by decide), o2 4 (by decide)]; exact g3 i i0 i1, fun i i0 i1 => by rw [o2 22 (by decide), o2 26 (by decide), o2 8 (by decide), o2 13 (by decide)]; exact g4 i i0 i1, fun s => by
      rw [hM5, xup_row]
      simp only [sup_at, g5], fun t s ht => by rw [o2 t (by omega)]; exact g6 t s ht, by rw [o2 15 (by decide)]; exact g7⟩
  exact kL_loop hC hcell hend 45 5 0 M5 _ _ _ _ _ _ _ (by decide) (by decide) (by decide) (IN_full I5 hn (fun s => rfl))
end XIn

