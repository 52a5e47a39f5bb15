section XRl
/-! what the law's rows in M say of a film's memory G (film 0) -/
def s5 (f : Int → Int) : Int := f 0 + f 1 + f 2 + f 3 + f 4
theorem s5_congr {f g : Int → Int} (h : ∀ u : Int, 0 ≤ u → u < 5 → f u = g u) : s5 f = s5 g := by
  unfold s5
  rw [h 0 (by decide) (by decide), h 1 (by decide) (by decide), h 2 (by decide) (by decide), h 3 (by decide) (by decide), h 4 (by decide) (by decide)]
theorem s5_one {f g : Int → Int} {u : Int} (h0 : 0 ≤ u) (h1 : u < 5) (h : ∀ v : Int, 0 ≤ v → v < 5 → ¬ v = u → g v = f v) : s5 g = s5 f + (g u - f u) := by
  unfold s5
  rcases (show u = 0 ∨ u = 1 ∨ u = 2 ∨ u = 3 ∨ u = 4 by omega) with rfl | rfl | rfl | rfl | rfl
  · rw [h 1 (by decide) (by decide) (by decide), h 2 (by decide) (by decide) (by decide), h 3 (by decide) (by decide) (by decide), h 4 (by decide) (by decide) (by decide)]
    omega
  · rw [h 0 (by decide) (by decide) (by decide), h 2 (by decide) (by decide) (by decide), h 3 (by decide) (by decide) (by decide), h 4 (by decide) (by decide) (by decide)]
    omega
  · rw [h 0 (by decide) (by decide) (by decide), h 1 (by decide) (by decide) (by decide), h 3 (by decide) (by decide) (by decide), h 4 (by decide) (by decide) (by decide)]
    omega
  · rw [h 0 (by decide) (by decide) (by decide), h 1 (by decide) (by decide) (by decide), h 2 (by decide) (by decide) (by decide), h 4 (by decide) (by decide) (by decide)]
    omega
  · rw [h 0 (by decide) (by decide) (by decide), h 1 (by decide) (by decide) (by decide), h 2 (by decide) (by decide) (by decide), h 3 (by decide) (by decide) (by decide)]
    omega
theorem s5_at {f : Int → Int} (h : ∀ u : Int, 0 ≤ u → u < 5 → 0 ≤ f u) {u : Int} (h0 : 0 ≤ u) (h1 : u < 5) : f u ≤ s5 f := by
  have a0 := h 0 (by decide) (by decide)
  have a1 := h 1 (by decide) (by decide)
  have a2 := h 2 (by decide) (by decide)
  have a3 := h 3 (by decide) (by decide)
  have a4 := h 4 (by decide) (by decide)
  unfold s5
  rcases (show u = 0 ∨ u = 1 ∨ u = 2 ∨ u = 3 ∨ u = 4 by omega) with rfl | rfl | rfl | rfl | rfl <;> omega
theorem s5_le {f g : Int → Int} (h : ∀ u : Int, 0 ≤ u → u < 5 → f u ≤ g u) : s5 f ≤ s5 g := by
  have a0 := h 0 (by decide) (by decide)
  have a1 := h 1 (by decide) (by decide)
  have a2 := h 2 (by decide) (by decide)
  have a3 := h 3 (by decide) (by decide)
  have a4 := h 4 (by decide) (by decide)
  unfold s5
  omega
theorem sf_s5 {f : Int → Int} {n : Int} (h0 : 0 ≤ n) (h5 : n ≤ 5) (hz : ∀ u : Int, n ≤ u → u < 5 → f u = 0) : sf f 0 n.toNat = s5 f := by
  unfold s5
  rcases (show n = 0 ∨ n = 1 ∨ n = 2 ∨ n = 3 ∨ n = 4 ∨ n = 5 by omega) with rfl | rfl | rfl | rfl | rfl | rfl
  · rw [hz 0 (by decide) (by decide), hz 1 (by decide) (by decide), hz 2 (by decide) (by decide), hz 3 (by decide) (by decide), hz 4 (by decide) (by decide)]
    rfl
  · rw [hz 1 (by decide) (by decide), hz 2 (by decide) (by decide), hz 3 (by decide) (by decide), hz 4 (by decide) (by decide)]
    simp only [show (1 : Int).toNat = 1 from rfl, sf]
    omega
  · rw [hz 2 (by decide) (by decide), hz 3 (by decide) (by decide), hz 4 (by decide) (by decide)]
    simp only [show (2 : Int).toNat = 2 from rfl, sf, Int.reduceAdd]
    omega
  · rw [hz 3 (by decide) (by decide), hz 4 (by decide) (by decide)]
    simp only [show (3 : Int).toNat = 3 from rfl, sf, Int.reduceAdd]
    omega
  · rw [hz 4 (by decide) (by decide)]
    simp only [show (4 : Int).toNat = 4 from rfl, sf, Int.reduceAdd]
    omega
  · simp only [show (5 : Int).toNat = 5 from rfl, sf, Int.reduceAdd]
    omega
def xU (M : XM) (u s : Int) : Int := M 28 0 0 (12 * u + s)
def rC (G M : XM) : Prop :=
  (M 20 0 0 6 = 10 ∧ M 20 0 0 7 = 15 ∧ M 20 0 0 8 = 1 ∧ M 20 0 0 9 = 40 ∧ M 20 0 0 10 = 5 ∧ M 20 0 0 11 = 120) ∧ (G 2 0 0 0 = 10 ∧ G 2 0 0 1 = 15 ∧ G 2 0 0 2 = 1 ∧ G 2 0 0 3 = 40 ∧ G 2 0 0 4 = 5 ∧ G 2 0 0 5 = 120) ∧
  (2 ≤ M 20 0 0 0 ∧ M 20 0 0 0 ≤ 3) ∧ (M 20 0 0 1 = 2 ∧ M 20 0 0 2 = 2) ∧ (0 ≤ M 20 0 0 3 ∧ M 20 0 0 3 ≤ 5) ∧ (G 1 0 0 3 = M 20 0 0 0 ∧ G 1 0 0 6 = 2 ∧ G 1 0 0 8 = 2 ∧ G 1 0 0 10 = M 20 0 0 3 ∧ G 1 0 0 0 = M 20 0 0 4) ∧ 0 ≤ M 20 0 0 4 ∧ (M 20 0 0 5 = 6 ∧ G 15 0 0 2 = 6)
def rP (G M : XM) : Prop := ∀ p : Int, 0 ≤ p → p < M 20 0 0 0 → (0 ≤ M 21 0 0 p ∧ M 21 0 0 p < 1000) ∧ G 3 0 0 p = M 21 0 0 p / 100 ∧ G 4 0 0 p = M 21 0 0 p % 100
def rK1 (G M : XM) (k : Int) : Prop :=
  (G 8 0 k 0 = M 22 0 0 k ∧ 0 ≤ M 22 0 0 k ∧ M 22 0 0 k < M 20 0 0 0) ∧ (∀ d : Int, 0 ≤ d → d < 3 → G 9 0 k d = M 23 0 0 (3 * k + d) ∧ 0 ≤ M 23 0 0 (3 * k + d) ∧ M 23 0 0 (3 * k + d) ≤ 999) ∧ (G 8 0 k 3 = M 25 0 0 k ∧ 0 ≤ M 25 0 0 k ∧ M 25 0 0 k ≤ 40) ∧ (M 25 0 0 k = 0 → G 8 0 k 2 = -1) ∧ (¬ M 25 0 0 k = 0 → G 8 0 k 2 = M 24 0 0 k ∧ 0 ≤ M 24 0 0 k ∧ M 24 0 0 k ≤ 2)
def rK (G M : XM) : Prop := ∀ k : Int, 0 ≤ k → k < 2 → rK1 G M k
def rL1 (G M : XM) (l : Int) : Prop :=
  (0 ≤ M 26 0 0 l ∧ M 26 0 0 l < M 20 0 0 0) ∧ (0 ≤ M 27 0 0 l ∧ M 27 0 0 l ≤ 1000 ∧ G 13 0 l 2 = M 27 0 0 l) ∧ (M 27 0 0 l = 0 → G 13 0 l 0 = M 26 0 0 l ∧ G 13 0 l 1 = -1) ∧ (¬ M 27 0 0 l = 0 → G 13 0 l 0 = -1 ∧ G 13 0 l 1 = M 26 0 0 l)
def rL (G M : XM) : Prop := ∀ l : Int, 0 ≤ l → l < 2 → rL1 G M l
def rU1 (d : Int) (G M : XM) (u : Int) : Prop :=
  (G 14 0 u 0 = xU M u 0 ∧ G 14 0 u 9 = xU M u 9 ∧ G 14 0 u 10 = xU M u 10 ∧ G 14 0 u 11 = xU M u 11) ∧ (0 ≤ xU M u 0 ∧ xU M u 0 ≤ 2) ∧ (0 ≤ xU M u 4 ∧ xU M u 4 ≤ M 20 0 0 4 + 50) ∧ (0 ≤ xU M u 9 ∧ 0 ≤ xU M u 10 ∧ 0 ≤ xU M u 11) ∧
  (xU M u 0 = 0 → (∀ s : Int, 1 ≤ s → s ≤ 8 → G 14 0 u s = xU M u s) ∧ (0 ≤ xU M u 1 ∧ xU M u 1 < M 20 0 0 0) ∧ (1 ≤ xU M u 2 ∧ xU M u 2 ≤ 300 ∧ 0 ≤ xU M u 3 ∧ xU M u 3 ≤ xU M u 2) ∧ M 20 0 0 4 + d ≤ xU M u 4 ∧ (30 ≤ xU M u 5 ∧ xU M u 5 ≤ 49) ∧ (0 ≤ xU M u 6 ∧ 0 ≤ xU M u 7) ∧ (xU M u 8 = -1 ↔ xU M u 6 + xU M u 7 = 0) ∧ (-1 ≤ xU M u 8 ∧ xU M u 8 ≤ M 20 0 0 4) ∧ xU M u 11 = 0) ∧
  (¬ xU M u 0 = 0 → G 14 0 u 2 = 0 ∧ G 14 0 u 3 = 0 ∧ G 14 0 u 6 = 0 ∧ G 14 0 u 7 = 0 ∧ G 14 0 u 8 = -1)
def rU0 (G : XM) (u : Int) : Prop := G 14 0 u 0 = 0 ∧ G 14 0 u 2 = 0 ∧ G 14 0 u 3 = 0 ∧ G 14 0 u 6 = 0 ∧ G 14 0 u 7 = 0 ∧ G 14 0 u 8 = -1 ∧ G 14 0 u 9 = 0 ∧ G 14 0 u 10 = 0 ∧ G 14 0 u 11 = 0
def rU (d : Int → Int) (G M : XM) : Prop := ∀ u : Int, 0 ≤ u → u < 5 → (u < M 20 0 0 3 → rU1 (d u) G M u) ∧ (M 20 0 0 3 ≤ u → rU0 G u)
def rT (G M : XM) : Prop :=
  M 20 0 0 13 = G 8 0 0 5 + G 8 0 1 5 ∧ M 20 0 0 14 = s5 (fun u => G 14 0 u 9) ∧ M 20 0 0 15 = G 8 0 0 6 + G 8 0 1 6 + (G 13 0 0 5 + G 13 0 1 5) ∧ M 20 0 0 16 = G 1 0 0 1 ∧ M 20 0 0 17 = s5 (fun u => G 14 0 u 11) ∧ M 20 0 0 18 = s5 (fun u => G 14 0 u 10) ∧ M 20 0 0 16 = s5 (uG G 0)
/-- a class's store, by the law's number of it -/
def stc (j : Int) : Int := if j < 3 then j else j + 1
def SR1 (G : XM) (t : Int) (F : Int → Int) (j : Int) : Prop := ∀ x : Int, 0 ≤ x → x < 192 → G 11 0 j x = F (kx t (stc j) x)
def SRw (w t : Int) (F : Int → Int) : Prop := ∀ q : Int, ¬ F q = 0 → (q % 8 = 0 ∨ q % 8 = 1 ∨ q % 8 = 4 ∨ q % 8 = 5) ∧ q / 8 % 4 < 3 ∧ t - w ≤ q / 32 ∧ q / 32 ≤ t
def rS (w t : Int) (G : XM) (F : Int → Int) : Prop := SRw w t F ∧ ∀ j : Int, j = 0 ∨ j = 1 ∨ j = 3 ∨ j = 4 → SR1 G t F j
def c5 (x : Int) : Int := (x + 4) / 5
def rB (a : Int) (G M : XM) (T : Int) : Prop :=
  (0 ≤ a ∧ a ≤ 45) ∧ (0 ≤ M 20 0 0 13 ∧ M 20 0 0 13 + M 25 0 0 0 + M 25 0 0 1 ≤ 40 * a) ∧ (0 ≤ M 20 0 0 15 ∧ M 20 0 0 15 + T + M 25 0 0 0 + M 25 0 0 1 ≤ 40 * a) ∧ M 20 0 0 12 + c5 (M 25 0 0 0) + c5 (M 25 0 0 1) ≤ 55 ∧
  M 20 0 0 16 ≤ 5 * s5 (fun u => if u < M 20 0 0 3 then xU M u 4 else 0) ∧ s5 (fun u => G 14 0 u 2) ≤ 30 * M 20 0 0 3
/-- the hour, and what the penalties can come to by then -/
def rX (tb e : Int) (M : XM) : Prop := (M 20 0 0 4 ≤ tb ∧ tb ≤ 2700) ∧ 2 * M 20 0 0 18 ≤ 25 * ((M 20 0 0 4 - e) * (M 20 0 0 4 - e)) + 2600 * (M 20 0 0 4 - e)
def RY (a : Int) (d : Int → Int) (w : Int) (G M : XM) (F : Int → Int) (T : Int) : Prop := rC G M ∧ rP G M ∧ rK G M ∧ rL G M ∧ rU d G M ∧ rT G M ∧ BM M F T ∧ rS w (M 20 0 0 4) G F ∧ rB a G M T
def Rel (a tb : Int) (G M : XM) : Prop := rX tb 0 M ∧ ∃ (F : Int → Int) (T : Int), RY a (fun _ => 1) 40 G M F T
/-- what they depend on -/
theorem rC_c {G M G' M' : XM} (h1 : ∀ s : Int, s = 3 ∨ s = 6 ∨ s = 8 ∨ s = 10 ∨ s = 0 → G' 1 0 0 s = G 1 0 0 s) (h2 : G' 2 = G 2) (h15 : G' 15 0 0 2 = G 15 0 0 2) (hM : ∀ s : Int, s < 12 → M' 20 0 0 s = M 20 0 0 s) (h : rC G M) : rC G' M' := by
  unfold rC at h ⊢
  rw [h1 3 (by decide), h1 6 (by decide), h1 8 (by decide), h1 10 (by decide), h1 0 (by decide), h2, h15, hM 0 (by decide), hM 1 (by decide), hM 2 (by decide), hM 3 (by decide), hM 4 (by decide), hM 5 (by decide), hM 6 (by decide), hM 7 (by decide), hM 8 (by decide), hM 9 (by decide), hM 10 (by decide), hM 11 (by decide)]
  exact h
theorem rP_c {G M G' M' : XM} (h3 : G' 3 = G 3) (h4 : G' 4 = G 4) (h0 : M' 20 0 0 0 = M 20 0 0 0) (h21 : M' 21 = M 21) (h : rP G M) : rP G' M' := by
  unfold rP at h ⊢
  rw [h3, h4, h0, h21]
  exact h
theorem rK1_c {G M G' M' : XM} {k : Int} (h8 : ∀ s : Int, s = 0 ∨ s = 2 ∨ s = 3 → G' 8 0 k s = G 8 0 k s) (h9 : ∀ d : Int, G' 9 0 k d = G 9 0 k d) (h0 : M' 20 0 0 0 = M 20 0 0 0) (h22 : M' 22 0 0 k = M 22 0 0 k) (h23 : ∀ d : Int, 0 ≤ d → d < 3 → M' 23 0 0 (3 * k + d) = M 23 0 0 (3 * k + d)) (h24 : M' 24 0 0 k = M 24 0 0 k) (h25 : M' 25 0 0 k = M 25 0 0 k) (h : rK1 G M k) : rK1 G' M' k := by
  obtain ⟨a, b, c, d, e⟩ := h
  unfold rK1
  rw [h8 0 (by decide), h8 2 (by decide), h8 3 (by decide), h0, h22, h24, h25]
  refine ⟨a, fun x g0 g1 => ?_, c, d, e⟩
  rw [h9, h23 x g0 g1]
  exact b x g0 g1
theorem rL1_c {G M G' M' : XM} {l : Int} (h13 : ∀ s : Int, s = 0 ∨ s = 1 ∨ s = 2 → G' 13 0 l s = G 13 0 l s) (h0 : M' 20 0 0 0 = M 20 0 0 0) (h26 : M' 26 0 0 l = M 26 0 0 l) (h27 : M' 27 0 0 l = M 27 0 0 l) (h : rL1 G M l) : rL1 G' M' l := by
  unfold rL1 at h ⊢
  rw [h13 0 (by decide), h13 1 (by decide), h13 2 (by decide), h0, h26, h27]
  exact h
theorem rU1_c {d : Int} {G M G' M' : XM} {u : Int} (h14 : ∀ s : Int, 0 ≤ s → s < 12 → G' 14 0 u s = G 14 0 u s) (h0 : M' 20 0 0 0 = M 20 0 0 0) (h4 : M' 20 0 0 4 = M 20 0 0 4) (h28 : ∀ s : Int, 0 ≤ s → s < 12 → xU M' u s = xU M u s) (h : rU1 d G M u) : rU1 d G' M' u := by
  obtain ⟨a, b, c, e, f, g⟩ := h
  unfold rU1
  rw [h14 0 (by decide) (by decide), h14 9 (by decide) (by decide), h14 10 (by decide) (by decide), h14 11 (by decide) (by decide), h14 2 (by decide) (by decide), h14 3 (by decide) (by decide), h14 6 (by decide) (by decide), h14 7 (by decide) (by decide), h14 8 (by decide) (by decide), h0, h4, h28 0 (by decide) (by decide), h28 1 (by decide) (by decide), h28 2 (by decide) (by decide), h28 3 (by decide) (by decide), h28 4 (by decide) (by decide), h28 5 (by decide) (by decide), h28 6 (by decide) (by decide), h28 7 (by decide) (by decide), h28 8 (by decide) (by decide), h28 9 (by decide) (by decide), h28 10 (by decide) (by decide), h28 11 (by decide) (by decide)]
  refine ⟨a, b, c, e, fun z => ?_, g⟩
  obtain ⟨f1, f2⟩ := f z
  exact ⟨fun s s0 s1 => by rw [h14 s (by omega) (by omega), h28 s (by omega) (by omega)]; exact f1 s s0 s1, f2⟩
theorem rU0_c {G G' : XM} {u : Int} (h14 : ∀ s : Int, 0 ≤ s → s < 12 → G' 14 0 u s = G 14 0 u s) (h : rU0 G u) : rU0 G' u := by
  unfold rU0 at h ⊢
  rw [h14 0 (by decide) (by decide), h14 9 (by decide) (by decide), h14 10 (by decide) (by decide), h14 11 (by decide) (by decide), h14 2 (by decide) (by decide), h14 3 (by decide) (by decide), h14 6 (by decide) (by decide), h14 7 (by decide) (by decide), h14 8 (by decide) (by decide)]
  exact h
theorem xU_c {M M' : XM} (h : M' 28 = M 28) (u s : Int) : xU M' u s = xU M u s := by unfold xU; rw [h]
theorem rU_c {d : Int → Int} {G M G' M' : XM} (h14 : ∀ u s : Int, 0 ≤ u → u < 5 → 0 ≤ s → s < 12 → G' 14 0 u s = G 14 0 u s) (h0 : M' 20 0 0 0 = M 20 0 0 0) (h3 : M' 20 0 0 3 = M 20 0 0 3) (h4 : M' 20 0 0 4 = M 20 0 0 4) (h28 : M' 28 = M 28) (h : rU d G M) : rU d G' M' := fun u a b => by
  obtain ⟨q1, q2⟩ := h u a b
  rw [h3]
  exact ⟨fun z => rU1_c (fun s c e => h14 u s a b c e) h0 h4 (fun s _ _ => xU_c h28 u s) (q1 z), fun z => rU0_c (fun s c e => h14 u s a b c e) (q2 z)⟩
theorem rT_c {G M G' M' : XM} (h8 : ∀ k s : Int, s = 5 ∨ s = 6 → G' 8 0 k s = G 8 0 k s) (h13 : ∀ l : Int, G' 13 0 l 5 = G 13 0 l 5) (h14 : ∀ u s : Int, 0 ≤ u → u < 5 → s = 6 ∨ s = 7 ∨ s = 9 ∨ s = 10 ∨ s = 11 → G' 14 0 u s = G 14 0 u s) (h1 : G' 1 0 0 1 = G 1 0 0 1) (hM : ∀ s : Int, 13 ≤ s → s < 19 → M' 20 0 0 s = M 20 0 0 s) (h : rT G M) : rT G' M' := by
  unfold rT at h ⊢
  rw [hM 13 (by decide) (by decide), hM 14 (by decide) (by decide), hM 15 (by decide) (by decide), hM 16 (by decide) (by decide), hM 17 (by decide) (by decide), hM 18 (by decide) (by decide), h8 0 5 (by decide), h8 1 5 (by decide), h8 0 6 (by decide), h8 1 6 (by decide), h13, h13, h1,
    s5_congr (fun u a b => h14 u 9 a b (by decide)), s5_congr (fun u a b => h14 u 11 a b (by decide)), s5_congr (fun u a b => h14 u 10 a b (by decide)), s5_congr (f := uG G' 0) (g := uG G 0) (fun u a b => by unfold uG; rw [h14 u 9 a b (by decide), h14 u 6 a b (by decide), h14 u 7 a b (by decide), h14 u 11 a b (by decide)])]
  exact h
theorem rS_c {w t : Int} {G G' : XM} {F : Int → Int} (h11 : ∀ j x : Int, G' 11 0 j x = G 11 0 j x) (h : rS w t G F) : rS w t G' F := ⟨h.1, fun j hj x a b => by rw [h11]; exact h.2 j hj x a b⟩
theorem rB_c {a : Int} {G M G' M' : XM} {T : Int} (h20 : M' 20 = M 20) (h25 : M' 25 = M 25) (h28 : M' 28 = M 28) (h14 : ∀ u : Int, 0 ≤ u → u < 5 → G' 14 0 u 2 = G 14 0 u 2) (h : rB a G M T) : rB a G' M' T := by
  unfold rB at h ⊢
  rw [h20, h25, s5_congr (f := fun u => if u < M 20 0 0 3 then xU M' u 4 else 0) (g := fun u => if u < M 20 0 0 3 then xU M u 4 else 0) (fun u _ _ => by rw [xU_c h28]), s5_congr (f := fun u => G' 14 0 u 2) (g := fun u => G 14 0 u 2) h14]
  exact h
theorem BM_c {M M' : XM} {F : Int → Int} {T : Int} (h12 : M' 20 0 0 12 = M 20 0 0 12) (h29 : M' 29 = M 29) (h : BM M F T) : BM M' F T := by
  unfold BM at h ⊢
  rw [h12, h29]
  exact h
theorem RY_cg {a w : Int} {d : Int → Int} {G H M : XM} {F : Int → Int} {T : Int} (h1 : ∀ s : Int, H 1 0 0 s = G 1 0 0 s) (h2 : H 2 = G 2) (h3 : H 3 = G 3) (h4 : H 4 = G 4) (h15 : H 15 = G 15) (h8 : H 8 = G 8) (h9 : H 9 = G 9) (h13 : ∀ l s : Int, ¬ s = 4 → H 13 0 l s = G 13 0 l s) (h14 : ∀ u s : Int, 0 ≤ u → u < 5 → 0 ≤ s → s < 12 → H 14 0 u s = G 14 0 u s) (h11 : ∀ j x : Int, (j = 0 ∨ j = 1 ∨ j = 3 ∨ j = 4) → 0 ≤ x → x < 192 → H 11 0 j x = G 11 0 j x) (h : RY a d w G M F T) : RY a d w H M F T := by
  obtain ⟨q1, q2, q3, q4, q5, q6, q7, q8, q9⟩ := h
  exact ⟨rC_c (fun s _ => h1 s) h2 (by rw [h15]) (fun _ _ => rfl) q1, rP_c h3 h4 rfl rfl q2, fun k b c => rK1_c (fun s _ => by rw [h8]) (fun x => by rw [h9]) rfl rfl (fun _ _ _ => rfl) rfl rfl (q3 k b c), fun l b c => rL1_c (fun s z => h13 l s (by omega)) rfl rfl rfl (q4 l b c), rU_c (fun u s z0 z1 z2 z3 => h14 u s z0 z1 z2 z3) rfl rfl rfl rfl q5, rT_c (fun k s _ => by rw [h8]) (fun l => h13 l 5 (by decide)) (fun u s z0 z1 z2 => h14 u s z0 z1 (by omega) (by omega)) (h1 1) (fun _ _ _ => rfl) q6, q7, ⟨q8.1, fun j hj x x0 x1 => by rw [h11 j x hj x0 x1]; exact q8.2 j hj x x0 x1⟩, rB_c rfl rfl rfl (fun u z0 z1 => h14 u 2 z0 z1 (by decide) (by decide)) q9⟩
/-- the class's part of two memories is the same -/
def EQ (G H : XM) : Prop := ∀ t : Nat, t < 20 → G t = H t
theorem EQ_refl (G : XM) : EQ G G := fun _ _ => rfl
theorem EQ_symm {G H : XM} (h : EQ G H) : EQ H G := fun t a => (h t a).symm
theorem EQ_trans {G H K : XM} (h : EQ G H) (g : EQ H K) : EQ G K := fun t a => (h t a).trans (g t a)
theorem RY_EQ {a w : Int} {d : Int → Int} {G H M : XM} {F : Int → Int} {T : Int} (e : EQ H G) (h : RY a d w G M F T) : RY a d w H M F T := by
  obtain ⟨h1, h2, h3, h4, h5, h6, h7, h8, h9⟩ := h
  refine ⟨rC_c (fun s _ => by rw [e 1 (by decide)]) (e 2 (by decide)) (by rw [e 15 (by decide)]) (fun _ _ => rfl) h1, rP_c (e 3 (by decide)) (e 4 (by decide)) rfl rfl h2, fun k b c => rK1_c (fun s _ => by rw [e 8 (by decide)]) (fun d => by rw [e 9 (by decide)]) rfl rfl (fun _ _ _ => rfl) rfl rfl (h3 k b c), fun l b c => rL1_c (fun s _ => by rw [e 13 (by decide)]) rfl rfl rfl (h4 l b c), rU_c (fun u s _ _ _ _ => by rw [e 14 (by decide)]) rfl rfl rfl rfl h5, rT_c (fun k s _ => by rw [e 8 (by decide)]) (fun l => by rw [e 13 (by decide)]) (fun u s _ _ _ => by rw [e 14 (by decide)]) (by rw [e 1 (by decide)]) (fun _ _ _ => rfl) h6, h7, rS_c (fun j x => by rw [e 11 (by decide)]) h8, rB_c rfl rfl rfl (fun u _ _ => by rw [e 14 (by decide)]) h9⟩
/-- the law's part of two memories is the same -/
theorem RY_M {a w : Int} {d : Int → Int} {G M M' : XM} {F : Int → Int} {T : Int} (e : ∀ t : Nat, 20 ≤ t → M' t = M t) (h : RY a d w G M F T) : RY a d w G M' F T := by
  obtain ⟨h1, h2, h3, h4, h5, h6, h7, h8, h9⟩ := h
  have e20 := e 20 (by decide)
  refine ⟨rC_c (fun _ _ => rfl) rfl rfl (fun s _ => by rw [e20]) h1, rP_c rfl rfl (by rw [e20]) (e 21 (by decide)) h2, fun k b c => rK1_c (fun _ _ => rfl) (fun _ => rfl) (by rw [e20]) (by rw [e 22 (by decide)]) (fun _ _ _ => by rw [e 23 (by decide)]) (by rw [e 24 (by decide)]) (by rw [e 25 (by decide)]) (h3 k b c), fun l b c => rL1_c (fun _ _ => rfl) (by rw [e20]) (by rw [e 26 (by decide)]) (by rw [e 27 (by decide)]) (h4 l b c), rU_c (fun _ _ _ _ _ _ => rfl) (by rw [e20]) (by rw [e20]) (by rw [e20]) (e 28 (by decide)) h5, rT_c (fun _ _ _ => rfl) (fun _ => rfl) (fun _ _ _ _ _ => rfl) rfl (fun _ _ _ => by rw [e20]) h6, BM_c (by rw [e20]) (e 29 (by decide)) h7, by rw [e20]; exact h8, rB_c e20 (e 25 (by decide)) (e 28 (by decide)) (fun _ _ _ => rfl) h9⟩
theorem Rel_EQ {a tb : Int} {G H M : XM} (e : EQ H G) (h : Rel a tb G M) : Rel a tb H M := by
  obtain ⟨x, F, T, h⟩ := h
  exact ⟨x, F, T, RY_EQ e h⟩
theorem Rel_M {a tb : Int} {G M M' : XM} (e : ∀ t : Nat, 20 ≤ t → M' t = M t) (h : Rel a tb G M) : Rel a tb G M' := by
  obtain ⟨x, F, T, h⟩ := h
  refine ⟨?_, F, T, RY_M e h⟩
  unfold rX at x ⊢
  rw [e 20 (by decide)]
  exact x
end XRl

