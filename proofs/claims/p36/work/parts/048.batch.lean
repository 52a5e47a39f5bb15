section XBt
/-! the law's batches: a row a of N numbers, each a key below 131072 and how many meals; F says how many of a key, T how many in all -/
def BR (a : Int → Int) (N : Int) (F : Int → Int) (T : Int) : Prop :=
  (0 ≤ N ∧ N ≤ 64) ∧ (∀ k : Int, 0 ≤ k → k < N → 131072 ≤ a k ∧ a k ≤ 2147483647 ∧ F (a k % 131072) = a k / 131072) ∧ (∀ k k' : Int, 0 ≤ k → k < N → 0 ≤ k' → k' < N → a k % 131072 = a k' % 131072 → k = k') ∧ (∀ q : Int, F q = 0 ∨ ∃ k : Int, (0 ≤ k ∧ k < N) ∧ a k % 131072 = q) ∧ sm (fun k => a k / 131072) 0 N.toNat = T
theorem sup_at (S : Int → Int) (x v y : Int) : sup S x v y = if y = x then v else S y := rfl
theorem sup_div (a : Int → Int) (k v c : Int) : (fun j => sup a k v j / c) = sup (fun j => a j / c) k (v / c) := by
  funext j
  simp only [sup]
  split <;> rfl
theorem BR_T {a : Int → Int} {N T : Int} {F : Int → Int} (h : BR a N F T) : 0 ≤ T := by
  obtain ⟨h1, h2, -, -, h5⟩ := h
  have := sm_bd (S := fun k => a k / 131072) (a := 0) (b := 16383) (n := N.toNat) (fun x g0 g1 => by
    have := h2 x g0 (by omega)
    omega)
  omega
theorem BR_F {a : Int → Int} {N T : Int} {F : Int → Int} (h : BR a N F T) (q : Int) : 0 ≤ F q ∧ F q ≤ T := by
  have hT := BR_T h
  obtain ⟨h1, h2, -, h4, h5⟩ := h
  rcases h4 q with e | ⟨k, hk, e⟩
  · omega
  · have g := h2 k hk.1 hk.2
    rw [e] at g
    have := sm_at (S := fun k => a k / 131072) (a := 0) (n := N.toNat) (fun x g0 g1 => by
      have := h2 x g0 (by omega)
      omega) k hk.1 (by omega)
    omega
theorem BR_q {a : Int → Int} {N T : Int} {F : Int → Int} (h : BR a N F T) {q : Int} (hq : ¬ F q = 0) : 0 ≤ q ∧ q < 131072 := by
  rcases h.2.2.2.1 q with e | ⟨k, hk, e⟩
  · exact absurd e hq
  · omega
/-- more of a key that is there -/
theorem BR_hit {a : Int → Int} {N T : Int} {F : Int → Int} (h : BR a N F T) {k n : Int} (h0 : 0 ≤ k) (h1 : k < N) (hn : 1 ≤ n) (hT : T + n ≤ 16000) : BR (sup a k (a k + 131072 * n)) N (sup F (a k % 131072) (F (a k % 131072) + n)) (T + n) := by
  have hle := BR_F h (a k % 131072)
  obtain ⟨g1, g2, g3, g4, g5⟩ := h
  have gk := g2 k h0 h1
  refine ⟨g1, fun j a0 a1 => ?_, fun j j' a0 a1 b0 b1 e => ?_, fun q => ?_, ?_⟩
  · have gj := g2 j a0 a1
    by_cases ej : j = k
    · subst ej
      simp only [sup_at, if_true]
      rw [if_pos (by omega)]
      omega
    · simp only [sup_at, ej, if_false]
      rw [if_neg (fun e => ej (g3 j k a0 a1 h0 h1 e))]
      exact gj
  · refine g3 j j' a0 a1 b0 b1 ?_
    have em : ∀ i : Int, sup a k (a k + 131072 * n) i % 131072 = a i % 131072 := fun i => by
      simp only [sup_at]
      split
      next z => subst z; omega
      next => rfl
    rwa [em, em] at e
  · by_cases eq : q = a k % 131072
    · refine Or.inr ⟨k, ⟨h0, h1⟩, ?_⟩
      simp only [sup_at, if_true]
      omega
    · simp only [sup_at, eq, if_false]
      rcases g4 q with e | ⟨j, hj, e⟩
      · exact Or.inl e
      · refine Or.inr ⟨j, hj, ?_⟩
        rw [if_neg (fun z => eq (by rw [← e, z]))]
        exact e
  · rw [sup_div, sm_sup, if_pos (by omega), g5]
    omega
/-- a new key -/
theorem BR_new {a : Int → Int} {N T : Int} {F : Int → Int} (h : BR a N F T) {q n : Int} (hN : N < 64) (h0 : 0 ≤ q) (h1 : q < 131072) (hn : 1 ≤ n) (hT : T + n ≤ 16000) (hq : ∀ k : Int, 0 ≤ k → k < N → ¬ a k % 131072 = q) : BR (sup a N (q + 131072 * n)) (N + 1) (sup F q (F q + n)) (T + n) := by
  have hT0 := BR_T h
  obtain ⟨g1, g2, g3, g4, g5⟩ := h
  have hF : F q = 0 := by
    rcases g4 q with e | ⟨k, hk, e⟩
    · exact e
    · exact absurd e (hq k hk.1 hk.2)
  refine ⟨by omega, fun j a0 a1 => ?_, fun j j' a0 a1 b0 b1 e => ?_, fun p => ?_, ?_⟩
  · by_cases ej : j = N
    · subst ej
      simp only [sup_at, if_true]
      rw [if_pos (by omega)]
      omega
    · have gj := g2 j a0 (by omega)
      have := hq j a0 (by omega)
      simp only [sup_at, ej, this, if_false]
      exact gj
  · simp only [sup_at] at e
    by_cases ej : j = N
    · by_cases ej' : j' = N
      · omega
      · rw [if_pos ej, if_neg ej'] at e
        exact absurd (show a j' % 131072 = q by omega) (hq j' b0 (by omega))
    · by_cases ej' : j' = N
      · rw [if_neg ej, if_pos ej'] at e
        exact absurd (show a j % 131072 = q by omega) (hq j a0 (by omega))
      · rw [if_neg ej, if_neg ej'] at e
        exact g3 j j' a0 (by omega) b0 (by omega) e
  · by_cases eq : p = q
    · refine Or.inr ⟨N, by omega, ?_⟩
      simp only [sup_at, if_true]
      omega
    · simp only [sup_at, eq, if_false]
      rcases g4 p with e | ⟨j, hj, e⟩
      · exact Or.inl e
      · refine Or.inr ⟨j, by omega, ?_⟩
        rw [if_neg (show ¬ j = N by omega)]
        exact e
  · rw [show (N + 1).toNat = N.toNat + 1 from by omega, sm, sup_div]
    rw [sm_sup, if_neg (by omega), g5, show 0 + ((N.toNat : Nat) : Int) = N from by omega]
    simp only [sup_at, if_true]
    omega
/-- less of a key, not all -/
theorem BR_less {a : Int → Int} {N T : Int} {F : Int → Int} (h : BR a N F T) {k n : Int} (h0 : 0 ≤ k) (h1 : k < N) (hn : 1 ≤ n) (hT : n < a k / 131072) : BR (sup a k (a k - 131072 * n)) N (sup F (a k % 131072) (F (a k % 131072) - n)) (T - n) := by
  obtain ⟨g1, g2, g3, g4, g5⟩ := h
  have gk := g2 k h0 h1
  refine ⟨g1, fun j a0 a1 => ?_, fun j j' a0 a1 b0 b1 e => ?_, fun q => ?_, ?_⟩
  · have gj := g2 j a0 a1
    by_cases ej : j = k
    · subst ej
      simp only [sup_at, if_true]
      rw [if_pos (by omega)]
      omega
    · simp only [sup_at, ej, if_false]
      rw [if_neg (fun e => ej (g3 j k a0 a1 h0 h1 e))]
      exact gj
  · refine g3 j j' a0 a1 b0 b1 ?_
    have em : ∀ i : Int, sup a k (a k - 131072 * n) i % 131072 = a i % 131072 := fun i => by
      simp only [sup_at]
      split
      next z => subst z; omega
      next => rfl
    rwa [em, em] at e
  · by_cases eq : q = a k % 131072
    · refine Or.inr ⟨k, ⟨h0, h1⟩, ?_⟩
      simp only [sup_at, if_true]
      omega
    · simp only [sup_at, eq, if_false]
      rcases g4 q with e | ⟨j, hj, e⟩
      · exact Or.inl e
      · refine Or.inr ⟨j, hj, ?_⟩
        rw [if_neg (fun z => eq (by rw [← e, z]))]
        exact e
  · rw [sup_div, sm_sup, if_pos (by omega), g5]
    omega
/-- all of a key: the last batch comes in its place -/
theorem BR_out {a : Int → Int} {N T : Int} {F : Int → Int} (h : BR a N F T) {k n v : Int} (h0 : 0 ≤ k) (h1 : k < N) (hT : n = a k / 131072) (b : Int → Int) (hb : ∀ j : Int, ¬ j = k → b j = a j) (hk : k < N - 1 → b k = a (N - 1)) (hv : v = F (a k % 131072) - n) : BR b (N - 1) (sup F (a k % 131072) v) (T - n) := by
  obtain ⟨g1, g2, g3, g4, g5⟩ := h
  have gk := g2 k h0 h1
  have hv0 : v = 0 := by omega
  subst hv0
  have hbj : ∀ j : Int, 0 ≤ j → j < N - 1 → ∃ i : Int, (0 ≤ i ∧ i < N) ∧ ¬ i = k ∧ b j = a i ∧ (j = k ∧ i = N - 1 ∨ ¬ j = k ∧ i = j) := fun j a0 a1 => by
    by_cases ej : j = k
    · subst ej
      exact ⟨N - 1, by omega, by omega, hk a1, Or.inl ⟨rfl, rfl⟩⟩
    · exact ⟨j, by omega, ej, hb j ej, Or.inr ⟨ej, rfl⟩⟩
  refine ⟨by omega, fun j a0 a1 => ?_, fun j j' a0 a1 b0 b1 e => ?_, fun q => ?_, ?_⟩
  · obtain ⟨i, hi, hik, e, -⟩ := hbj j a0 a1
    rw [e]
    have gi := g2 i hi.1 hi.2
    simp only [sup_at]
    rw [if_neg (fun z => hik (g3 i k hi.1 hi.2 h0 h1 z))]
    exact gi
  · obtain ⟨i, hi, hik, e1, d1⟩ := hbj j a0 a1
    obtain ⟨i', hi', hik', e2, d2⟩ := hbj j' b0 b1
    rw [e1, e2] at e
    have := g3 i i' hi.1 hi.2 hi'.1 hi'.2 e
    omega
  · by_cases eq : q = a k % 131072
    · left
      simp only [sup_at, eq, if_true]
    · simp only [sup_at, eq, if_false]
      rcases g4 q with e | ⟨i, hi, e⟩
      · exact Or.inl e
      · right
        have hik : ¬ i = k := fun z => eq (by rw [← e, z])
        by_cases ei : i = N - 1
        · refine ⟨k, by omega, ?_⟩
          rw [hk (by omega), ← ei]
          exact e
        · refine ⟨i, by omega, ?_⟩
          rw [hb i hik]
          exact e
  · have e0 : N.toNat = (N - 1).toNat + 1 := by omega
    rw [e0, sm, show 0 + (((N - 1).toNat : Nat) : Int) = N - 1 from by omega] at g5
    by_cases ek : k = N - 1
    · rw [sm_congr (T := fun j => a j / 131072) (fun j a0 a1 => by rw [hb j (by omega)])]
      have g6 : sm (fun j => a j / 131072) 0 (N - 1).toNat + a (N - 1) / 131072 = T := g5
      have e3 : a k = a (N - 1) := by rw [ek]
      omega
    · have e1 : sm (fun j => b j / 131072) 0 (N - 1).toNat = sm (sup (fun j => a j / 131072) k (a (N - 1) / 131072)) 0 (N - 1).toNat := sm_congr (fun j a0 a1 => by
        simp only [sup_at]
        by_cases ej : j = k
        · rw [if_pos ej, ej, hk (by omega)]
        · rw [if_neg ej, hb j ej])
      have e2 : sm (sup (fun j => a j / 131072) k (a (N - 1) / 131072)) 0 (N - 1).toNat = sm (fun j => a j / 131072) 0 (N - 1).toNat + (a (N - 1) / 131072 - a k / 131072) := by
        rw [sm_sup, if_pos (by omega)]
      have g6 : sm (fun j => a j / 131072) 0 (N - 1).toNat + a (N - 1) / 131072 = T := g5
      omega
/-! how many of a store and a dish -/
def mS9 (a : Int → Int) (N st d : Int) : Int := sm (fun k => if a k % 8 = st ∧ a k / 8 % 4 = d then a k / 131072 else 0) 0 N.toNat
/-- the key of a slot of a store -/
def kx (t st x : Int) : Int := st + 8 * (x / 64) + 32 * (t - (t - x) % 64)
def gN (a : Int → Int) (st d : Int) : Nat → Int → Int
  | 0 => fun _ => 0
  | n + 1 => if a n % 8 = st ∧ a n / 8 % 4 = d then sup (gN a st d n) (64 * d + a n % 131072 / 32 % 64) (a n / 131072) else gN a st d n
theorem gN_ok {a : Int → Int} {N T : Int} {F : Int → Int} (h : BR a N F T) {st d t : Int} (hd : 0 ≤ d ∧ d < 3) (hw : ∀ q : Int, ¬ F q = 0 → q % 8 = st → q / 8 % 4 = d → t - 63 ≤ q / 32 ∧ q / 32 ≤ t) : ∀ n : Nat, (n : Int) ≤ N →
    (∀ x : Int, gN a st d n x = 0 ∨ ∃ k : Int, (0 ≤ k ∧ k < n) ∧ (a k % 8 = st ∧ a k / 8 % 4 = d) ∧ 64 * d + a k % 131072 / 32 % 64 = x) ∧ (∀ k : Int, 0 ≤ k → k < n → a k % 8 = st → a k / 8 % 4 = d → gN a st d n (64 * d + a k % 131072 / 32 % 64) = a k / 131072) ∧ sm (gN a st d n) (64 * d) 64 = sm (fun k => if a k % 8 = st ∧ a k / 8 % 4 = d then a k / 131072 else 0) 0 n
  | 0, _ => by
    refine ⟨fun x => Or.inl rfl, fun k a0 a1 => by omega, ?_⟩
    have e := sm_bd (S := gN a st d 0) (a := 64 * d) (b := 0) (n := 64) (fun x _ _ => ⟨Int.le_refl _, Int.le_refl _⟩)
    show sm (gN a st d 0) (64 * d) 64 = 0
    omega
  | n + 1, hn => by
    obtain ⟨i1, i2, i3⟩ := gN_ok h hd hw n (by omega)
    obtain ⟨g1, g2, g3, g4, g5⟩ := h
    have hin : ∀ k : Int, 0 ≤ k → k < N → a k % 8 = st → a k / 8 % 4 = d → t - 63 ≤ a k % 131072 / 32 ∧ a k % 131072 / 32 ≤ t := fun k a0 a1 m1 m2 => by
      have gk := g2 k a0 a1
      exact hw (a k % 131072) (by omega) (by omega) (by omega)
    have hsl : ∀ k k' : Int, 0 ≤ k → k < N → 0 ≤ k' → k' < N → a k % 8 = st → a k / 8 % 4 = d → a k' % 8 = st → a k' / 8 % 4 = d → a k % 131072 / 32 % 64 = a k' % 131072 / 32 % 64 → k = k' := fun k k' a0 a1 b0 b1 m1 m2 m3 m4 e => by
      have q1 := hin k a0 a1 m1 m2
      have q2 := hin k' b0 b1 m3 m4
      exact g3 k k' a0 a1 b0 b1 (by omega)
    by_cases hm : a n % 8 = st ∧ a n / 8 % 4 = d
    · have e : gN a st d (n + 1) = sup (gN a st d n) (64 * d + a n % 131072 / 32 % 64) (a n / 131072) := by
        show (if a n % 8 = st ∧ a n / 8 % 4 = d then _ else _) = _
        rw [if_pos hm]
      rw [e]
      refine ⟨fun x => ?_, fun k a0 a1 m1 m2 => ?_, ?_⟩
      · simp only [sup_at]
        by_cases ex : x = 64 * d + a n % 131072 / 32 % 64
        · exact Or.inr ⟨n, by omega, hm, ex.symm⟩
        · rw [if_neg ex]
          rcases i1 x with z | ⟨k, hk, hz⟩
          · exact Or.inl z
          · exact Or.inr ⟨k, by omega, hz⟩
      · simp only [sup_at]
        by_cases ek : k = n
        · subst ek
          rw [if_pos rfl]
        · rw [if_neg (fun z => ek (hsl k n a0 (by omega) (by omega) (by omega) m1 m2 hm.1 hm.2 (by omega)))]
          exact i2 k a0 (by omega) m1 m2
      · have hz : gN a st d n (64 * d + a n % 131072 / 32 % 64) = 0 := by
          rcases i1 (64 * d + a n % 131072 / 32 % 64) with z | ⟨k, hk, hz, e2⟩
          · exact z
          · have := hsl k n hk.1 (by omega) (by omega) (by omega) hz.1 hz.2 hm.1 hm.2 (by omega)
            omega
        rw [sm_sup, if_pos (by omega), hz, i3, sm, Int.zero_add, if_pos hm]
        omega
    · have e : gN a st d (n + 1) = gN a st d n := by
        show (if a n % 8 = st ∧ a n / 8 % 4 = d then _ else _) = _
        rw [if_neg hm]
      rw [e]
      refine ⟨fun x => ?_, fun k a0 a1 m1 m2 => ?_, ?_⟩
      · rcases i1 x with z | ⟨k, hk, hz⟩
        · exact Or.inl z
        · exact Or.inr ⟨k, by omega, hz⟩
      · by_cases ek : k = n
        · subst ek
          exact absurd ⟨m1, m2⟩ hm
        · exact i2 k a0 (by omega) m1 m2
      · rw [i3, sm, Int.zero_add, if_neg hm]
        omega
theorem mS9_eq {a : Int → Int} {N T : Int} {F : Int → Int} (h : BR a N F T) {st d t : Int} (hst : 0 ≤ st ∧ st < 8) (hd : 0 ≤ d ∧ d < 3) (hw : ∀ q : Int, ¬ F q = 0 → q % 8 = st → q / 8 % 4 = d → t - 63 ≤ q / 32 ∧ q / 32 ≤ t) : mS9 a N st d = sm (fun x => F (kx t st x)) (64 * d) 64 := by
  have hN := h.1
  obtain ⟨i1, i2, i3⟩ := gN_ok h hd hw N.toNat (by omega)
  unfold mS9
  rw [← i3]
  refine sm_congr (fun x a0 a1 => ?_)
  obtain ⟨m, hm⟩ : ∃ m : Int, m = t - (t - x) % 64 := ⟨_, rfl⟩
  have hx : x / 64 = d := by omega
  have hk0 : kx t st x = st + 8 * d + 32 * m := by
    unfold kx
    rw [hx, hm]
  have hm6 : m % 64 = x % 64 ∧ t - 63 ≤ m ∧ m ≤ t := by omega
  have hkx : kx t st x % 8 = st ∧ kx t st x / 8 % 4 = d ∧ kx t st x / 32 = m := by omega
  obtain ⟨g1, g2, g3, g4, g5⟩ := h
  rcases g4 (kx t st x) with e | ⟨k, hk, e⟩
  · rw [e]
    rcases i1 x with z | ⟨k, hk, hz, e2⟩
    · exact z
    · have gk := g2 k hk.1 (by omega)
      have q := hw (a k % 131072) (by omega) (by omega) (by omega)
      have ek : a k % 131072 = kx t st x := by omega
      rw [ek] at gk
      omega
  · have gk := g2 k hk.1 hk.2
    have := i2 k hk.1 (by omega) (by omega) (by omega)
    rw [e] at gk
    rw [gk.2.2, ← this]
    congr 1
    rw [e, hkx.2.2]
    omega
end XBt

