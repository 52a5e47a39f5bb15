section XR2
/-! what ties the reference's row z to a film i of a memory F -/
def gS (F : XM) (i : Int) (z : Int → Int) : Prop := ∀ s : Int, 0 ≤ s → s < 6 → z s = F 2 i 0 s
def gC (F : XM) (i : Int) (z : Int → Int) : Prop := z 6 = F 1 i 0 3 ∧ z 7 = F 1 i 0 6 ∧ z 8 = F 1 i 0 8 ∧ z 9 = F 1 i 0 10 ∧ z 10 = F 1 i 0 0
def gT (F : XM) (i : Int) (z : Int → Int) : Prop := z 11 = tX0_cooked F i ∧ z 12 = tX0_served F i ∧ z 13 = tX0_thrown F i ∧ z 14 = F 1 i 0 1 ∧ z 15 = tX0_cancelled F i ∧ z 16 = tX0_penalties F i
def gP (F : XM) (i : Int) (z : Int → Int) : Prop := ∀ p : Int, 0 ≤ p → p < 8 → z (17 + p) = F 3 i 0 p ∧ z (25 + p) = F 4 i 0 p
def gK1 (F : XM) (i : Int) (z : Int → Int) (k : Int) : Prop :=
  z (33 + k) = F 8 i k 0 ∧ (0 ≤ z (45 + k) ∧ z (45 + k) ≤ 2) ∧ (0 < F 8 i k 3 → z (45 + k) = F 8 i k 2) ∧ z (48 + k) = F 8 i k 3 ∧ z (51 + k) = F 8 i k 5 ∧ z (54 + k) = F 8 i k 6 ∧ (∀ w : Int, 0 ≤ w → w < 3 → z (36 + 3 * k + w) = F 9 i k w) ∧ (F 8 i k 3 = 0 → F 8 i k 2 = -1) ∧ (F 1 i 0 6 ≤ k → F 8 i k 3 = 0 ∧ F 8 i k 5 = 0 ∧ F 8 i k 6 = 0)
def gK (F : XM) (i : Int) (z : Int → Int) : Prop := ∀ k : Int, 0 ≤ k → k < 3 → gK1 F i z k
def gL1 (F : XM) (i : Int) (z : Int → Int) (l : Int) : Prop :=
  z (61 + l) = F 13 i l 2 ∧ z (65 + l) = F 13 i l 4 ∧ z (69 + l) = F 13 i l 5 ∧ (l < F 1 i 0 8 → ((F 13 i l 0 = -1 ∧ z (57 + l) = F 13 i l 1) ∨ (F 13 i l 1 = -1 ∧ z (57 + l) = F 13 i l 0)) ∧ 0 ≤ z (57 + l) ∧ z (57 + l) < F 1 i 0 3) ∧ (F 1 i 0 8 ≤ l → F 13 i l 0 = -1 ∧ F 13 i l 1 = -1 ∧ F 13 i l 4 = 0 ∧ F 13 i l 5 = 0)
def gL (F : XM) (i : Int) (z : Int → Int) : Prop := ∀ l : Int, 0 ≤ l → l < 4 → gL1 F i z l
def gW1 (F : XM) (i : Int) (z : Int → Int) (u : Int) : Prop :=
  z (73 + 12 * u + 0) = F 14 i u 0 ∧ z (73 + 12 * u + 1) = F 14 i u 1 ∧ z (73 + 12 * u + 9) = F 14 i u 9 ∧ z (73 + 12 * u + 10) = F 14 i u 10 ∧ z (73 + 12 * u + 11) = F 14 i u 11 ∧ F 14 i u 1 < F 1 i 0 3 ∧ (F 14 i u 0 = 0 → (∀ s : Int, 2 ≤ s → s ≤ 8 → z (73 + 12 * u + s) = F 14 i u s) ∧ 30 ≤ F 14 i u 5 ∧ 1 ≤ F 14 i u 2 ∧ (F 14 i u 8 = -1 ↔ F 14 i u 6 + F 14 i u 7 = 0) ∧ F 14 i u 11 = 0) ∧ (¬ F 14 i u 0 = 0 → F 14 i u 2 = 0 ∧ F 14 i u 3 = 0 ∧ F 14 i u 6 = 0 ∧ F 14 i u 7 = 0 ∧ F 14 i u 8 = -1)
def gU1 (F : XM) (i : Int) (z : Int → Int) (u : Int) : Prop := (u < F 1 i 0 10 → gW1 F i z u) ∧ (F 1 i 0 10 ≤ u → ∀ s : Int, 0 ≤ s → s < 12 → F 14 i u s = if s = 8 then -1 else 0)
def gU (F : XM) (i : Int) (z : Int → Int) : Prop := ∀ u : Int, 0 ≤ u → u < 12 → gU1 F i z u
/-- there is no such store -/
def gNo (F : XM) (i j : Int) : Prop := if j < 3 then F 1 i 0 6 ≤ j else F 1 i 0 8 ≤ j - 3
def gM1 (A : Int) (F : XM) (i : Int) (z : Int → Int) (j : Int) : Prop :=
  (∀ x : Int, 0 ≤ x → x < 192 → z (217 + 192 * j + x) = F 11 i j x) ∧ (∀ d a : Int, 0 ≤ d → d ≤ 2 → 0 ≤ a → a < 64 → (A < a ∨ F 1 i 0 0 < a) → F 11 i j (mS d (F 1 i 0 0 - a)) = 0) ∧ (gNo F i j → ∀ x : Int, 0 ≤ x → x < 192 → F 11 i j x = 0)
def gM (A : Int) (F : XM) (i : Int) (z : Int → Int) : Prop := ∀ j : Int, 0 ≤ j → j < 7 → gM1 A F i z j
def GZ (A : Int) (F : XM) (i : Int) (z : Int → Int) : Prop := (∀ n : Int, zJ n → XInR (z n)) ∧ gS F i z ∧ gC F i z ∧ gT F i z ∧ gP F i z ∧ gK F i z ∧ gL F i z ∧ gU F i z ∧ gM A F i z
theorem gS_c {F F' : XM} {i i' : Int} {z z' : Int → Int} (hz : ∀ n : Int, 0 ≤ n → n < 6 → z' n = z n) (h2 : F' 2 i' = F 2 i) (h : gS F i z) : gS F' i' z' := by
  intro s h0 h1
  rw [hz s h0 h1, h2, h s h0 h1]
theorem gC_c {F F' : XM} {i i' : Int} {z z' : Int → Int} (hz : ∀ n : Int, 6 ≤ n → n < 11 → z' n = z n) (h3 : F' 1 i' 0 3 = F 1 i 0 3) (h6 : F' 1 i' 0 6 = F 1 i 0 6) (h8 : F' 1 i' 0 8 = F 1 i 0 8) (h10 : F' 1 i' 0 10 = F 1 i 0 10) (h0 : F' 1 i' 0 0 = F 1 i 0 0) (h : gC F i z) : gC F' i' z' := by
  unfold gC at h ⊢
  rw [hz 6 (by decide) (by decide), hz 7 (by decide) (by decide), hz 8 (by decide) (by decide), hz 9 (by decide) (by decide), hz 10 (by decide) (by decide), h3, h6, h8, h10, h0]
  exact h
theorem sf_congr {f g : Int → Int} : ∀ (n : Nat) (a : Int), (∀ x : Int, a ≤ x → x < a + n → f x = g x) → sf f a n = sf g a n
  | 0, _, _ => rfl
  | n + 1, a, h => by
    simp only [sf]
    rw [h a (by omega) (by omega), sf_congr n (a + 1) (fun x h0 h1 => h x (by omega) (by omega))]
theorem sf_up {f g : Int → Int} {u : Int} : ∀ (n : Nat) (a : Int), (∀ x : Int, a ≤ x → x < a + n → ¬ x = u → g x = f x) → a ≤ u → u < a + n → sf g a n = sf f a n + (g u - f u)
  | 0, a, _, h0, h1 => by omega
  | n + 1, a, h, h0, h1 => by
    simp only [sf]
    by_cases e : a = u
    · subst e
      rw [sf_congr n (a + 1) (fun x q0 q1 => h x (by omega) (by omega) (by omega))]
      omega
    · rw [h a (by omega) (by omega) e, sf_up n (a + 1) (fun x q0 q1 q2 => h x (by omega) (by omega) q2) (by omega) (by omega)]
      omega
theorem sf_snoc (f : Int → Int) : ∀ (n : Nat) (a : Int), sf f a (n + 1) = sf f a n + f (a + n)
  | 0, a => by
    simp only [sf, Int.add_zero, Int.zero_add]
    exact congrArg f (by omega)
  | n + 1, a => by
    have e : a + 1 + (n : Int) = a + ((n + 1 : Nat) : Int) := by omega
    rw [sf, sf_snoc f n (a + 1), sf, e]
    omega
theorem gT_c {F F' : XM} {i i' : Int} {z z' : Int → Int} (hb : F 1 i 0 6 ≤ 3 ∧ F 1 i 0 8 ≤ 4 ∧ F 1 i 0 10 ≤ 12) (hz : ∀ n : Int, 11 ≤ n → n < 17 → z' n = z n) (h8 : ∀ k s : Int, 0 ≤ k → k < 3 → s = 5 ∨ s = 6 → F' 8 i' k s = F 8 i k s) (h13 : ∀ l : Int, 0 ≤ l → l < 4 → F' 13 i' l 5 = F 13 i l 5) (h14 : ∀ u s : Int, 0 ≤ u → u < 12 → 9 ≤ s → s < 12 → F' 14 i' u s = F 14 i u s) (h1 : F' 1 i' 0 1 = F 1 i 0 1) (c6 : F' 1 i' 0 6 = F 1 i 0 6) (c8 : F' 1 i' 0 8 = F 1 i 0 8) (c10 : F' 1 i' 0 10 = F 1 i 0 10) (h : gT F i z) : gT F' i' z' := by
  have s1 : tX0_cooked F' i' = tX0_cooked F i := by
    unfold tX0_cooked
    rw [c6]
    exact sf_congr _ _ fun x a b => h8 x 5 a (by omega) (by decide)
  have s2 : tX0_served F' i' = tX0_served F i := by
    unfold tX0_served
    rw [c10]
    exact sf_congr _ _ fun x a b => h14 x 9 a (by omega) (by decide) (by decide)
  have s3 : tX0_thrown F' i' = tX0_thrown F i := by
    unfold tX0_thrown
    rw [c6, c8]
    exact congr (congrArg _ (sf_congr _ _ fun x a b => h8 x 6 a (by omega) (by decide))) (sf_congr _ _ fun x a b => h13 x a (by omega))
  have s4 : tX0_cancelled F' i' = tX0_cancelled F i := by
    unfold tX0_cancelled
    rw [c10]
    exact sf_congr _ _ fun x a b => h14 x 11 a (by omega) (by decide) (by decide)
  have s5 : tX0_penalties F' i' = tX0_penalties F i := by
    unfold tX0_penalties
    rw [c10]
    exact sf_congr _ _ fun x a b => h14 x 10 a (by omega) (by decide) (by decide)
  unfold gT at h ⊢
  rw [hz 11 (by decide) (by decide), hz 12 (by decide) (by decide), hz 13 (by decide) (by decide), hz 14 (by decide) (by decide), hz 15 (by decide) (by decide), hz 16 (by decide) (by decide), s1, s2, s3, s4, s5, h1]
  exact h
theorem gP_c {F F' : XM} {i i' : Int} {z z' : Int → Int} (hz : ∀ n : Int, 17 ≤ n → n < 33 → z' n = z n) (h3 : F' 3 i' = F 3 i) (h4 : F' 4 i' = F 4 i) (h : gP F i z) : gP F' i' z' := by
  intro p h0 h1
  rw [hz (17 + p) (by omega) (by omega), hz (25 + p) (by omega) (by omega), h3, h4]
  exact h p h0 h1
theorem gK1_c {F F' : XM} {i i' : Int} {z z' : Int → Int} {k : Int} (h0 : 0 ≤ k) (h1 : k < 3) (hz : ∀ n : Int, n = 33 + k ∨ n = 45 + k ∨ n = 48 + k ∨ n = 51 + k ∨ n = 54 + k ∨ (36 + 3 * k ≤ n ∧ n < 39 + 3 * k) → z' n = z n) (h8 : ∀ s : Int, s = 0 ∨ s = 2 ∨ s = 3 ∨ s = 5 ∨ s = 6 → F' 8 i' k s = F 8 i k s) (h9 : ∀ w : Int, 0 ≤ w → w < 3 → F' 9 i' k w = F 9 i k w) (c6 : F' 1 i' 0 6 = F 1 i 0 6) (h : gK1 F i z k) : gK1 F' i' z' k := by
  unfold gK1 at h ⊢
  rw [hz (33 + k) (by omega), hz (45 + k) (by omega), hz (48 + k) (by omega), hz (51 + k) (by omega), hz (54 + k) (by omega), h8 0 (by decide), h8 2 (by decide), h8 3 (by decide), h8 5 (by decide), h8 6 (by decide), c6]
  refine ⟨h.1, h.2.1, h.2.2.1, h.2.2.2.1, h.2.2.2.2.1, h.2.2.2.2.2.1, fun w g0 g1 => ?_, h.2.2.2.2.2.2.2⟩
  rw [hz (36 + 3 * k + w) (by omega), h9 w g0 g1]
  exact h.2.2.2.2.2.2.1 w g0 g1
theorem gK_c {F F' : XM} {i i' : Int} {z z' : Int → Int} (hz : ∀ n : Int, 33 ≤ n → n < 57 → z' n = z n) (h8 : ∀ k s : Int, 0 ≤ k → k < 3 → s = 0 ∨ s = 2 ∨ s = 3 ∨ s = 5 ∨ s = 6 → F' 8 i' k s = F 8 i k s) (h9 : ∀ k w : Int, 0 ≤ k → k < 3 → 0 ≤ w → w < 3 → F' 9 i' k w = F 9 i k w) (c6 : F' 1 i' 0 6 = F 1 i 0 6) (h : gK F i z) : gK F' i' z' :=
  fun k h0 h1 => gK1_c h0 h1 (fun n hn => hz n (by omega) (by omega)) (fun s => h8 k s h0 h1) (fun w => h9 k w h0 h1) c6 (h k h0 h1)
theorem gL1_c {F F' : XM} {i i' : Int} {z z' : Int → Int} {l : Int} (hz : ∀ n : Int, n = 57 + l ∨ n = 61 + l ∨ n = 65 + l ∨ n = 69 + l → z' n = z n) (h13 : ∀ s : Int, s = 0 ∨ s = 1 ∨ s = 2 ∨ s = 4 ∨ s = 5 → F' 13 i' l s = F 13 i l s) (c8 : F' 1 i' 0 8 = F 1 i 0 8) (c3 : F 1 i 0 3 ≤ F' 1 i' 0 3) (h : gL1 F i z l) : gL1 F' i' z' l := by
  unfold gL1 at h ⊢
  rw [hz (57 + l) (by omega), hz (61 + l) (by omega), hz (65 + l) (by omega), hz (69 + l) (by omega), h13 0 (by decide), h13 1 (by decide), h13 2 (by decide), h13 4 (by decide), h13 5 (by decide), c8]
  exact ⟨h.1, h.2.1, h.2.2.1, fun g => ⟨(h.2.2.2.1 g).1, (h.2.2.2.1 g).2.1, Int.lt_of_lt_of_le (h.2.2.2.1 g).2.2 c3⟩, h.2.2.2.2⟩
theorem gL_c {F F' : XM} {i i' : Int} {z z' : Int → Int} (hz : ∀ n : Int, 57 ≤ n → n < 73 → z' n = z n) (h13 : ∀ l s : Int, 0 ≤ l → l < 4 → s = 0 ∨ s = 1 ∨ s = 2 ∨ s = 4 ∨ s = 5 → F' 13 i' l s = F 13 i l s) (c8 : F' 1 i' 0 8 = F 1 i 0 8) (c3 : F 1 i 0 3 ≤ F' 1 i' 0 3) (h : gL F i z) : gL F' i' z' :=
  fun l h0 h1 => gL1_c (fun n hn => hz n (by omega) (by omega)) (fun s => h13 l s h0 h1) c8 c3 (h l h0 h1)
theorem gU1_c {F F' : XM} {i i' : Int} {z z' : Int → Int} {u : Int} (hz : ∀ n : Int, 73 + 12 * u ≤ n → n < 85 + 12 * u → z' n = z n) (h14 : ∀ s : Int, 0 ≤ s → s < 12 → F' 14 i' u s = F 14 i u s) (c10 : F' 1 i' 0 10 = F 1 i 0 10) (c3 : F 1 i 0 3 ≤ F' 1 i' 0 3) (h : gU1 F i z u) : gU1 F' i' z' u := by
  unfold gU1 gW1 at h ⊢
  rw [c10]
  refine ⟨fun g => ?_, fun g s g0 g1 => ?_⟩
  · have q := h.1 g
    rw [hz (73 + 12 * u + 0) (by omega) (by omega), hz (73 + 12 * u + 1) (by omega) (by omega), hz (73 + 12 * u + 9) (by omega) (by omega), hz (73 + 12 * u + 10) (by omega) (by omega), hz (73 + 12 * u + 11) (by omega) (by omega), h14 0 (by decide) (by decide), h14 1 (by decide) (by decide), h14 2 (by decide) (by decide), h14 3 (by decide) (by decide), h14 5 (by decide) (by decide), h14 6 (by decide) (by decide), h14 7 (by decide) (by decide), h14 8 (by decide) (by decide), h14 9 (by decide) (by decide), h14 10 (by decide) (by decide), h14 11 (by decide) (by decide)]
    refine ⟨q.1, q.2.1, q.2.2.1, q.2.2.2.1, q.2.2.2.2.1, Int.lt_of_lt_of_le q.2.2.2.2.2.1 c3, fun w => ⟨fun s g0 g1 => ?_, (q.2.2.2.2.2.2.1 w).2⟩, q.2.2.2.2.2.2.2⟩
    rw [hz (73 + 12 * u + s) (by omega) (by omega), h14 s (by omega) (by omega)]
    exact (q.2.2.2.2.2.2.1 w).1 s g0 g1
  · rw [h14 s g0 g1]
    exact h.2 g s g0 g1
theorem gU_c {F F' : XM} {i i' : Int} {z z' : Int → Int} (hz : ∀ n : Int, 73 ≤ n → n < 217 → z' n = z n) (h14 : ∀ u s : Int, 0 ≤ u → u < 12 → 0 ≤ s → s < 12 → F' 14 i' u s = F 14 i u s) (c10 : F' 1 i' 0 10 = F 1 i 0 10) (c3 : F 1 i 0 3 ≤ F' 1 i' 0 3) (h : gU F i z) : gU F' i' z' :=
  fun u h0 h1 => gU1_c (fun n a b => hz n (by omega) (by omega)) (fun s => h14 u s h0 h1) c10 c3 (h u h0 h1)
theorem gM1_c {A : Int} {F F' : XM} {i i' : Int} {z z' : Int → Int} {j : Int} (hz : ∀ n : Int, 217 + 192 * j ≤ n → n < 409 + 192 * j → z' n = z n) (h11 : ∀ x : Int, 0 ≤ x → x < 192 → F' 11 i' j x = F 11 i j x) (c0 : F' 1 i' 0 0 = F 1 i 0 0) (c6 : gNo F' i' j → gNo F i j) (h : gM1 A F i z j) : gM1 A F' i' z' j := by
  unfold gM1 at h ⊢
  rw [c0]
  refine ⟨fun x g0 g1 => ?_, fun d a g0 g1 g2 g3 g4 => ?_, fun g x g0 g1 => ?_⟩
  · rw [hz _ (by omega) (by omega), h11 x g0 g1]
    exact h.1 x g0 g1
  · have q := mS_in (m := F 1 i 0 0 - a) g0 g1
    rw [h11 _ q.1 q.2]
    exact h.2.1 d a g0 g1 g2 g3 g4
  · rw [h11 x g0 g1]
    exact h.2.2 (c6 g) x g0 g1
theorem gM_c {A : Int} {F F' : XM} {i i' : Int} {z z' : Int → Int} (hz : ∀ n : Int, 217 ≤ n → n < 1561 → z' n = z n) (h11 : ∀ j x : Int, 0 ≤ j → j < 7 → 0 ≤ x → x < 192 → F' 11 i' j x = F 11 i j x) (c0 : F' 1 i' 0 0 = F 1 i 0 0) (c6 : ∀ j : Int, 0 ≤ j → j < 7 → gNo F' i' j → gNo F i j) (h : gM A F i z) : gM A F' i' z' :=
  fun j h0 h1 => gM1_c (fun n a b => hz n (by omega) (by omega)) (fun x => h11 j x h0 h1) c0 (c6 j h0 h1) (h j h0 h1)
theorem gNo_c {F F' : XM} {i i' : Int} (c6 : F' 1 i' 0 6 = F 1 i 0 6) (c8 : F' 1 i' 0 8 = F 1 i 0 8) {j : Int} (h : gNo F' i' j) : gNo F i j := by
  unfold gNo at h ⊢
  rw [c6, c8] at h
  exact h
theorem sup_ne {z : Int → Int} {n v m : Int} (h : ¬ m = n) : sup z n v m = z m := if_neg h
theorem sup_eq {z : Int → Int} {n v : Int} : sup z n v n = v := if_pos rfl
theorem xup_sup (M : XM) (n v : Int) : xup M 21 0 0 n v 21 0 0 = sup (M 21 0 0) n v := xup_at M 21 0 0 n v
theorem sup_in {z : Int → Int} {n v : Int} (h : ∀ n : Int, zJ n → XInR (z n)) (hv : zJ n → XInR v) : ∀ m : Int, zJ m → XInR (sup z n v m) := by
  intro m hm
  unfold sup
  split
  next e => exact hv (e ▸ hm)
  next => exact h m hm
/-- what changed in the memory: the reference's row alone -/
def zfr (M M' : XM) : Prop := ∀ t : Nat, ¬ t = 21 → M' t = M t
theorem zfr_refl (M : XM) : zfr M M := fun _ _ => rfl
theorem zfr_trans {M M' M'' : XM} (h : zfr M M') (h' : zfr M' M'') : zfr M M'' := fun t ht => (h' t ht).trans (h t ht)
theorem zfr_xup (M : XM) (n v : Int) : zfr M (xup M 21 0 0 n v) := fun _ ht => xup_tag ht
theorem zfr_zput (M : XM) (j : Int) (S : Int → Int) : zfr M (zput M j S) := fun _ ht => zput_tag ht
theorem GZ_zB {A : Int} {F M : XM} {i : Int} (h : GZ A F i (M 21 0 0)) (hC : fC F i) : zB M := by
  obtain ⟨hI, -, ⟨c6, c7, c8, c9, c10⟩, -⟩ := h
  obtain ⟨d3, d6, d8, d10, d0, -⟩ := hC
  exact ⟨hI, by omega, by omega, by omega, by omega, by omega⟩
theorem GZ_sOK {A b : Int} {F M : XM} {i j : Int} (h : GZ A F i (M 21 0 0)) (hS : fS b F i) (hb : b ≤ 2000000) (h0 : 0 ≤ j) (h1 : j < 7) : sOK (zst M j) := by
  have g := (fS_at hS hb h0 h1).2
  intro x g0 g1
  have e := (h.2.2.2.2.2.2.2.2 j h0 h1).1 x g0 g1
  unfold zst
  rw [e]
  exact g x g0 g1
theorem tot3_congr {S T : Int → Int} (h : ∀ x : Int, 0 ≤ x → x < 192 → S x = T x) : tot3 S = tot3 T := by
  unfold tot3
  rw [sm_congr (S := S) (T := T) (a := 0) (n := 64) (fun x g0 g1 => h x (by omega) (by omega)), sm_congr (S := S) (T := T) (a := 64) (n := 64) (fun x g0 g1 => h x (by omega) (by omega)), sm_congr (S := S) (T := T) (a := 128) (n := 64) (fun x g0 g1 => h x (by omega) (by omega))]
theorem GZ_all {A b : Int} {F M : XM} {i j : Int} (h : GZ A F i (M 21 0 0)) (hS : fS b F i) (h0 : 0 ≤ j) (h1 : j < 7) : tot3 (zst M j) = mAll F i j := by
  rw [mAll_tot (hS.1 j h0 h1).1]
  exact tot3_congr fun x g0 g1 => (h.2.2.2.2.2.2.2.2 j h0 h1).1 x g0 g1
theorem GZ_dish {A b : Int} {F M : XM} {i j d : Int} (h : GZ A F i (M 21 0 0)) (hS : fS b F i) (h0 : 0 ≤ j) (h1 : j < 7) (d0 : 0 ≤ d) (d1 : d < 3) : sm (zst M j) (64 * d) 64 = F 12 i j d := by
  rw [(hS.1 j h0 h1).1 d d0 d1]
  exact sm_congr fun x g0 g1 => (h.2.2.2.2.2.2.2.2 j h0 h1).1 x (by omega) (by omega)
end XR2

