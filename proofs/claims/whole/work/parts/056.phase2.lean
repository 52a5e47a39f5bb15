section XR7
/-! old meals -/
def rtL (t : Int) : Nat → List Int
  | 0 => []
  | n + 1 => mS 0 t :: mS 1 t :: mS 2 t :: rtL (t + 1) n
theorem thL_to {now d b : Int} (hd : 0 ≤ d ∧ d ≤ 2) : ∀ (n : Nat) (a : Int), a ≤ b → b < a + n → mS d (now - b) ∈ thL now a n
  | 0, a, h0, h1 => by omega
  | n + 1, a, h0, h1 => by
    simp only [thL, List.mem_cons]
    by_cases e : b = a
    · rcases (show d = 0 ∨ d = 1 ∨ d = 2 by omega) with q | q | q <;> subst q <;> subst e <;> simp
    · exact Or.inr (Or.inr (Or.inr (thL_to hd n (a + 1) (by omega) (by omega))))
theorem thL_of {now x : Int} : ∀ (n : Nat) (a : Int), x ∈ thL now a n → ∃ d b : Int, (0 ≤ d ∧ d ≤ 2) ∧ a ≤ b ∧ b < a + n ∧ x = mS d (now - b)
  | 0, a, h => absurd h List.not_mem_nil
  | n + 1, a, h => by
    simp only [thL, List.mem_cons] at h
    rcases h with h | h | h | h
    · exact ⟨0, a, by decide, by omega, by omega, h⟩
    · exact ⟨1, a, by decide, by omega, by omega, h⟩
    · exact ⟨2, a, by decide, by omega, by omega, h⟩
    · obtain ⟨d, b, h1, h2, h3, h4⟩ := thL_of n (a + 1) h
      exact ⟨d, b, h1, by omega, by omega, h4⟩
theorem rtL_to {d b : Int} (hd : 0 ≤ d ∧ d ≤ 2) : ∀ (n : Nat) (a : Int), a ≤ b → b < a + n → mS d b ∈ rtL a n
  | 0, a, h0, h1 => by omega
  | n + 1, a, h0, h1 => by
    simp only [rtL, List.mem_cons]
    by_cases e : b = a
    · rcases (show d = 0 ∨ d = 1 ∨ d = 2 by omega) with q | q | q <;> subst q <;> subst e <;> simp
    · exact Or.inr (Or.inr (Or.inr (rtL_to hd n (a + 1) (by omega) (by omega))))
theorem rtL_of {x : Int} : ∀ (n : Nat) (a : Int), x ∈ rtL a n → ∃ d b : Int, (0 ≤ d ∧ d ≤ 2) ∧ a ≤ b ∧ b < a + n ∧ x = mS d b
  | 0, a, h => absurd h List.not_mem_nil
  | n + 1, a, h => by
    simp only [rtL, List.mem_cons] at h
    rcases h with h | h | h | h
    · exact ⟨0, a, by decide, by omega, by omega, h⟩
    · exact ⟨1, a, by decide, by omega, by omega, h⟩
    · exact ⟨2, a, by decide, by omega, by omega, h⟩
    · obtain ⟨d, b, h1, h2, h3, h4⟩ := rtL_of n (a + 1) h
      exact ⟨d, b, h1, by omega, by omega, h4⟩
theorem rtL_in {n : Nat} {a x : Int} (h : x ∈ rtL a n) : 0 ≤ x ∧ x < 192 := by
  obtain ⟨d, b, h1, h2, h3, h4⟩ := rtL_of n a h
  rw [h4]
  exact mS_in h1.1 h1.2
theorem zrL_congr {L : List Int} {S T : Int → Int} {x : Int} (h : S x = T x) : zrL L S x = zrL L T x := by rw [zrL_app, zrL_app, h]
/-- both ways to throw away empty the same slots -/
theorem th_eq {m g : Int} {S : Int → Int} (hm : 0 ≤ m) (hg : 0 ≤ g ∧ g ≤ 62) (hS : ∀ d a : Int, 0 ≤ d → d ≤ 2 → 0 ≤ a → a < 64 → m < a → S (mS d (m - a)) = 0) (x : Int) : zrL (rtL (zFst m) (m - g - zFst m).toNat) S x = zrL (thL m (g + 1) (63 - g).toNat) S x := by
  have hf : (zFst m = 0 ∧ m < 64) ∨ (zFst m = m - 63 ∧ 64 ≤ m) := by unfold zFst; split <;> omega
  rw [zrL_app, zrL_app]
  by_cases h1 : x ∈ rtL (zFst m) (m - g - zFst m).toNat
  · obtain ⟨d, b, q1, q2, q3, q4⟩ := rtL_of _ _ h1
    have h2 : x ∈ thL m (g + 1) (63 - g).toNat := by
      have q := thL_to (now := m) (b := m - b) q1 (63 - g).toNat (g + 1) (by omega) (by omega)
      rw [show m - (m - b) = b by omega] at q
      rw [q4]
      exact q
    rw [if_pos h1, if_pos h2]
  · rw [if_neg h1]
    by_cases h2 : x ∈ thL m (g + 1) (63 - g).toNat
    · rw [if_pos h2]
      obtain ⟨d, b, q1, q2, q3, q4⟩ := thL_of _ _ h2
      rw [q4]
      by_cases hb : zFst m ≤ m - b
      · exact absurd (q4 ▸ rtL_to q1 (m - g - zFst m).toNat (zFst m) hb (by omega)) h1
      · exact hS d b q1.1 q1.2 (by omega) (by omega) (by omega)
    · rw [if_neg h2]
theorem tot3_sup (S : Int → Int) {x v : Int} (h0 : 0 ≤ x) (h1 : x < 192) : tot3 (sup S x v) = tot3 S + (v - S x) := by
  unfold tot3
  rw [sm_sup, sm_sup, sm_sup]
  rcases (show x < 64 ∨ (64 ≤ x ∧ x < 128) ∨ 128 ≤ x by omega) with g | g | g
  · rw [if_pos (by omega), if_neg (by omega), if_neg (by omega)]
    omega
  · rw [if_neg (by omega), if_pos (by omega), if_neg (by omega)]
    omega
  · rw [if_neg (by omega), if_neg (by omega), if_pos (by omega)]
    omega
theorem th_ages {F : XM} {f j m : Int} {A : Int} (hm : m = F 1 f 0 0) (hk : 0 ≤ F 2 f 0 3 ∧ F 2 f 0 3 ≤ 60) (hM : ∀ d a : Int, 0 ≤ d → d ≤ 2 → 0 ≤ a → a < 64 → (A < a ∨ m < a) → F 11 f j (mS d (m - a)) = 0) : ∀ d a : Int, 0 ≤ d → d ≤ 2 → 0 ≤ a → a < 64 → (60 < a ∨ m < a) → thS F f j (mS d (m - a)) = 0 := by
  intro d a d0 d1 a0 a1 ha
  unfold thS
  rw [zrL_app, ← hm]
  by_cases h : mS d (m - a) ∈ thL m (F 2 f 0 3 + 1) (63 - F 2 f 0 3).toNat
  · rw [if_pos h]
  · rw [if_neg h]
    by_cases g : F 2 f 0 3 < a
    · exact absurd (thL_to ⟨d0, d1⟩ _ _ (by omega) (by omega)) h
    · exact hM d a d0 d1 a0 a1 (Or.inr (by omega))
/-- what is left of a store's meals -/
theorem GZ_M {A : Int} {F F' : XM} {f j : Int} {z z' : Int → Int} {Sz : Int → Int} (h : GZ A F f z) (ht : ∀ t : Nat, ¬ t = 8 → ¬ t = 11 → ¬ t = 12 → ¬ t = 13 → F' t = F t) (h8 : ∀ k s : Int, ¬ s = 6 → F' 8 f k s = F 8 f k s) (h13 : ∀ l s : Int, ¬ s = 5 → F' 13 f l s = F 13 f l s) (hn : ∀ j' : Int, ¬ j' = j → F' 11 f j' = F 11 f j') (hz : ∀ n : Int, ¬ (54 ≤ n ∧ n < 57) → ¬ (69 ≤ n ∧ n < 73) → ¬ n = 13 → ¬ (217 + 192 * j ≤ n ∧ n < 409 + 192 * j) → z' n = z n) (hJ : ∀ n : Int, zJ n → XInR (z' n)) (hT : gT F' f z')
    (h6 : ∀ k : Int, 0 ≤ k → k < 3 → z' (54 + k) = F' 8 f k 6 ∧ (F 1 f 0 6 ≤ k → F' 8 f k 6 = 0)) (h5 : ∀ l : Int, 0 ≤ l → l < 4 → z' (69 + l) = F' 13 f l 5 ∧ (F 1 f 0 8 ≤ l → F' 13 f l 5 = 0)) (h0 : 0 ≤ j) (h1 : j < 7) (hm : gM1 A F' f z' j) : GZ A F' f z' := by
  obtain ⟨hI, hS, hC, hT0, hP, hK, hL, hU, hM⟩ := h
  have e1 := ht 1 (by decide) (by decide) (by decide) (by decide)
  refine ⟨hJ, gS_c (fun n a b => hz n (by omega) (by omega) (by omega) (by omega)) (by rw [ht 2 (by decide) (by decide) (by decide) (by decide)]) hS, gC_c (fun n a b => hz n (by omega) (by omega) (by omega) (by omega)) (by rw [e1]) (by rw [e1]) (by rw [e1]) (by rw [e1]) (by rw [e1]) hC, hT, gP_c (fun n a b => hz n (by omega) (by omega) (by omega) (by omega)) (by rw [ht 3 (by decide) (by decide) (by decide) (by decide)]) (by rw [ht 4 (by decide) (by decide) (by decide) (by decide)]) hP, fun k g0 g1 => ?_, fun l g0 g1 => ?_, gU_c (fun n a b => hz n (by omega) (by omega) (by omega) (by omega)) (fun u s _ _ _ _ => by rw [ht 14 (by decide) (by decide) (by decide) (by decide)]) (by rw [e1]) (by rw [e1]; exact Int.le_refl _) hU, fun j' g0 g1 => ?_⟩
  · obtain ⟨k1, k2, k3, k4, k5, k6, k7, k8, k9⟩ := hK k g0 g1
    have q := h6 k g0 g1
    unfold gK1
    rw [hz (33 + k) (by omega) (by omega) (by omega) (by omega), hz (45 + k) (by omega) (by omega) (by omega) (by omega), hz (48 + k) (by omega) (by omega) (by omega) (by omega), hz (51 + k) (by omega) (by omega) (by omega) (by omega), h8 k 0 (by decide), h8 k 2 (by decide), h8 k 3 (by decide), h8 k 5 (by decide), e1]
    refine ⟨k1, k2, k3, k4, k5, q.1, fun w g2 g3 => ?_, k8, fun g => ⟨(k9 g).1, (k9 g).2.1, q.2 g⟩⟩
    rw [hz _ (by omega) (by omega) (by omega) (by omega), ht 9 (by decide) (by decide) (by decide) (by decide)]
    exact k7 w g2 g3
  · obtain ⟨l1, l2, l3, l4, l5⟩ := hL l g0 g1
    have q := h5 l g0 g1
    unfold gL1
    rw [hz (57 + l) (by omega) (by omega) (by omega) (by omega), hz (61 + l) (by omega) (by omega) (by omega) (by omega), hz (65 + l) (by omega) (by omega) (by omega) (by omega), h13 l 0 (by decide), h13 l 1 (by decide), h13 l 2 (by decide), h13 l 4 (by decide), e1]
    exact ⟨l1, l2, q.1, l4, fun g => ⟨(l5 g).1, (l5 g).2.1, (l5 g).2.2.1, q.2 g⟩⟩
  · by_cases ej : j' = j
    · rw [ej]
      exact hm
    · exact gM1_c (fun n a b => hz n (by omega) (by omega) (by omega) (by omega)) (fun x _ _ => by rw [hn j' ej]) (by rw [e1]) (gNo_c (by rw [e1]) (by rw [e1])) (hM j' g0 g1)
theorem thS_le {F : XM} {f j : Int} (h : ∀ x : Int, 0 ≤ x → x < 192 → 0 ≤ F 11 f j x) {x : Int} (h0 : 0 ≤ x) (h1 : x < 192) : 0 ≤ thS F f j x ∧ thS F f j x ≤ F 11 f j x := zrL_le h x h0 h1
theorem gM1_th {A : Int} {F F' : XM} {f j : Int} {z z' : Int → Int} {Sz : Int → Int} (hM : gM1 A F f z j) (hk : 0 ≤ F 2 f 0 3 ∧ F 2 f 0 3 ≤ 60) (h11 : F' 11 f j = thS F f j) (e1 : F' 1 = F 1) (hS : ∀ x : Int, 0 ≤ x → x < 192 → Sz x = thS F f j x) (hz : ∀ x : Int, 0 ≤ x → x < 192 → z' (217 + 192 * j + x) = Sz x) (hn : ¬ gNo F f j) : gM1 60 F' f z' j := by
  obtain ⟨m1, m2, m3⟩ := hM
  unfold gM1
  rw [h11, e1]
  refine ⟨fun x g0 g1 => (hz x g0 g1).trans (hS x g0 g1), th_ages rfl hk m2, fun g => absurd (gNo_c (by rw [e1]) (by rw [e1]) g) hn⟩
theorem GZ_A {A B : Int} {F : XM} {f : Int} {z : Int → Int} (h : GZ A F f z) (hM : ∀ j : Int, 0 ≤ j → j < 7 → gM1 B F f z j) : GZ B F f z :=
  ⟨h.1, h.2.1, h.2.2.1, h.2.2.2.1, h.2.2.2.2.1, h.2.2.2.2.2.1, h.2.2.2.2.2.2.1, h.2.2.2.2.2.2.2.1, hM⟩
theorem gM1_up {A B : Int} (hAB : A ≤ B) {F : XM} {f j : Int} {z : Int → Int} (h : gM1 A F f z j) : gM1 B F f z j :=
  ⟨h.1, fun d a d0 d1 a0 a1 ha => h.2.1 d a d0 d1 a0 a1 (by omega), h.2.2⟩
theorem GZ_thK {c b : Int} {F : XM} {f k many : Int} {z Sz : Int → Int} (h : GZ 61 F f z) (hG : fI c b F f) (hb : b ≤ 2000000) (h0 : 0 ≤ k) (h1 : k < F 1 f 0 6) (hS : ∀ x : Int, 0 ≤ x → x < 192 → Sz x = thS F f k x) (hm : many = tot3 (F 11 f k) - tot3 (thS F f k)) :
    GZ 61 (thK f k F) f (sup (sup (blk z k Sz) (54 + k) (z (54 + k) + many)) 13 (z 13 + many)) ∧ gM1 60 (thK f k F) f (sup (sup (blk z k Sz) (54 + k) (z (54 + k) + many)) 13 (z 13 + many)) k := by
  have c6 := hG.1.2.1
  have k3 : k < 3 := by omega
  have kp := hG.1.2.2.2.2.2.2.2.2.1
  obtain ⟨F', eF⟩ : ∃ F' : XM, F' = thK f k F := ⟨_, rfl⟩
  rw [← eF]
  have ht : ∀ t : Nat, ¬ t = 8 → ¬ t = 11 → ¬ t = 12 → F' t = F t := fun t a b c => by rw [eF]; exact thK_tag a b c
  have h8 : ∀ k' s : Int, F' 8 f k' s = if k' = k ∧ s = 6 then F 8 f k 6 + many else F 8 f k' s := fun k' s => by
    rw [eF, hm]
    unfold thK
    simp only [xup_app, mset_app, true_and, Nat.reduceEqDiff, false_and, if_false]
  have h11 : F' 11 f k = thS F f k := by
    rw [eF]
    unfold thK
    rw [xup_tag (by decide), mset_11]
  have hn : ∀ j : Int, ¬ j = k → F' 11 f j = F 11 f j := fun j hj => by
    rw [eF]
    unfold thK
    rw [xup_tag (by decide), mset_ne (fun q => hj q.2)]
  have e1 := ht 1 (by decide) (by decide) (by decide)
  obtain ⟨z', ez⟩ : ∃ z' : Int → Int, z' = sup (sup (blk z k Sz) (54 + k) (z (54 + k) + many)) 13 (z 13 + many) := ⟨_, rfl⟩
  rw [← ez]
  have hz : ∀ n : Int, ¬ n = 54 + k → ¬ n = 13 → ¬ (217 + 192 * k ≤ n ∧ n < 409 + 192 * k) → z' n = z n := fun n a b c => by
    rw [ez, sup_ne b, sup_ne a, blk_out c]
  have z54 : z' (54 + k) = z (54 + k) + many := by rw [ez, sup_ne (by omega), sup_eq]
  have z13 : z' 13 = z 13 + many := by rw [ez, sup_eq]
  have zm : ∀ x : Int, 0 ≤ x → x < 192 → z' (217 + 192 * k + x) = Sz x := fun x a b => by rw [ez, sup_ne (by omega), sup_ne (by omega), blk_at a b]
  have hMk := h.2.2.2.2.2.2.2.2 k h0 (by omega)
  have g60 : gM1 60 F' f z' k := gM1_th hMk ⟨by omega, kp.2⟩ h11 e1 hS zm (by unfold gNo; rw [if_pos k3]; omega)
  have hsk := fS_at hG.2.1 hb h0 (by omega)
  have hK := h.2.2.2.2.2.1
  have hT := h.2.2.2.1
  refine ⟨GZ_M (Sz := Sz) h (fun t a b c _ => ht t a b c) (fun k' s hs => by rw [h8, if_neg (fun q => hs q.2)]) (fun l s _ => by rw [ht 13 (by decide) (by decide) (by decide)]) hn (fun n a b c d => hz n (by omega) c d) ?_ ?_ ?_ ?_ h0 (by omega) (gM1_up (by decide) g60), g60⟩
  · intro n hn'
    rw [ez]
    refine sup_in (sup_in (blk_in h.1 fun x a b => ?_) (fun g => absurd g (by unfold zJ; omega))) (fun g => absurd g (by unfold zJ; omega)) n hn'
    have q := thS_le (F := F) (f := f) (j := k) (fun y a b => (hsk.2 y a b).1) a b
    have q2 := hsk.2 x a b
    rw [hS x a b]
    exact ⟨by omega, by omega⟩
  · obtain ⟨t11, t12, t13, t14, t15, t16⟩ := hT
    have s1 : tX0_cooked F' f = tX0_cooked F f := by
      unfold tX0_cooked
      rw [e1]
      exact sf_congr _ _ fun x a b => by unfold ncooked; rw [h8, if_neg (fun q => absurd q.2 (by decide))]
    have s3 : tX0_thrown F' f = tX0_thrown F f + many := by
      unfold tX0_thrown
      rw [e1, sf_up (f := nthrownK F f) (g := nthrownK F' f) (u := k) _ _ (fun x _ _ hx => by unfold nthrownK; rw [h8, if_neg (fun q => hx q.1)]) h0 (by omega)]
      have q : sf (nthrownL F' f) 0 (F 1 f 0 8).toNat = sf (nthrownL F f) 0 (F 1 f 0 8).toNat := sf_congr _ _ fun x a b => by unfold nthrownL; rw [ht 13 (by decide) (by decide) (by decide)]
      rw [q]
      unfold nthrownK
      rw [h8, if_pos ⟨rfl, rfl⟩]
      omega
    have s2 : tX0_served F' f = tX0_served F f := by unfold tX0_served nserved; rw [e1, ht 14 (by decide) (by decide) (by decide)]
    have s4 : tX0_cancelled F' f = tX0_cancelled F f := by unfold tX0_cancelled ncancelled; rw [e1, ht 14 (by decide) (by decide) (by decide)]
    have s5 : tX0_penalties F' f = tX0_penalties F f := by unfold tX0_penalties npenalties; rw [e1, ht 14 (by decide) (by decide) (by decide)]
    unfold gT
    rw [s1, s2, s3, s4, s5, e1, z13, hz 11 (by omega) (by decide) (by omega), hz 12 (by omega) (by decide) (by omega), hz 14 (by omega) (by decide) (by omega), hz 15 (by omega) (by decide) (by omega), hz 16 (by omega) (by decide) (by omega)]
    exact ⟨t11, t12, by omega, t14, t15, t16⟩
  · intro k' g0 g1
    obtain ⟨_, _, _, _, _, k6, _, _, k9⟩ := hK k' g0 g1
    rw [h8]
    by_cases e : k' = k
    · subst e
      rw [if_pos ⟨rfl, rfl⟩, z54]
      exact ⟨by omega, fun g => by omega⟩
    · rw [if_neg (fun q => e q.1), hz (54 + k') (by omega) (by omega) (by omega)]
      exact ⟨k6, fun g => (k9 g).2.2⟩
  · intro l g0 g1
    obtain ⟨_, _, l3, _, l5⟩ := h.2.2.2.2.2.2.1 l g0 g1
    rw [ht 13 (by decide) (by decide) (by decide), hz (69 + l) (by omega) (by omega) (by omega)]
    exact ⟨l3, fun g => (l5 g).2.2.2⟩
theorem GZ_thL {c b : Int} {F : XM} {f l many : Int} {z Sz : Int → Int} (h : GZ 61 F f z) (hG : fI c b F f) (hb : b ≤ 2000000) (h0 : 0 ≤ l) (h1 : l < F 1 f 0 8) (hS : ∀ x : Int, 0 ≤ x → x < 192 → Sz x = thS F f (l + 3) x) (hm : many = tot3 (F 11 f (l + 3)) - tot3 (thS F f (l + 3))) :
    GZ 61 (thLo f l F) f (sup (sup (blk z (l + 3) Sz) (69 + l) (z (69 + l) + many)) 13 (z 13 + many)) ∧ gM1 60 (thLo f l F) f (sup (sup (blk z (l + 3) Sz) (69 + l) (z (69 + l) + many)) 13 (z 13 + many)) (l + 3) := by
  have c8 := hG.1.2.2.1
  have l4 : l < 4 := by omega
  have kp := hG.1.2.2.2.2.2.2.2.2.1
  obtain ⟨F', eF⟩ : ∃ F' : XM, F' = thLo f l F := ⟨_, rfl⟩
  rw [← eF]
  have ht : ∀ t : Nat, ¬ t = 13 → ¬ t = 11 → ¬ t = 12 → F' t = F t := fun t a b c => by rw [eF]; exact thLo_tag a b c
  have h13 : ∀ l' s : Int, F' 13 f l' s = if l' = l ∧ s = 5 then F 13 f l 5 + many else F 13 f l' s := fun l' s => by
    rw [eF, hm]
    unfold thLo
    simp only [xup_app, mset_app, true_and, Nat.reduceEqDiff, false_and, if_false]
  have h11 : F' 11 f (l + 3) = thS F f (l + 3) := by
    rw [eF]
    unfold thLo
    rw [xup_tag (by decide), mset_11]
  have hn : ∀ j : Int, ¬ j = l + 3 → F' 11 f j = F 11 f j := fun j hj => by
    rw [eF]
    unfold thLo
    rw [xup_tag (by decide), mset_ne (fun q => hj q.2)]
  have e1 := ht 1 (by decide) (by decide) (by decide)
  obtain ⟨z', ez⟩ : ∃ z' : Int → Int, z' = sup (sup (blk z (l + 3) Sz) (69 + l) (z (69 + l) + many)) 13 (z 13 + many) := ⟨_, rfl⟩
  rw [← ez]
  have hz : ∀ n : Int, ¬ n = 69 + l → ¬ n = 13 → ¬ (217 + 192 * (l + 3) ≤ n ∧ n < 409 + 192 * (l + 3)) → z' n = z n := fun n a b c => by
    rw [ez, sup_ne b, sup_ne a, blk_out c]
  have z69 : z' (69 + l) = z (69 + l) + many := by rw [ez, sup_ne (by omega), sup_eq]
  have z13 : z' 13 = z 13 + many := by rw [ez, sup_eq]
  have zm : ∀ x : Int, 0 ≤ x → x < 192 → z' (217 + 192 * (l + 3) + x) = Sz x := fun x a b => by rw [ez, sup_ne (by omega), sup_ne (by omega), blk_at a b]
  have hMk := h.2.2.2.2.2.2.2.2 (l + 3) (by omega) (by omega)
  have g60 : gM1 60 F' f z' (l + 3) := gM1_th hMk ⟨by omega, kp.2⟩ h11 e1 hS zm (by unfold gNo; rw [if_neg (by omega)]; omega)
  have hsk := fS_at hG.2.1 hb (j := l + 3) (by omega) (by omega)
  have hK := h.2.2.2.2.2.1
  have hT := h.2.2.2.1
  refine ⟨GZ_M (Sz := Sz) h (fun t _ b c a => ht t a b c) (fun k' s _ => by rw [ht 8 (by decide) (by decide) (by decide)]) (fun l' s hs => by rw [h13, if_neg (fun q => hs q.2)]) hn (fun n a b c d => hz n (by omega) c d) ?_ ?_ ?_ ?_ (by omega) (by omega) (gM1_up (by decide) g60), g60⟩
  · intro n hn'
    rw [ez]
    refine sup_in (sup_in (blk_in h.1 fun x a b => ?_) (fun g => absurd g (by unfold zJ; omega))) (fun g => absurd g (by unfold zJ; omega)) n hn'
    have q := thS_le (F := F) (f := f) (j := l + 3) (fun y a b => (hsk.2 y a b).1) a b
    have q2 := hsk.2 x a b
    rw [hS x a b]
    exact ⟨by omega, by omega⟩
  · obtain ⟨t11, t12, t13, t14, t15, t16⟩ := hT
    have s1 : tX0_cooked F' f = tX0_cooked F f := by unfold tX0_cooked ncooked; rw [e1, ht 8 (by decide) (by decide) (by decide)]
    have s3 : tX0_thrown F' f = tX0_thrown F f + many := by
      unfold tX0_thrown
      rw [e1, sf_up (f := nthrownL F f) (g := nthrownL F' f) (u := l) _ _ (fun x _ _ hx => by unfold nthrownL; rw [h13, if_neg (fun q => hx q.1)]) h0 (by omega)]
      have q : sf (nthrownK F' f) 0 (F 1 f 0 6).toNat = sf (nthrownK F f) 0 (F 1 f 0 6).toNat := sf_congr _ _ fun x a b => by unfold nthrownK; rw [ht 8 (by decide) (by decide) (by decide)]
      rw [q]
      unfold nthrownL
      rw [h13, if_pos ⟨rfl, rfl⟩]
      omega
    have s2 : tX0_served F' f = tX0_served F f := by unfold tX0_served nserved; rw [e1, ht 14 (by decide) (by decide) (by decide)]
    have s4 : tX0_cancelled F' f = tX0_cancelled F f := by unfold tX0_cancelled ncancelled; rw [e1, ht 14 (by decide) (by decide) (by decide)]
    have s5 : tX0_penalties F' f = tX0_penalties F f := by unfold tX0_penalties npenalties; rw [e1, ht 14 (by decide) (by decide) (by decide)]
    unfold gT
    rw [s1, s2, s3, s4, s5, e1, z13, hz 11 (by omega) (by decide) (by omega), hz 12 (by omega) (by decide) (by omega), hz 14 (by omega) (by decide) (by omega), hz 15 (by omega) (by decide) (by omega), hz 16 (by omega) (by decide) (by omega)]
    exact ⟨t11, t12, by omega, t14, t15, t16⟩
  · intro k' g0 g1
    obtain ⟨_, _, _, _, _, k6, _, _, k9⟩ := hK k' g0 g1
    rw [ht 8 (by decide) (by decide) (by decide), hz (54 + k') (by omega) (by omega) (by omega)]
    exact ⟨k6, fun g => (k9 g).2.2⟩
  · intro l' g0 g1
    obtain ⟨_, _, l3, _, l5⟩ := h.2.2.2.2.2.2.1 l' g0 g1
    rw [h13]
    by_cases e : l' = l
    · subst e
      rw [if_pos ⟨rfl, rfl⟩, z69]
      exact ⟨by omega, fun g => by omega⟩
    · rw [if_neg (fun q => e q.1), hz (69 + l') (by omega) (by omega) (by omega)]
      exact ⟨l3, fun g => (l5 g).2.2.2⟩
end XR7

