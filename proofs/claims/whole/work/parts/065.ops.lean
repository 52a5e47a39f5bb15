section XRf
/-! what the public methods do to the film and to the reference's row -/
theorem gW1_c {F F' : XM} {i i' : Int} {z z' : Int → Int} {u : Int} (hz : ∀ n : Int, 73 + 12 * u ≤ n → n < 85 + 12 * u → z' n = z n) (h14 : ∀ s : Int, 0 ≤ s → s < 12 → F' 14 i' u s = F 14 i u s) (c3 : F 1 i 0 3 ≤ F' 1 i' 0 3) (q : gW1 F i z u) : gW1 F' i' z' u := by
  unfold gW1 at q ⊢
  rw [hz (73 + 12 * u + 0) (by omega) (by omega), hz (73 + 12 * u + 1) (by omega) (by omega), hz (73 + 12 * u + 9) (by omega) (by omega), hz (73 + 12 * u + 10) (by omega) (by omega), hz (73 + 12 * u + 11) (by omega) (by omega), h14 0 (by decide) (by decide), h14 1 (by decide) (by decide), h14 2 (by decide) (by decide), h14 3 (by decide) (by decide), h14 5 (by decide) (by decide), h14 6 (by decide) (by decide), h14 7 (by decide) (by decide), h14 8 (by decide) (by decide), h14 9 (by decide) (by decide), h14 10 (by decide) (by decide), h14 11 (by decide) (by decide)]
  refine ⟨q.1, q.2.1, q.2.2.1, q.2.2.2.1, q.2.2.2.2.1, Int.lt_of_lt_of_le q.2.2.2.2.2.1 c3, fun w => ⟨fun s g0 g1 => ?_, (q.2.2.2.2.2.2.1 w).2⟩, q.2.2.2.2.2.2.2⟩
  rw [hz (73 + 12 * u + s) (by omega) (by omega), h14 s (by omega) (by omega)]
  exact (q.2.2.2.2.2.2.1 w).1 s g0 g1
/-- the same film, the same row -/
theorem GZ_z {A : Int} {F : XM} {f : Int} {z z' : Int → Int} (h : GZ A F f z) (hz : ∀ n : Int, 0 ≤ n → n < 1561 → z' n = z n) (hJ : ∀ n : Int, zJ n → XInR (z' n)) (hC : fC F f) : GZ A F f z' := by
  obtain ⟨hI, hS, hC0, hT, hP, hK, hL, hU, hM⟩ := h
  exact ⟨hJ, gS_c (fun n a b => hz n (by omega) (by omega)) rfl hS, gC_c (fun n a b => hz n (by omega) (by omega)) rfl rfl rfl rfl rfl hC0, gT_c (fC_cnt hC) (fun n a b => hz n (by omega) (by omega)) (fun _ _ _ _ _ => rfl) (fun _ _ _ => rfl) (fun _ _ _ _ _ _ => rfl) rfl rfl rfl rfl hT, gP_c (fun n a b => hz n (by omega) (by omega)) rfl rfl hP, gK_c (fun n a b => hz n (by omega) (by omega)) (fun _ _ _ _ _ => rfl) (fun _ _ _ _ _ _ => rfl) rfl hK, gL_c (fun n a b => hz n (by omega) (by omega)) (fun _ _ _ _ _ => rfl) rfl (Int.le_refl _) hL, gU_c (fun n a b => hz n (by omega) (by omega)) (fun _ _ _ _ _ _ => rfl) rfl (Int.le_refl _) hU, gM_c (fun n a b => hz n (by omega) (by omega)) (fun _ _ _ _ _ _ => rfl) rfl (fun _ _ _ g => g) hM⟩
theorem GZ_F {A : Int} {F F' : XM} {f f' : Int} {z : Int → Int} (h : GZ A F f z) (e : FEq F' f' F f) (hC : fC F f) : GZ A F' f' z := by
  obtain ⟨hI, hS, hC0, hT, hP, hK, hL, hU, hM⟩ := h
  have e3 := e 1 0 3 (by decide)
  have e6 := e 1 0 6 (by decide)
  have e8 := e 1 0 8 (by decide)
  have e10 := e 1 0 10 (by decide)
  have e0 := e 1 0 0 (by decide)
  have e1 := e 1 0 1 (by decide)
  refine ⟨hI, fun s h0 h1 => by rw [e 2 0 s (pF_t2 h0 h1)]; exact hS s h0 h1, gC_c (fun _ _ _ => rfl) e3 e6 e8 e10 e0 hC0, gT_c (fC_cnt hC) (fun _ _ _ => rfl) (fun k s a b c => e 8 k s (pF_t8 a b (by omega))) (fun l a b => e 13 l 5 (pF_t13 a b (by decide))) (fun u s a b c d => e 14 u s (pF_t14 a b (by omega) d)) e1 e6 e8 e10 hT, fun p h0 h1 => by rw [e 3 0 p (pF_t3 h0 h1), e 4 0 p (pF_t4 h0 h1)]; exact hP p h0 h1, gK_c (fun _ _ _ => rfl) (fun k s a b c => e 8 k s (pF_t8 a b c)) (fun k w a b c d => e 9 k w (pF_t9 a b c d)) e6 hK, gL_c (fun _ _ _ => rfl) (fun l s a b c => e 13 l s (pF_t13 a b c)) e8 (by rw [e3]; exact Int.le_refl _) hL, gU_c (fun _ _ _ => rfl) (fun u s a b c d => e 14 u s (pF_t14 a b c d)) e10 (by rw [e3]; exact Int.le_refl _) hU, gM_c (fun _ _ _ => rfl) (fun j x a b c d => e 11 j x (pF_t11 a b c d)) e0 (fun j _ _ => gNo_c e6 e8) hM⟩
theorem GZ_newP {F : XM} {f x y : Int} {z : Int → Int} (h : GZ 60 F f z) (hC : fC F f) (hlt : F 1 f 0 3 < 8) (hx : 0 ≤ x ∧ x ≤ 99) (hy : 0 ≤ y ∧ y ≤ 99) : GZ 60 (fNewP F f x y) f (sup (sup (sup z (17 + z 6) x) (25 + z 6) y) 6 (z 6 + 1)) := by
  obtain ⟨hI, hS, hC0, hT, hP, hK, hL, hU, hM⟩ := h
  have c3 := hC.1
  have z6 := hC0.1
  obtain ⟨F', eF⟩ : ∃ F' : XM, F' = fNewP F f x y := ⟨_, rfl⟩
  rw [← eF]
  have ht : ∀ t : Nat, ¬ t = 1 → ¬ t = 3 → ¬ t = 4 → F' t = F t := fun t a b c => by rw [eF]; unfold fNewP; rw [xup_tag a, xup_tag c, xup_tag b]
  have h1 : ∀ s : Int, F' 1 f 0 s = if s = 3 then F 1 f 0 3 + 1 else F 1 f 0 s := fun s => by
    rw [eF]; unfold fNewP
    simp only [xup_app, Nat.reduceEqDiff, true_and, false_and, if_false]
  have h3 : ∀ p : Int, F' 3 f 0 p = if p = F 1 f 0 3 then x else F 3 f 0 p := fun p => by
    rw [eF]; unfold fNewP
    simp only [xup_app, Nat.reduceEqDiff, true_and, false_and, if_false]
  have h4 : ∀ p : Int, F' 4 f 0 p = if p = F 1 f 0 3 then y else F 4 f 0 p := fun p => by
    rw [eF]; unfold fNewP
    simp only [xup_app, Nat.reduceEqDiff, true_and, false_and, if_false]
  have n : ∀ s : Int, ¬ s = 3 → F' 1 f 0 s = F 1 f 0 s := fun s hs => by rw [h1, if_neg hs]
  have e3 : F' 1 f 0 3 = F 1 f 0 3 + 1 := by rw [h1, if_pos rfl]
  have le : F 1 f 0 3 ≤ F' 1 f 0 3 := by omega
  rw [z6]
  obtain ⟨c, hc⟩ : ∃ c : Int, c = F 1 f 0 3 := ⟨_, rfl⟩
  rw [← hc] at h3 h4 e3 c3 hlt z6 ⊢
  have hz : ∀ m : Int, ¬ m = 6 → ¬ m = 17 + c → ¬ m = 25 + c → sup (sup (sup z (17 + c) x) (25 + c) y) 6 (c + 1) m = z m := fun m a b d => by rw [sup_ne a, sup_ne d, sup_ne b]
  refine ⟨sup_in (sup_in (sup_in hI (fun _ => ⟨by omega, by omega⟩)) (fun _ => ⟨by omega, by omega⟩)) (fun _ => ⟨by omega, by omega⟩), gS_c (fun m a b => hz m (by omega) (by omega) (by omega)) (by rw [ht 2 (by decide) (by decide) (by decide)]) hS, ?_, gT_c (fC_cnt hC) (fun m a b => hz m (by omega) (by omega) (by omega)) (fun k s _ _ _ => by rw [ht 8 (by decide) (by decide) (by decide)]) (fun l _ _ => by rw [ht 13 (by decide) (by decide) (by decide)]) (fun u s _ _ _ _ => by rw [ht 14 (by decide) (by decide) (by decide)]) (n 1 (by decide)) (n 6 (by decide)) (n 8 (by decide)) (n 10 (by decide)) hT, fun p g0 g1 => ?_, gK_c (fun m a b => hz m (by omega) (by omega) (by omega)) (fun k s _ _ _ => by rw [ht 8 (by decide) (by decide) (by decide)]) (fun k w _ _ _ _ => by rw [ht 9 (by decide) (by decide) (by decide)]) (n 6 (by decide)) hK, gL_c (fun m a b => hz m (by omega) (by omega) (by omega)) (fun l s _ _ _ => by rw [ht 13 (by decide) (by decide) (by decide)]) (n 8 (by decide)) le hL, gU_c (fun m a b => hz m (by omega) (by omega) (by omega)) (fun u s _ _ _ _ => by rw [ht 14 (by decide) (by decide) (by decide)]) (n 10 (by decide)) le hU, gM_c (fun m a b => hz m (by omega) (by omega) (by omega)) (fun j x _ _ _ _ => by rw [ht 11 (by decide) (by decide) (by decide)]) (n 0 (by decide)) (fun j _ _ => gNo_c (n 6 (by decide)) (n 8 (by decide))) hM⟩
  · obtain ⟨a6, a7, a8, a9, a10⟩ := hC0
    unfold gC
    rw [sup_eq, hz 7 (by decide) (by omega) (by omega), hz 8 (by decide) (by omega) (by omega), hz 9 (by decide) (by omega) (by omega), hz 10 (by decide) (by omega) (by omega), e3, n 6 (by decide), n 8 (by decide), n 10 (by decide), n 0 (by decide)]
    exact ⟨rfl, a7, a8, a9, a10⟩
  · rw [h3, h4]
    by_cases e : p = c
    · subst e
      rw [if_pos rfl, if_pos rfl, sup_ne (by omega), sup_ne (by omega), sup_eq, sup_ne (by omega), sup_eq]
      exact ⟨rfl, rfl⟩
    · rw [if_neg e, if_neg e, hz _ (by omega) (by omega) (by omega), hz _ (by omega) (by omega) (by omega)]
      exact hP p g0 g1
theorem GZ_newK {F : XM} {f p : Int} {z : Int → Int} (h : GZ 60 F f z) (hC : fC F f) (hlt : F 1 f 0 6 < 3) (hp : 0 ≤ p ∧ p < 8) : GZ 60 (fNewK F f p) f (sup (sup z (33 + z 7) p) 7 (z 7 + 1)) := by
  obtain ⟨hI, hS, hC0, hT, hP, hK, hL, hU, hM⟩ := h
  have c6 := hC.2.1
  have z7 := hC0.2.1
  obtain ⟨F', eF⟩ : ∃ F' : XM, F' = fNewK F f p := ⟨_, rfl⟩
  rw [← eF]
  have ht : ∀ t : Nat, ¬ t = 1 → ¬ t = 8 → F' t = F t := fun t a b => by rw [eF]; unfold fNewK; rw [xup_tag a, xup_tag b]
  have h1 : ∀ s : Int, F' 1 f 0 s = if s = 6 then F 1 f 0 6 + 1 else F 1 f 0 s := fun s => by
    rw [eF]; unfold fNewK
    simp only [xup_app, Nat.reduceEqDiff, true_and, false_and, if_false]
  have h8 : ∀ k s : Int, F' 8 f k s = if k = F 1 f 0 6 ∧ s = 0 then p else F 8 f k s := fun k s => by
    rw [eF]; unfold fNewK
    simp only [xup_app, Nat.reduceEqDiff, true_and, false_and, if_false]
  have n : ∀ s : Int, ¬ s = 6 → F' 1 f 0 s = F 1 f 0 s := fun s hs => by rw [h1, if_neg hs]
  have e6 : F' 1 f 0 6 = F 1 f 0 6 + 1 := by rw [h1, if_pos rfl]
  have le : F 1 f 0 3 ≤ F' 1 f 0 3 := by rw [n 3 (by decide)]; exact Int.le_refl _
  have hno : ∀ j : Int, gNo F' f j → gNo F f j := fun j g => by
    unfold gNo at g ⊢
    rw [e6, n 8 (by decide)] at g
    split at g
    next q => rw [if_pos q]; omega
    next q => rw [if_neg q]; exact g
  rw [z7]
  obtain ⟨c, hc⟩ : ∃ c : Int, c = F 1 f 0 6 := ⟨_, rfl⟩
  have hkc := (hK c (by omega) (by omega)).2.2.2.2.2.2.2.2 (by omega)
  rw [← hc] at h8 e6 c6 hlt z7 ⊢
  have hz : ∀ m : Int, ¬ m = 7 → ¬ m = 33 + c → sup (sup z (33 + c) p) 7 (c + 1) m = z m := fun m a b => by rw [sup_ne a, sup_ne b]
  have ect : (c + 1).toNat = c.toNat + 1 := by omega
  refine ⟨sup_in (sup_in hI (fun _ => ⟨by omega, by omega⟩)) (fun _ => ⟨by omega, by omega⟩), gS_c (fun m a b => hz m (by omega) (by omega)) (by rw [ht 2 (by decide) (by decide)]) hS, ?_, ?_, gP_c (fun m a b => hz m (by omega) (by omega)) (by rw [ht 3 (by decide) (by decide)]) (by rw [ht 4 (by decide) (by decide)]) hP, fun k g0 g1 => ?_, gL_c (fun m a b => hz m (by omega) (by omega)) (fun l s _ _ _ => by rw [ht 13 (by decide) (by decide)]) (n 8 (by decide)) le hL, gU_c (fun m a b => hz m (by omega) (by omega)) (fun u s _ _ _ _ => by rw [ht 14 (by decide) (by decide)]) (n 10 (by decide)) le hU, gM_c (fun m a b => hz m (by omega) (by omega)) (fun j x _ _ _ _ => by rw [ht 11 (by decide) (by decide)]) (n 0 (by decide)) (fun j _ _ => hno j) hM⟩
  · obtain ⟨a6, a7, a8, a9, a10⟩ := hC0
    unfold gC
    rw [sup_eq, hz 6 (by decide) (by omega), hz 8 (by decide) (by omega), hz 9 (by decide) (by omega), hz 10 (by decide) (by omega), e6, n 3 (by decide), n 8 (by decide), n 10 (by decide), n 0 (by decide)]
    exact ⟨a6, rfl, a8, a9, a10⟩
  · obtain ⟨t11, t12, t13, t14, t15, t16⟩ := hT
    have s1 : tX0_cooked F' f = tX0_cooked F f := by
      unfold tX0_cooked
      rw [e6, ← hc, ect, sf_snoc]
      rw [sf_congr (f := ncooked F' f) (g := ncooked F f) _ _ (fun x _ _ => by unfold ncooked; rw [h8, if_neg (fun q => absurd q.2 (by decide))])]
      unfold ncooked
      rw [h8, if_neg (fun q => absurd q.2 (by decide)), show (0 : Int) + (c.toNat : Int) = c by omega, hkc.2.1]
      omega
    have s3 : tX0_thrown F' f = tX0_thrown F f := by
      unfold tX0_thrown
      rw [e6, n 8 (by decide), ← hc, ect, sf_snoc]
      rw [sf_congr (f := nthrownK F' f) (g := nthrownK F f) _ _ (fun x _ _ => by unfold nthrownK; rw [h8, if_neg (fun q => absurd q.2 (by decide))])]
      have q : nthrownL F' f = nthrownL F f := by unfold nthrownL; rw [ht 13 (by decide) (by decide)]
      rw [q]
      unfold nthrownK
      rw [h8, if_neg (fun q => absurd q.2 (by decide)), show (0 : Int) + (c.toNat : Int) = c by omega, hkc.2.2]
      omega
    have s2 : tX0_served F' f = tX0_served F f := by unfold tX0_served nserved; rw [n 10 (by decide), ht 14 (by decide) (by decide)]
    have s4 : tX0_cancelled F' f = tX0_cancelled F f := by unfold tX0_cancelled ncancelled; rw [n 10 (by decide), ht 14 (by decide) (by decide)]
    have s5 : tX0_penalties F' f = tX0_penalties F f := by unfold tX0_penalties npenalties; rw [n 10 (by decide), ht 14 (by decide) (by decide)]
    unfold gT
    rw [s1, s2, s3, s4, s5, n 1 (by decide), hz 11 (by decide) (by omega), hz 12 (by decide) (by omega), hz 13 (by decide) (by omega), hz 14 (by decide) (by omega), hz 15 (by decide) (by omega), hz 16 (by decide) (by omega)]
    exact ⟨t11, t12, t13, t14, t15, t16⟩
  · obtain ⟨k1, k2, k3, k4, k5, k6, k7, k8, k9⟩ := hK k g0 g1
    have n8 : ∀ s : Int, ¬ s = 0 → F' 8 f k s = F 8 f k s := fun s hs => by rw [h8, if_neg (fun q => hs q.2)]
    unfold gK1
    rw [n8 2 (by decide), n8 3 (by decide), n8 5 (by decide), n8 6 (by decide), hz (45 + k) (by omega) (by omega), hz (48 + k) (by omega) (by omega), hz (51 + k) (by omega) (by omega), hz (54 + k) (by omega) (by omega), e6]
    refine ⟨?_, k2, k3, k4, k5, k6, fun w a b => ?_, k8, fun g => k9 (by omega)⟩
    · rw [h8]
      by_cases e : k = c
      · subst e
        rw [if_pos ⟨rfl, rfl⟩, sup_ne (by omega), sup_eq]
      · rw [if_neg (fun q => e q.1), hz _ (by omega) (by omega)]
        exact k1
    · rw [hz _ (by omega) (by omega), ht 9 (by decide) (by decide)]
      exact k7 w a b
theorem GZ_newL {F : XM} {f p : Int} {z : Int → Int} (h : GZ 60 F f z) (hC : fC F f) (hL0 : fL F f) (hlt : F 1 f 0 8 < 4) (hp : 0 ≤ p ∧ p < F 1 f 0 3) : GZ 60 (fNewL F f p) f (sup (sup (sup z (57 + z 8) p) (61 + z 8) 0) 8 (z 8 + 1)) := by
  obtain ⟨hI, hS, hC0, hT, hP, hK, hL, hU, hM⟩ := h
  have c8 := hC.2.2.1
  have c3 := hC.1
  have z8 := hC0.2.2.1
  obtain ⟨F', eF⟩ : ∃ F' : XM, F' = fNewL F f p := ⟨_, rfl⟩
  rw [← eF]
  have ht : ∀ t : Nat, ¬ t = 1 → ¬ t = 13 → F' t = F t := fun t a b => by rw [eF]; unfold fNewL; rw [xup_tag a, xup_tag b]
  have h1 : ∀ s : Int, F' 1 f 0 s = if s = 8 then F 1 f 0 8 + 1 else F 1 f 0 s := fun s => by
    rw [eF]; unfold fNewL
    simp only [xup_app, Nat.reduceEqDiff, true_and, false_and, if_false]
  have h13 : ∀ l s : Int, F' 13 f l s = if l = F 1 f 0 8 ∧ s = 0 then p else F 13 f l s := fun k s => by
    rw [eF]; unfold fNewL
    simp only [xup_app, Nat.reduceEqDiff, true_and, false_and, if_false]
  have n : ∀ s : Int, ¬ s = 8 → F' 1 f 0 s = F 1 f 0 s := fun s hs => by rw [h1, if_neg hs]
  have e8 : F' 1 f 0 8 = F 1 f 0 8 + 1 := by rw [h1, if_pos rfl]
  have e3 := n 3 (by decide)
  have le : F 1 f 0 3 ≤ F' 1 f 0 3 := by omega
  have hno : ∀ j : Int, gNo F' f j → gNo F f j := fun j g => by
    unfold gNo at g ⊢
    rw [e8, n 6 (by decide)] at g
    split at g
    next q => rw [if_pos q]; exact g
    next q => rw [if_neg q]; omega
  rw [z8]
  obtain ⟨c, hc⟩ : ∃ c : Int, c = F 1 f 0 8 := ⟨_, rfl⟩
  have hlc := (hL c (by omega) (by omega)).2.2.2.2 (by omega)
  have hlc2 := (hL0 c (by omega) (by omega)).2.2.2.1 hlc.2.1
  rw [← hc] at h13 e8 c8 hlt z8 ⊢
  have hz : ∀ m : Int, ¬ m = 8 → ¬ m = 57 + c → ¬ m = 61 + c → sup (sup (sup z (57 + c) p) (61 + c) 0) 8 (c + 1) m = z m := fun m a b d => by rw [sup_ne a, sup_ne d, sup_ne b]
  have ect : (c + 1).toNat = c.toNat + 1 := by omega
  refine ⟨sup_in (sup_in (sup_in hI (fun _ => ⟨by omega, by omega⟩)) (fun _ => ⟨by omega, by omega⟩)) (fun _ => ⟨by omega, by omega⟩), gS_c (fun m a b => hz m (by omega) (by omega) (by omega)) (by rw [ht 2 (by decide) (by decide)]) hS, ?_, ?_, gP_c (fun m a b => hz m (by omega) (by omega) (by omega)) (by rw [ht 3 (by decide) (by decide)]) (by rw [ht 4 (by decide) (by decide)]) hP, gK_c (fun m a b => hz m (by omega) (by omega) (by omega)) (fun k s _ _ _ => by rw [ht 8 (by decide) (by decide)]) (fun k w _ _ _ _ => by rw [ht 9 (by decide) (by decide)]) (n 6 (by decide)) hK, fun l g0 g1 => ?_, gU_c (fun m a b => hz m (by omega) (by omega) (by omega)) (fun u s _ _ _ _ => by rw [ht 14 (by decide) (by decide)]) (n 10 (by decide)) le hU, gM_c (fun m a b => hz m (by omega) (by omega) (by omega)) (fun j x _ _ _ _ => by rw [ht 11 (by decide) (by decide)]) (n 0 (by decide)) (fun j _ _ => hno j) hM⟩
  · obtain ⟨a6, a7, a8, a9, a10⟩ := hC0
    unfold gC
    rw [sup_eq, hz 6 (by decide) (by omega) (by omega), hz 7 (by decide) (by omega) (by omega), hz 9 (by decide) (by omega) (by omega), hz 10 (by decide) (by omega) (by omega), e8, n 3 (by decide), n 6 (by decide), n 10 (by decide), n 0 (by decide)]
    exact ⟨a6, a7, rfl, a9, a10⟩
  · obtain ⟨t11, t12, t13, t14, t15, t16⟩ := hT
    have s1 : tX0_cooked F' f = tX0_cooked F f := by unfold tX0_cooked ncooked; rw [n 6 (by decide), ht 8 (by decide) (by decide)]
    have s3 : tX0_thrown F' f = tX0_thrown F f := by
      unfold tX0_thrown
      rw [e8, n 6 (by decide), ← hc, ect, sf_snoc]
      rw [sf_congr (f := nthrownL F' f) (g := nthrownL F f) _ _ (fun x _ _ => by unfold nthrownL; rw [h13, if_neg (fun q => absurd q.2 (by decide))])]
      have q : nthrownK F' f = nthrownK F f := by unfold nthrownK; rw [ht 8 (by decide) (by decide)]
      rw [q]
      unfold nthrownL
      rw [h13, if_neg (fun q => absurd q.2 (by decide)), show (0 : Int) + (c.toNat : Int) = c by omega, hlc.2.2.2]
      omega
    have s2 : tX0_served F' f = tX0_served F f := by unfold tX0_served nserved; rw [n 10 (by decide), ht 14 (by decide) (by decide)]
    have s4 : tX0_cancelled F' f = tX0_cancelled F f := by unfold tX0_cancelled ncancelled; rw [n 10 (by decide), ht 14 (by decide) (by decide)]
    have s5 : tX0_penalties F' f = tX0_penalties F f := by unfold tX0_penalties npenalties; rw [n 10 (by decide), ht 14 (by decide) (by decide)]
    unfold gT
    rw [s1, s2, s3, s4, s5, n 1 (by decide), hz 11 (by decide) (by omega) (by omega), hz 12 (by decide) (by omega) (by omega), hz 13 (by decide) (by omega) (by omega), hz 14 (by decide) (by omega) (by omega), hz 15 (by decide) (by omega) (by omega), hz 16 (by decide) (by omega) (by omega)]
    exact ⟨t11, t12, t13, t14, t15, t16⟩
  · obtain ⟨l1, l2, l3, l4, l5⟩ := hL l g0 g1
    have n13 : ∀ s : Int, ¬ s = 0 → F' 13 f l s = F 13 f l s := fun s hs => by rw [h13, if_neg (fun q => hs q.2)]
    unfold gL1
    rw [n13 1 (by decide), n13 2 (by decide), n13 4 (by decide), n13 5 (by decide), hz (65 + l) (by omega) (by omega) (by omega), hz (69 + l) (by omega) (by omega) (by omega), e8, e3, h13 l 0]
    by_cases e : l = c
    · subst e
      rw [if_pos ⟨rfl, rfl⟩, sup_ne (by omega), sup_eq, sup_ne (by omega), sup_ne (by omega), sup_eq]
      exact ⟨by omega, l2, l3, fun _ => ⟨Or.inr ⟨hlc.2.1, rfl⟩, hp⟩, fun g => by omega⟩
    · rw [if_neg (fun q => e q.1), hz (61 + l) (by omega) (by omega) (by omega), hz (57 + l) (by omega) (by omega) (by omega)]
      exact ⟨l1, l2, l3, fun g => l4 (by omega), fun g => l5 (by omega)⟩
theorem GZ_newU {F : XM} {f p n g c v : Int} {z : Int → Int} (h : GZ 60 F f z) (hC : fC F f) (hlt : F 1 f 0 10 < 12) (hp : 0 ≤ p ∧ p < F 1 f 0 3) (hn : 1 ≤ n ∧ n ≤ 300) (hg : 0 ≤ g ∧ g ≤ n) (hc : 0 ≤ c ∧ c ≤ 50000) (hv : 30 ≤ v ∧ v ≤ 600) : GZ 60 (fNewU F f p n g c v) f (zPU z p n g c v) := by
  obtain ⟨hI, hS, hC0, hT, hP, hK, hL, hU, hM⟩ := h
  have c10 := hC.2.2.2.1
  have c3 := hC.1
  have z9 := hC0.2.2.2.1
  obtain ⟨F', eF⟩ : ∃ F' : XM, F' = fNewU F f p n g c v := ⟨_, rfl⟩
  rw [← eF]
  obtain ⟨d, hd⟩ : ∃ d : Int, d = F 1 f 0 10 := ⟨_, rfl⟩
  have ht : ∀ t : Nat, ¬ t = 1 → ¬ t = 14 → F' t = F t := fun t a b => by rw [eF]; unfold fNewU; rw [xup_tag a, xup_tag b, xup_tag b, xup_tag b, xup_tag b, xup_tag b]
  have h1 : ∀ s : Int, F' 1 f 0 s = if s = 10 then d + 1 else F 1 f 0 s := fun s => by
    rw [eF, hd]; unfold fNewU
    simp only [xup_app, Nat.reduceEqDiff, true_and, false_and, if_false]
  have hpr : ∀ s : Int, 0 ≤ s → s < 12 → F 14 f d s = if s = 8 then -1 else 0 := (hU d (by omega) (by omega)).2 (by omega)
  have h14n : ∀ u s : Int, ¬ u = d → F' 14 f u s = F 14 f u s := fun u s hu => by
    rw [eF]; unfold fNewU
    simp only [xup_app, Nat.reduceEqDiff, true_and, false_and, if_false, ← hd, hu]
  have h14d : ∀ s : Int, 0 ≤ s → s < 12 → F' 14 f d s = uNew p n g c v s := fun s a b => by
    have q := hpr s a b
    rw [eF]; unfold fNewU uNew
    simp only [xup_app, Nat.reduceEqDiff, true_and, false_and, if_false, ← hd]
    rw [q]
    by_cases e5 : s = 5
    · subst e5; rfl
    · by_cases e4 : s = 4
      · subst e4; rfl
      · by_cases e3 : s = 3
        · subst e3; rfl
        · by_cases e2 : s = 2
          · subst e2; rfl
          · by_cases e1 : s = 1
            · subst e1; rfl
            · simp only [e1, e2, e3, e4, e5, if_false]
  have nn : ∀ s : Int, ¬ s = 10 → F' 1 f 0 s = F 1 f 0 s := fun s hs => by rw [h1, if_neg hs]
  have e10 : F' 1 f 0 10 = d + 1 := by rw [h1, if_pos rfl]
  have le : F 1 f 0 3 ≤ F' 1 f 0 3 := by rw [nn 3 (by decide)]; exact Int.le_refl _
  have z9' : z 9 = d := by omega
  obtain ⟨z', ez⟩ : ∃ z' : Int → Int, z' = zPU z p n g c v := ⟨_, rfl⟩
  rw [← ez]
  have hz : ∀ m : Int, ¬ m = 9 → ¬ (73 + 12 * d ≤ m ∧ m < 85 + 12 * d) → z' m = z m := fun m a b => by
    rw [ez]; unfold zPU
    rw [if_neg a, z9', if_neg b]
  have hz9 : z' 9 = d + 1 := by rw [ez]; unfold zPU; rw [if_pos rfl, z9']
  have hzu : ∀ s : Int, 0 ≤ s → s < 12 → z' (73 + 12 * d + s) = uNew p n g c v s := fun s a b => by
    rw [ez]; unfold zPU
    rw [z9', if_neg (by omega), if_pos ⟨by omega, by omega⟩]
    exact congrArg _ (by omega)
  have ect : (d + 1).toNat = d.toNat + 1 := by omega
  refine ⟨fun m hm => ?_, gS_c (fun m a b => hz m (by omega) (by omega)) (by rw [ht 2 (by decide) (by decide)]) hS, ?_, ?_, gP_c (fun m a b => hz m (by omega) (by omega)) (by rw [ht 3 (by decide) (by decide)]) (by rw [ht 4 (by decide) (by decide)]) hP, gK_c (fun m a b => hz m (by omega) (by omega)) (fun k s _ _ _ => by rw [ht 8 (by decide) (by decide)]) (fun k w _ _ _ _ => by rw [ht 9 (by decide) (by decide)]) (nn 6 (by decide)) hK, gL_c (fun m a b => hz m (by omega) (by omega)) (fun l s _ _ _ => by rw [ht 13 (by decide) (by decide)]) (nn 8 (by decide)) le hL, fun u g0 g1 => ?_, gM_c (fun m a b => hz m (by omega) (by omega)) (fun j x _ _ _ _ => by rw [ht 11 (by decide) (by decide)]) (nn 0 (by decide)) (fun j _ _ => gNo_c (nn 6 (by decide)) (nn 8 (by decide))) hM⟩
  · by_cases a : m = 9
    · rw [a, hz9]
      exact ⟨by omega, by omega⟩
    · by_cases b : 73 + 12 * d ≤ m ∧ m < 85 + 12 * d
      · rw [show m = 73 + 12 * d + (m - (73 + 12 * d)) by omega, hzu _ (by omega) (by omega)]
        unfold uNew
        repeat' split
        all_goals exact ⟨by omega, by omega⟩
      · rw [hz m a b]
        exact hI m hm
  · obtain ⟨a6, a7, a8, a9, a10⟩ := hC0
    unfold gC
    rw [hz9, hz 6 (by decide) (by omega), hz 7 (by decide) (by omega), hz 8 (by decide) (by omega), hz 10 (by decide) (by omega), e10, nn 3 (by decide), nn 6 (by decide), nn 8 (by decide), nn 0 (by decide)]
    exact ⟨a6, a7, a8, rfl, a10⟩
  · obtain ⟨t11, t12, t13, t14, t15, t16⟩ := hT
    have s1 : tX0_cooked F' f = tX0_cooked F f := by unfold tX0_cooked ncooked; rw [nn 6 (by decide), ht 8 (by decide) (by decide)]
    have s3 : tX0_thrown F' f = tX0_thrown F f := by unfold tX0_thrown nthrownK nthrownL; rw [nn 6 (by decide), nn 8 (by decide), ht 8 (by decide) (by decide), ht 13 (by decide) (by decide)]
    have hsum : ∀ s : Int, 9 ≤ s → s < 12 → sf (fun u => F' 14 f u s) 0 (d + 1).toNat = sf (fun u => F 14 f u s) 0 d.toNat := fun s a b => by
      rw [ect, sf_snoc, sf_congr (f := fun u => F' 14 f u s) (g := fun u => F 14 f u s) _ _ (fun x q0 q1 => h14n x s (by omega))]
      have q : F' 14 f (0 + (d.toNat : Int)) s = 0 := by
        rw [show (0 : Int) + (d.toNat : Int) = d by omega, h14d s (by omega) b]
        unfold uNew
        rw [if_neg (by omega), if_neg (by omega), if_neg (by omega), if_neg (by omega), if_neg (by omega), if_neg (by omega)]
      simp only [q, Int.add_zero]
    have s2 : tX0_served F' f = tX0_served F f := by unfold tX0_served; rw [e10, ← hd]; exact hsum 9 (by decide) (by decide)
    have s4 : tX0_cancelled F' f = tX0_cancelled F f := by unfold tX0_cancelled; rw [e10, ← hd]; exact hsum 11 (by decide) (by decide)
    have s5 : tX0_penalties F' f = tX0_penalties F f := by unfold tX0_penalties; rw [e10, ← hd]; exact hsum 10 (by decide) (by decide)
    unfold gT
    rw [s1, s2, s3, s4, s5, nn 1 (by decide), hz 11 (by decide) (by omega), hz 12 (by decide) (by omega), hz 13 (by decide) (by omega), hz 14 (by decide) (by omega), hz 15 (by decide) (by omega), hz 16 (by decide) (by omega)]
    exact ⟨t11, t12, t13, t14, t15, t16⟩
  · unfold gU1
    rw [e10]
    by_cases e : u = d
    · subst e
      refine ⟨fun _ => ?_, fun q => by omega⟩
      unfold gW1
      rw [hzu 0 (by decide) (by decide), hzu 1 (by decide) (by decide), hzu 9 (by decide) (by decide), hzu 10 (by decide) (by decide), hzu 11 (by decide) (by decide), h14d 0 (by decide) (by decide), h14d 1 (by decide) (by decide), h14d 2 (by decide) (by decide), h14d 3 (by decide) (by decide), h14d 5 (by decide) (by decide), h14d 6 (by decide) (by decide), h14d 7 (by decide) (by decide), h14d 8 (by decide) (by decide), h14d 9 (by decide) (by decide), h14d 10 (by decide) (by decide), h14d 11 (by decide) (by decide), nn 3 (by decide)]
      refine ⟨rfl, rfl, rfl, rfl, rfl, hp.2, fun _ => ⟨fun s a b => ?_, hv.1, hn.1, ⟨fun _ => rfl, fun _ => rfl⟩, rfl⟩, fun q => absurd rfl q⟩
      rw [hzu s (by omega) (by omega), h14d s (by omega) (by omega)]
    · refine ⟨fun q => gW1_c (fun m a b => hz m (by omega) (by omega)) (fun s _ _ => h14n u s e) le ((hU u g0 g1).1 (by omega)), fun q s a b => ?_⟩
      rw [h14n u s e]
      exact (hU u g0 g1).2 (by omega) s a b
end XRf

