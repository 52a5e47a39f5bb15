section XRg
theorem GZ_set {F : XM} {f q v : Int} {z : Int → Int} (h : GZ 60 F f z) (hC : fC F f) (hq : 0 ≤ q ∧ q < 6) (hv : XInR v) : GZ 60 (xup F 2 f 0 q v) f (sup z q v) := by
  obtain ⟨hI, hS, hC0, hT, hP, hK, hL, hU, hM⟩ := h
  have ht : ∀ t : Nat, ¬ t = 2 → xup F 2 f 0 q v t = F t := fun t a => xup_tag a
  have e1 := ht 1 (by decide)
  refine ⟨sup_in hI (fun _ => hv), fun s h0 h1 => ?_, gC_c (fun m a b => sup_ne (by omega)) (by rw [e1]) (by rw [e1]) (by rw [e1]) (by rw [e1]) (by rw [e1]) hC0, gT_c (fC_cnt hC) (fun m a b => sup_ne (by omega)) (fun k s _ _ _ => by rw [ht 8 (by decide)]) (fun l _ _ => by rw [ht 13 (by decide)]) (fun u s _ _ _ _ => by rw [ht 14 (by decide)]) (by rw [e1]) (by rw [e1]) (by rw [e1]) (by rw [e1]) hT, gP_c (fun m a b => sup_ne (by omega)) (by rw [ht 3 (by decide)]) (by rw [ht 4 (by decide)]) hP, gK_c (fun m a b => sup_ne (by omega)) (fun k s _ _ _ => by rw [ht 8 (by decide)]) (fun k w _ _ _ _ => by rw [ht 9 (by decide)]) (by rw [e1]) hK, gL_c (fun m a b => sup_ne (by omega)) (fun l s _ _ _ => by rw [ht 13 (by decide)]) (by rw [e1]) (by rw [e1]; exact Int.le_refl _) hL, gU_c (fun m a b => sup_ne (by omega)) (fun u s _ _ _ _ => by rw [ht 14 (by decide)]) (by rw [e1]) (by rw [e1]; exact Int.le_refl _) hU, gM_c (fun m a b => sup_ne (by omega)) (fun j x _ _ _ _ => by rw [ht 11 (by decide)]) (by rw [e1]) (fun j _ _ => gNo_c (by rw [e1]) (by rw [e1])) hM⟩
  rw [xup_app]
  by_cases e : s = q
  · subst e
    rw [if_pos ⟨rfl, rfl, rfl, rfl⟩, sup_eq]
  · rw [if_neg (fun z => e z.2.2.2), sup_ne e]
    exact hS s h0 h1
/-- one kitchen's stock and pot -/
theorem GZ_K1 {F F' : XM} {f k : Int} {z z' : Int → Int} (h : GZ 60 F f z) (hC : fC F f) (ht : ∀ t : Nat, ¬ t = 8 → ¬ t = 9 → F' t = F t) (h8n : ∀ k' s : Int, ¬ k' = k → F' 8 f k' s = F 8 f k' s) (h9n : ∀ k' w : Int, ¬ k' = k → F' 9 f k' w = F 9 f k' w) (h85 : F' 8 f k 5 = F 8 f k 5) (h86 : F' 8 f k 6 = F 8 f k 6) (h0 : 0 ≤ k) (h3 : k < 3)
    (hz : ∀ n : Int, ¬ (36 + 3 * k ≤ n ∧ n < 39 + 3 * k) → ¬ n = 45 + k → ¬ n = 48 + k → z' n = z n) (hJ : ∀ n : Int, zJ n → XInR (z' n)) (hk : gK1 F' f z' k) : GZ 60 F' f z' := by
  obtain ⟨hI, hS, hC0, hT, hP, hK, hL, hU, hM⟩ := h
  have e1 := ht 1 (by decide) (by decide)
  refine ⟨hJ, gS_c (fun m a b => hz m (by omega) (by omega) (by omega)) (by rw [ht 2 (by decide) (by decide)]) hS, gC_c (fun m a b => hz m (by omega) (by omega) (by omega)) (by rw [e1]) (by rw [e1]) (by rw [e1]) (by rw [e1]) (by rw [e1]) hC0, gT_c (fC_cnt hC) (fun m a b => hz m (by omega) (by omega) (by omega)) (fun k' s _ _ hs => ?_) (fun l _ _ => by rw [ht 13 (by decide) (by decide)]) (fun u s _ _ _ _ => by rw [ht 14 (by decide) (by decide)]) (by rw [e1]) (by rw [e1]) (by rw [e1]) (by rw [e1]) hT, gP_c (fun m a b => hz m (by omega) (by omega) (by omega)) (by rw [ht 3 (by decide) (by decide)]) (by rw [ht 4 (by decide) (by decide)]) hP, fun k' g0 g1 => ?_, gL_c (fun m a b => hz m (by omega) (by omega) (by omega)) (fun l s _ _ _ => by rw [ht 13 (by decide) (by decide)]) (by rw [e1]) (by rw [e1]; exact Int.le_refl _) hL, gU_c (fun m a b => hz m (by omega) (by omega) (by omega)) (fun u s _ _ _ _ => by rw [ht 14 (by decide) (by decide)]) (by rw [e1]) (by rw [e1]; exact Int.le_refl _) hU, gM_c (fun m a b => hz m (by omega) (by omega) (by omega)) (fun j x _ _ _ _ => by rw [ht 11 (by decide) (by decide)]) (by rw [e1]) (fun j _ _ => gNo_c (by rw [e1]) (by rw [e1])) hM⟩
  · by_cases e : k' = k
    · subst e
      rcases hs with rfl | rfl
      · exact h85
      · exact h86
    · exact h8n k' s e
  · by_cases e : k' = k
    · rw [e]
      exact hk
    · exact gK1_c g0 g1 (fun m hm => hz m (by omega) (by omega) (by omega)) (fun s _ => h8n k' s e) (fun w _ _ => h9n k' w e) (by rw [e1]) (hK k' g0 g1)
theorem GZ_stock {F : XM} {f k w v : Int} {z : Int → Int} (h : GZ 60 F f z) (hC : fC F f) (h0 : 0 ≤ k) (h1 : k < F 1 f 0 6) (hw : 0 ≤ w ∧ w ≤ 2) (hv : XInR v) : GZ 60 (xup F 9 f k w v) f (sup z (36 + 3 * k + w) v) := by
  have c6 := hC.2.1
  obtain ⟨k1, k2, k3, k4, k5, k6, k7, k8, k9⟩ := h.2.2.2.2.2.1 k h0 (by omega)
  refine GZ_K1 h hC (fun t _ b => xup_tag b) (fun k' s _ => by rw [xup_tag (by decide)]) (fun k' s hk => by rw [xup_app, if_neg (fun q => hk q.2.2.1)]) (by rw [xup_tag (by decide)]) (by rw [xup_tag (by decide)]) h0 (by omega) (fun n a _ _ => sup_ne (by omega)) (sup_in h.1 (fun _ => hv)) ?_
  unfold gK1
  have e8 : xup F 9 f k w v 8 = F 8 := xup_tag (by decide)
  have e1 : xup F 9 f k w v 1 = F 1 := xup_tag (by decide)
  rw [e8, e1, sup_ne (by omega), sup_ne (by omega), sup_ne (by omega), sup_ne (by omega), sup_ne (by omega)]
  refine ⟨k1, k2, k3, k4, k5, k6, fun w' a b => ?_, k8, k9⟩
  rw [xup_app]
  by_cases e : w' = w
  · subst e
    rw [if_pos ⟨rfl, rfl, rfl, rfl⟩, sup_eq]
  · rw [if_neg (fun q => e q.2.2.2), sup_ne (by omega)]
    exact k7 w' a b
theorem nd_b (d w : Int) : 0 ≤ nd d w ∧ nd d w ≤ 2 := by unfold nd; repeat' split <;> omega
theorem GZ_fill {F : XM} {f k d n : Int} {z : Int → Int} (h : GZ 60 F f z) (hC : fC F f) (hK0 : fK F f) (h0 : 0 ≤ k) (h1 : k < F 1 f 0 6) (hd : 0 ≤ d ∧ d ≤ 2) (hn : 1 ≤ n ∧ n ≤ 300) :
    GZ 60 (kFill F f k d n) f (sup (sup (sup (sup (sup z (36 + 3 * k + 0) (z (36 + 3 * k + 0) - n * nd d 0)) (36 + 3 * k + 1) (z (36 + 3 * k + 1) - n * nd d 1)) (36 + 3 * k + 2) (z (36 + 3 * k + 2) - n * nd d 2)) (45 + k) d) (48 + k) n) := by
  have c6 := hC.2.1
  obtain ⟨k1, k2, k3, k4, k5, k6, k7, k8, k9⟩ := h.2.2.2.2.2.1 k h0 (by omega)
  have hst := (hK0 k h0 (by omega)).2.1
  have hm : ∀ w : Int, 0 ≤ n * nd d w ∧ n * nd d w ≤ 600 := fun w => by
    have q := nd_b d w
    exact ⟨Int.mul_nonneg (by omega) q.1, Int.le_trans (Int.mul_le_mul hn.2 q.2 q.1 (by decide)) (by decide)⟩
  have m0 := hm 0
  have m1 := hm 1
  have m2 := hm 2
  have t0 := k7 0 (by decide) (by decide)
  have t1 := k7 1 (by decide) (by decide)
  have t2 := k7 2 (by decide) (by decide)
  have s0 := hst 0 (by decide) (by decide)
  have s1 := hst 1 (by decide) (by decide)
  have s2 := hst 2 (by decide) (by decide)
  refine GZ_K1 h hC (fun t a b => by unfold kFill; rw [xup_tag a, xup_tag a, xup_tag b, xup_tag b, xup_tag b]) (fun k' s hk => by unfold kFill; simp only [xup_app, hk, Nat.reduceEqDiff, and_false, false_and, if_false]) (fun k' s hk => by unfold kFill; simp only [xup_app, hk, Nat.reduceEqDiff, and_false, false_and, if_false]) (by unfold kFill; simp only [xup_app, Nat.reduceEqDiff, Int.reduceEq, and_false, false_and, if_false]) (by unfold kFill; simp only [xup_app, Nat.reduceEqDiff, Int.reduceEq, and_false, false_and, if_false]) h0 (by omega) (fun n a b c => by rw [sup_ne c, sup_ne b, sup_ne (by omega), sup_ne (by omega), sup_ne (by omega)]) (sup_in (sup_in (sup_in (sup_in (sup_in h.1 (fun _ => ⟨by omega, by omega⟩)) (fun _ => ⟨by omega, by omega⟩)) (fun _ => ⟨by omega, by omega⟩)) (fun _ => ⟨by omega, by omega⟩)) (fun _ => ⟨by omega, by omega⟩)) ?_
  have v83 : kFill F f k d n 8 f k 3 = n := by unfold kFill; simp only [xup_app, and_self, if_true]
  have v82 : kFill F f k d n 8 f k 2 = d := by unfold kFill; simp only [xup_app, and_self, if_true, Int.reduceEq, and_false, if_false]
  have v8 : ∀ s : Int, ¬ s = 3 → ¬ s = 2 → kFill F f k d n 8 f k s = F 8 f k s := fun s a b => by unfold kFill; simp only [xup_app, a, b, Nat.reduceEqDiff, and_false, false_and, if_false]
  have v9 : ∀ w : Int, kFill F f k d n 9 f k w = if w = 2 then F 9 f k 2 - n * nd d 2 else if w = 1 then F 9 f k 1 - n * nd d 1 else if w = 0 then F 9 f k 0 - n * nd d 0 else F 9 f k w := fun w => by unfold kFill; simp only [xup_app, Nat.reduceEqDiff, false_and, if_false, true_and]
  have v1 : kFill F f k d n 1 = F 1 := by unfold kFill; rw [xup_tag (by decide), xup_tag (by decide), xup_tag (by decide), xup_tag (by decide), xup_tag (by decide)]
  unfold gK1
  rw [v83, v82, v8 0 (by decide) (by decide), v8 5 (by decide) (by decide), v8 6 (by decide) (by decide), v1]
  refine ⟨?_, ?_, fun _ => ?_, ?_, ?_, ?_, fun w a b => ?_, fun q => by omega, fun q => by omega⟩
  · rw [sup_ne (by omega), sup_ne (by omega), sup_ne (by omega), sup_ne (by omega), sup_ne (by omega)]
    exact k1
  · rw [sup_ne (by omega), sup_eq]
    exact hd
  · rw [sup_ne (by omega), sup_eq]
  · rw [sup_eq]
  · rw [sup_ne (by omega), sup_ne (by omega), sup_ne (by omega), sup_ne (by omega), sup_ne (by omega)]
    exact k5
  · rw [sup_ne (by omega), sup_ne (by omega), sup_ne (by omega), sup_ne (by omega), sup_ne (by omega)]
    exact k6
  · rw [v9]
    rcases (show w = 0 ∨ w = 1 ∨ w = 2 by omega) with rfl | rfl | rfl
    · rw [if_neg (by decide), if_neg (by decide), if_pos rfl, sup_ne (by omega), sup_ne (by omega), sup_ne (by omega), sup_ne (by omega), sup_eq, t0]
    · rw [if_neg (by decide), if_pos rfl, sup_ne (by omega), sup_ne (by omega), sup_ne (by omega), sup_eq, t1]
    · rw [if_pos rfl, sup_ne (by omega), sup_ne (by omega), sup_eq, t2]
theorem GZ_driveOp {F : XM} {f l p m : Int} {z : Int → Int} (h : GZ 60 F f z) (hC : fC F f) (h0 : 0 ≤ l) (h1 : l < F 1 f 0 8) (hp : 0 ≤ p ∧ p < F 1 f 0 3) (hm : XInR m) : GZ 60 (xup (xup (xup F 13 f l 2 m) 13 f l 0 (-1)) 13 f l 1 p) f (sup (sup z (57 + l) p) (61 + l) m) := by
  have c8 := hC.2.2.1
  have c3 := hC.1
  obtain ⟨l1, l2, l3, l4, l5⟩ := h.2.2.2.2.2.2.1 l h0 (by omega)
  refine GZ_L h hC (fun t ht => by rw [xup_tag ht, xup_tag ht, xup_tag ht]) (fun l' s hl => by simp only [xup_app, hl, and_false, false_and, if_false]) (by simp only [xup_app, Int.reduceEq, and_false, if_false]) (fun n a b _ _ => by rw [sup_ne b, sup_ne a]) h0 (by omega) (sup_in (sup_in h.1 (fun _ => ⟨by omega, by omega⟩)) (fun _ => hm)) ?_
  unfold gL1
  rw [sup_eq, sup_ne (by omega), sup_ne (by omega), sup_ne (by omega), sup_ne (by omega), sup_ne (by omega), sup_eq]
  simp only [xup_app, Nat.reduceEqDiff, Int.reduceEq, and_self, and_true, true_and, false_and, and_false, if_true, if_false]
  refine ⟨l2, l3, fun _ => ⟨?_, hp⟩, fun q => by omega⟩
  first | exact trivial | exact Or.inl trivial | exact Or.inl rfl
theorem GZ_move {F : XM} {f u p : Int} {z : Int → Int} (h : GZ 60 F f z) (hC : fC F f) (h0 : 0 ≤ u) (h1 : u < F 1 f 0 10) (hs : F 14 f u 0 = 0) (hp : 0 ≤ p ∧ p < F 1 f 0 3) : GZ 60 (xup F 14 f u 1 p) f (sup z (73 + 12 * u + 1) p) := by
  have c10 := hC.2.2.2.1
  have c3 := hC.1
  have hv : ∀ u' s : Int, xup F 14 f u 1 p 14 f u' s = if u' = u ∧ s = 1 then p else F 14 f u' s := fun u' s => by simp only [xup_app, true_and]
  have ht : ∀ t : Nat, ¬ t = 14 → xup F 14 f u 1 p t = F t := fun t a => xup_tag a
  obtain ⟨F', eF⟩ : ∃ F' : XM, F' = xup F 14 f u 1 p := ⟨_, rfl⟩
  rw [← eF] at hv ht ⊢
  have n : ∀ u' s : Int, ¬ s = 1 → F' 14 f u' s = F 14 f u' s := fun u' s a => by rw [hv, if_neg (fun q => a q.2)]
  have e1 := ht 1 (by decide)
  obtain ⟨e0, ep, e9, e10, e11, -, ew, -⟩ := (h.2.2.2.2.2.2.2.1 u h0 (by omega)).1 h1
  refine GZ_U h (fun t a _ => ht t a) (fun s _ => by rw [e1]) (fun u' s hu => by rw [hv, if_neg (fun q => hu q.1)]) (fun m a b => sup_ne (by omega)) h0 (by omega) (sup_in h.1 (fun _ => ⟨by omega, by omega⟩)) (gT_u h.2.2.2.1 (fun t a _ => ht t a) (fun s _ => by rw [e1]) (fun u' s hu => by rw [hv, if_neg (fun q => hu q.1)]) h0 h1 (sup_ne (by omega)) (by rw [sup_ne (by omega), n u 9 (by decide)]; omega) (sup_ne (by omega)) (by rw [sup_ne (by omega), e1]; omega) (by rw [sup_ne (by omega), n u 11 (by decide)]; omega) (by rw [sup_ne (by omega), n u 10 (by decide)]; omega)) ?_
  unfold gU1 gW1
  rw [e1, n u 0 (by decide), n u 2 (by decide), n u 3 (by decide), n u 5 (by decide), n u 6 (by decide), n u 7 (by decide), n u 8 (by decide), n u 9 (by decide), n u 10 (by decide), n u 11 (by decide), hv u 1, if_pos ⟨rfl, rfl⟩, sup_eq]
  refine ⟨fun _ => ⟨?_, rfl, ?_, ?_, ?_, hp.2, fun _ => ⟨fun s a b => ?_, (ew hs).2⟩, fun q => absurd hs q⟩, fun q => by omega⟩
  · rw [sup_ne (by omega)]
    exact e0
  · rw [sup_ne (by omega)]
    exact e9
  · rw [sup_ne (by omega)]
    exact e10
  · rw [sup_ne (by omega)]
    exact e11
  · rw [n u s (by omega), sup_ne (by omega)]
    exact (ew hs).1 s a b
theorem GZ_wrap {c b : Int} {F : XM} {f u : Int} {z : Int → Int} (h : GZ 60 F f z) (hG : fI c b F f) (hc : c ≤ 80000000) (h0 : 0 ≤ u) (h1 : u < F 1 f 0 10) (hs : F 14 f u 0 = 0) : GZ 60 (uLeave (xup F 14 f u 11 (F 14 f u 6 + F 14 f u 7)) f u 1) f (sup (sup (sup z (73 + 12 * u + 0) 1) (73 + 12 * u + 11) (z (73 + 12 * u + 11) + (F 14 f u 6 + F 14 f u 7))) 15 (z 15 + (F 14 f u 6 + F 14 f u 7))) := by
  have c10 := hG.1.2.2.2.1
  have c3 := hG.1.1
  have u12 : u < 12 := by omega
  have how := fU_ow hG.2.2.2.2 hc h0 u12
  have hU := hG.2.2.2.2.1 u h0 u12
  obtain ⟨e0, ep, e9, e10, e11, epl, ew, -⟩ := (h.2.2.2.2.2.2.2.1 u h0 u12).1 h1
  obtain ⟨es, w30, wp, wi, wc⟩ := ew hs
  obtain ⟨o, ho⟩ : ∃ o : Int, o = F 14 f u 6 + F 14 f u 7 := ⟨_, rfl⟩
  rw [← ho]
  have hv : ∀ u' s : Int, uLeave (xup F 14 f u 11 o) f u 1 14 f u' s = if u' = u then (if s = 0 then 1 else if s = 2 ∨ s = 3 ∨ s = 6 ∨ s = 7 then 0 else if s = 8 then -1 else if s = 11 then o else F 14 f u s) else F 14 f u' s := fun u' s => by
    unfold uLeave
    simp only [xup_app, true_and]
    by_cases e : u' = u
    · subst e
      simp only [true_and, if_true]
      by_cases a8 : s = 8
      · subst a8; rfl
      · by_cases a7 : s = 7
        · subst a7; rfl
        · by_cases a6 : s = 6
          · subst a6; rfl
          · by_cases a3 : s = 3
            · subst a3; rfl
            · by_cases a2 : s = 2
              · subst a2; rfl
              · simp only [a8, a7, a6, a3, a2, or_self, if_false]
    · simp only [e, false_and, if_false]
  have ht : ∀ t : Nat, ¬ t = 14 → uLeave (xup F 14 f u 11 o) f u 1 t = F t := fun t a => by unfold uLeave; simp only [xup_tag a]
  obtain ⟨F', eF⟩ : ∃ F' : XM, F' = uLeave (xup F 14 f u 11 o) f u 1 := ⟨_, rfl⟩
  rw [← eF] at hv ht ⊢
  have e1 := ht 1 (by decide)
  have vu : ∀ s : Int, F' 14 f u s = (if s = 0 then 1 else if s = 2 ∨ s = 3 ∨ s = 6 ∨ s = 7 then 0 else if s = 8 then -1 else if s = 11 then o else F 14 f u s) := fun s => by rw [hv, if_pos rfl]
  have v0 : F' 14 f u 0 = 1 := by rw [vu]; rfl
  have v1 : F' 14 f u 1 = F 14 f u 1 := by rw [vu]; rfl
  have v2 : F' 14 f u 2 = 0 := by rw [vu]; rfl
  have v3 : F' 14 f u 3 = 0 := by rw [vu]; rfl
  have v6 : F' 14 f u 6 = 0 := by rw [vu]; rfl
  have v7 : F' 14 f u 7 = 0 := by rw [vu]; rfl
  have v8 : F' 14 f u 8 = -1 := by rw [vu]; rfl
  have v9 : F' 14 f u 9 = F 14 f u 9 := by rw [vu]; rfl
  have v10 : F' 14 f u 10 = F 14 f u 10 := by rw [vu]; rfl
  have v11 : F' 14 f u 11 = o := by rw [vu]; rfl
  have hnu : ∀ u' s : Int, ¬ u' = u → F' 14 f u' s = F 14 f u' s := fun u' s hu => by rw [hv, if_neg hu]
  have z15 := h.2.2.2.1.2.2.2.2.1
  have hcs : 0 ≤ tX0_cancelled F f ∧ tX0_cancelled F f ≤ 80000000 := by
    have hb : ∀ n : Nat, n ≤ 12 → 0 ≤ sm (ncancelled F f) 0 n ∧ sm (ncancelled F f) 0 n ≤ sm (uG F f) 0 n := by
      intro n
      induction n with
      | zero => intro _; simp [sm]
      | succ n ih =>
        intro hn
        have a := ih (by omega)
        have q := hG.2.2.2.2.1 (0 + n) (by omega) (by omega)
        simp only [sm]
        unfold ncancelled uG at a ⊢
        omega
    obtain ⟨X, hX⟩ : ∃ X : Int, X = sm (uG F f) 0 12 := ⟨_, rfl⟩
    have hk : ∀ k n : Nat, n + k = 12 → sm (uG F f) 0 n ≤ X := by
      intro k
      induction k with
      | zero => intro n hn; rw [show n = 12 by omega, hX]; exact Int.le_refl _
      | succ k ih =>
        intro n hn
        have a := ih (n + 1) (by omega)
        have q := hG.2.2.2.2.1 (0 + n) (by omega) (by omega)
        simp only [sm] at a
        have : 0 ≤ uG F f (0 + n) := by unfold uG; omega
        omega
    unfold tX0_cancelled
    rw [sf_sm]
    have a := hb (F 1 f 0 10).toNat (by omega)
    have k := hk (12 - (F 1 f 0 10).toNat) (F 1 f 0 10).toNat (by omega)
    have q1 := hG.2.2.2.2.2.1
    have q2 := hG.2.2.2.2.2.2
    omega
  refine GZ_U h (fun t a _ => ht t a) (fun s _ => by rw [e1]) hnu (fun m a b => by rw [sup_ne (by omega), sup_ne (by omega), sup_ne (by omega)]) h0 u12 (sup_in (sup_in (sup_in h.1 (fun _ => ⟨by omega, by omega⟩)) (fun _ => by rw [e11, wc]; exact ⟨by omega, by omega⟩)) (fun _ => by rw [z15]; exact ⟨by omega, by omega⟩)) (gT_u h.2.2.2.1 (fun t a _ => ht t a) (fun s _ => by rw [e1]) hnu h0 h1 (by rw [sup_ne (by omega), sup_ne (by omega), sup_ne (by omega)]) (by rw [sup_ne (by omega), sup_ne (by omega), sup_ne (by omega), v9]; omega) (by rw [sup_ne (by omega), sup_ne (by omega), sup_ne (by omega)]) (by rw [sup_ne (by omega), sup_ne (by omega), sup_ne (by omega), e1]; omega) (by rw [sup_eq, v11, wc]; omega) (by rw [sup_ne (by omega), sup_ne (by omega), sup_ne (by omega), v10]; omega)) ?_
  unfold gU1 gW1
  rw [e1, v0, v1, v2, v3, v6, v7, v8, v9, v10, v11]
  refine ⟨fun _ => ⟨?_, ?_, ?_, ?_, ?_, epl, fun q => absurd q (by decide), fun _ => ⟨rfl, rfl, rfl, rfl, rfl⟩⟩, fun q => by omega⟩
  · rw [sup_ne (by omega), sup_ne (by omega), sup_eq]
  · rw [sup_ne (by omega), sup_ne (by omega), sup_ne (by omega)]
    exact ep
  · rw [sup_ne (by omega), sup_ne (by omega), sup_ne (by omega)]
    exact e9
  · rw [sup_ne (by omega), sup_ne (by omega), sup_ne (by omega)]
    exact e10
  · rw [sup_ne (by omega), sup_eq, e11, wc]
    omega
end XRg

