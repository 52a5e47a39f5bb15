section XR6
/-! the phases of a minute: what happens to the reference's row happens to the film -/
def blk (z : Int → Int) (j : Int) (S : Int → Int) : Int → Int := fun s => if 217 + 192 * j ≤ s ∧ s < 217 + 192 * j + 192 then S (s - (217 + 192 * j)) else z s
theorem zput_blk (M : XM) (j : Int) (S : Int → Int) : zput M j S 21 0 0 = blk (M 21 0 0) j S := by
  funext s
  simp only [zput, blk, true_and]
theorem blk_at {z : Int → Int} {j : Int} {S : Int → Int} {x : Int} (h0 : 0 ≤ x) (h1 : x < 192) : blk z j S (217 + 192 * j + x) = S x := by
  unfold blk
  rw [if_pos ⟨by omega, by omega⟩]
  congr 1
  omega
theorem blk_out {z : Int → Int} {j : Int} {S : Int → Int} {n : Int} (h : ¬ (217 + 192 * j ≤ n ∧ n < 409 + 192 * j)) : blk z j S n = z n := by
  unfold blk
  rw [if_neg (by omega)]
theorem blk_in {z : Int → Int} {j : Int} {S : Int → Int} (h : ∀ n : Int, zJ n → XInR (z n)) (hS : ∀ x : Int, 0 ≤ x → x < 192 → XInR (S x)) : ∀ n : Int, zJ n → XInR (blk z j S n) := by
  intro n hn
  unfold blk
  split
  · exact hS _ (by omega) (by omega)
  · exact h n hn
theorem blk_sup {z : Int → Int} {j x v : Int} (h0 : 0 ≤ x) (h1 : x < 192) : sup z (217 + 192 * j + x) v = blk z j (sup (fun x => z (217 + 192 * j + x)) x v) := by
  funext s
  simp only [sup, blk]
  by_cases e : s = 217 + 192 * j + x
  · rw [if_pos e, if_pos (by omega), if_pos (by omega)]
  · rw [if_neg e]
    by_cases g : 217 + 192 * j ≤ s ∧ s < 217 + 192 * j + 192
    · rw [if_pos g, if_neg (by omega)]
      exact congrArg z (by omega)
    · rw [if_neg g]
theorem fC_cnt {F : XM} {f : Int} (h : fC F f) : F 1 f 0 6 ≤ 3 ∧ F 1 f 0 8 ≤ 4 ∧ F 1 f 0 10 ≤ 12 := ⟨h.2.1.2, h.2.2.1.2, h.2.2.2.1.2⟩
theorem mS_ne {d d' m a : Int} (h : mS d (m - a) = mS d' m) (hd : 0 ≤ d ∧ d ≤ 2) (hd' : 0 ≤ d' ∧ d' ≤ 2) (h0 : 0 ≤ a) (h1 : a < 64) : d = d' ∧ a = 0 := by
  unfold mS at h
  omega
/-- the minute begins -/
theorem GZ_min {F : XM} {f : Int} {z : Int → Int} (h : GZ 60 F f z) (hF : fC F f) : GZ 61 (xup F 1 f 0 0 (F 1 f 0 0 + 1)) f (sup z 10 (z 10 + 1)) := by
  obtain ⟨hI, hS, hC, hT, hP, hK, hL, hU, hM⟩ := h
  have e1 : ∀ s : Int, ¬ s = 0 → xup F 1 f 0 0 (F 1 f 0 0 + 1) 1 f 0 s = F 1 f 0 s := fun s hs => by
    rw [xup_app, if_neg (fun q => hs q.2.2.2)]
  have e0 : xup F 1 f 0 0 (F 1 f 0 0 + 1) 1 f 0 0 = F 1 f 0 0 + 1 := by rw [xup_app, if_pos ⟨rfl, rfl, rfl, rfl⟩]
  have et : ∀ t : Nat, ¬ t = 1 → xup F 1 f 0 0 (F 1 f 0 0 + 1) t = F t := fun t ht => xup_tag ht
  have c0 := hF.2.2.2.2.1
  refine ⟨sup_in hI (fun _ => ?_), gS_c (fun n a b => sup_ne (by omega)) (by rw [et 2 (by decide)]) hS, ?_, gT_c (fC_cnt hF) (fun n a b => sup_ne (by omega)) (fun k s _ _ _ => by rw [et 8 (by decide)]) (fun l _ _ => by rw [et 13 (by decide)]) (fun u s _ _ _ _ => by rw [et 14 (by decide)]) (e1 1 (by decide)) (e1 6 (by decide)) (e1 8 (by decide)) (e1 10 (by decide)) hT, gP_c (fun n a b => sup_ne (by omega)) (by rw [et 3 (by decide)]) (by rw [et 4 (by decide)]) hP, gK_c (fun n a b => sup_ne (by omega)) (fun k s _ _ _ => by rw [et 8 (by decide)]) (fun k w _ _ _ _ => by rw [et 9 (by decide)]) (e1 6 (by decide)) hK, gL_c (fun n a b => sup_ne (by omega)) (fun l s _ _ _ => by rw [et 13 (by decide)]) (e1 8 (by decide)) (by rw [e1 3 (by decide)]; exact Int.le_refl _) hL, gU_c (fun n a b => sup_ne (by omega)) (fun u s _ _ _ _ => by rw [et 14 (by decide)]) (e1 10 (by decide)) (by rw [e1 3 (by decide)]; exact Int.le_refl _) hU, fun j h0 h1 => ?_⟩
  · rw [hC.2.2.2.2]
    exact ⟨by omega, by omega⟩
  · obtain ⟨c6, c7, c8, c9, c10⟩ := hC
    unfold gC
    rw [sup_ne (by decide), sup_ne (by decide), sup_ne (by decide), sup_ne (by decide), sup_eq, e1 3 (by decide), e1 6 (by decide), e1 8 (by decide), e1 10 (by decide), e0]
    exact ⟨c6, c7, c8, c9, by omega⟩
  · obtain ⟨m1, m2, m3⟩ := hM j h0 h1
    unfold gM1
    rw [et 11 (by decide), e0]
    refine ⟨fun x g0 g1 => ?_, fun d a g0 g1 g2 g3 g4 => ?_, fun g => m3 (gNo_c (e1 6 (by decide)) (e1 8 (by decide)) g)⟩
    · rw [sup_ne (by omega)]
      exact m1 x g0 g1
    · have q := m2 d (a - 1) g0 g1 (by omega) (by omega) (by omega)
      rw [show F 1 f 0 0 + 1 - a = F 1 f 0 0 - (a - 1) by omega]
      exact q
/-- in the new minute's slots there is nothing -/
theorem GZ_clear {F : XM} {f j d : Int} {z : Int → Int} (h : GZ 61 F f z) (h60 : ∀ j d : Int, 0 ≤ j → j < 7 → 0 ≤ d → d ≤ 2 → F 11 f j (mS d (F 1 f 0 0)) = 0) (h0 : 0 ≤ j) (h1 : j < 7) (d0 : 0 ≤ d) (d1 : d ≤ 2) : z (217 + 192 * j + mS d (z 10)) = 0 := by
  have q := mS_in (m := F 1 f 0 0) d0 d1
  rw [h.2.2.1.2.2.2.2, (h.2.2.2.2.2.2.2.2 j h0 h1).1 _ q.1 q.2]
  exact h60 j d h0 h1 d0 d1
theorem GZ_new0 {F : XM} {f : Int} {z : Int → Int} (h : GZ 60 F f z) (hF : fC F f) : ∀ j d : Int, 0 ≤ j → j < 7 → 0 ≤ d → d ≤ 2 → (xup F 1 f 0 0 (F 1 f 0 0 + 1)) 11 f j (mS d ((xup F 1 f 0 0 (F 1 f 0 0 + 1)) 1 f 0 0)) = 0 := by
  intro j d h0 h1 d0 d1
  have c0 := hF.2.2.2.2.1
  rw [xup_tag (by decide), xup_app, if_pos ⟨rfl, rfl, rfl, rfl⟩]
  have q := (h.2.2.2.2.2.2.2.2 j h0 h1).2.1 d 63 d0 d1 (by decide) (by decide) (Or.inl (by decide))
  have e : mS d (F 1 f 0 0 + 1) = mS d (F 1 f 0 0 - 63) := by unfold mS; omega
  rw [e]
  exact q
/-- a lorry drives -/
theorem GZ_L {A : Int} {F F' : XM} {f l : Int} {z z' : Int → Int} (h : GZ A F f z) (hF : fC F f) (ht : ∀ t : Nat, ¬ t = 13 → F' t = F t) (hn : ∀ l' s : Int, ¬ l' = l → F' 13 f l' s = F 13 f l' s) (h5 : F' 13 f l 5 = F 13 f l 5) (hz : ∀ n : Int, ¬ n = 57 + l → ¬ n = 61 + l → ¬ n = 65 + l → ¬ n = 69 + l → z' n = z n) (h0 : 0 ≤ l) (h1 : l < 4) (hJ : ∀ n : Int, zJ n → XInR (z' n)) (hl : gL1 F' f z' l) : GZ A F' f z' := by
  obtain ⟨hI, hS, hC, hT, hP, hK, hL, hU, hM⟩ := h
  have e1 := ht 1 (by decide)
  refine ⟨hJ, gS_c (fun n a b => hz n (by omega) (by omega) (by omega) (by omega)) (by rw [ht 2 (by decide)]) hS, gC_c (fun n a b => hz n (by omega) (by omega) (by omega) (by omega)) (by rw [e1]) (by rw [e1]) (by rw [e1]) (by rw [e1]) (by rw [e1]) hC, gT_c (fC_cnt hF) (fun n a b => hz n (by omega) (by omega) (by omega) (by omega)) (fun k s _ _ _ => by rw [ht 8 (by decide)]) (fun l' _ _ => ?_) (fun u s _ _ _ _ => by rw [ht 14 (by decide)]) (by rw [e1]) (by rw [e1]) (by rw [e1]) (by rw [e1]) hT, gP_c (fun n a b => hz n (by omega) (by omega) (by omega) (by omega)) (by rw [ht 3 (by decide)]) (by rw [ht 4 (by decide)]) hP, gK_c (fun n a b => hz n (by omega) (by omega) (by omega) (by omega)) (fun k s _ _ _ => by rw [ht 8 (by decide)]) (fun k w _ _ _ _ => by rw [ht 9 (by decide)]) (by rw [e1]) hK, fun l' g0 g1 => ?_, gU_c (fun n a b => hz n (by omega) (by omega) (by omega) (by omega)) (fun u s _ _ _ _ => by rw [ht 14 (by decide)]) (by rw [e1]) (by rw [e1]; exact Int.le_refl _) hU, gM_c (fun n a b => hz n (by omega) (by omega) (by omega) (by omega)) (fun j x _ _ _ _ => by rw [ht 11 (by decide)]) (by rw [e1]) (fun j _ _ => gNo_c (by rw [e1]) (by rw [e1])) hM⟩
  · by_cases e : l' = l
    · rw [e]
      exact h5
    · exact hn l' 5 e
  · by_cases e : l' = l
    · rw [e]
      exact hl
    · exact gL1_c (fun n hn' => hz n (by omega) (by omega) (by omega) (by omega)) (fun s _ => hn l' s e) (by rw [e1]) (by rw [e1]; exact Int.le_refl _) (hL l' g0 g1)
theorem GZ_drive {A c b : Int} {F : XM} {f l : Int} {z : Int → Int} (h : GZ A F f z) (hG : fI c b F f) (h0 : 0 ≤ l) (h1 : l < F 1 f 0 8) : GZ A (lDrive F f l) f (sup z (61 + l) (z (61 + l) - if z (61 + l) = 0 then 0 else 1)) := by
  have c8 := hG.1.2.2.1
  have l4 : l < 4 := by omega
  obtain ⟨q1, q2, q3, q4, q5⟩ := h.2.2.2.2.2.2.1 l h0 l4
  obtain ⟨p0, p1, p2, p3, p4⟩ := hG.2.2.2.1 l h0 l4
  have q4' := q4 h1
  by_cases t : F 13 f l 1 = -1
  · have e : lDrive F f l = F := by unfold lDrive; rw [if_pos t]
    have hz := p3 t
    rw [e, if_pos (by omega), Int.sub_zero, sup_self]
    exact h
  · have hlt := p4 t
    have hz : ¬ z (61 + l) = 0 := by omega
    rw [if_neg hz]
    have hI' : ∀ n : Int, zJ n → XInR (sup z (61 + l) (z (61 + l) - 1) n) := sup_in h.1 (fun _ => ⟨by omega, by omega⟩)
    have hz57 : sup z (61 + l) (z (61 + l) - 1) (57 + l) = z (57 + l) := sup_ne (by omega)
    have hz61 : sup z (61 + l) (z (61 + l) - 1) (61 + l) = z (61 + l) - 1 := sup_eq
    have hz65 : sup z (61 + l) (z (61 + l) - 1) (65 + l) = z (65 + l) := sup_ne (by omega)
    have hz69 : sup z (61 + l) (z (61 + l) - 1) (69 + l) = z (69 + l) := sup_ne (by omega)
    by_cases s : F 13 f l 2 - 1 < 1
    · have e : lDrive F f l = xup (xup (xup (xup F 13 f l 2 (F 13 f l 2 - 1)) 13 f l 0 (F 13 f l 1)) 13 f l 1 (-1)) 13 f l 2 0 := by unfold lDrive; rw [if_neg t, if_pos s]
      rw [e]
      refine GZ_L h hG.1 (fun t ht => by simp only [xup_tag ht]) (fun l' s hl => by simp only [xup_app, hl, and_false, false_and, if_false]) (by simp only [xup_app, Int.reduceEq, and_false, if_false]) (fun n _ a _ _ => sup_ne a) h0 l4 hI' ?_
      unfold gL1
      rw [hz57, hz61, hz65, hz69]
      simp only [xup_app, Nat.reduceEqDiff, Int.reduceEq, and_self, and_true, true_and, false_and, and_false, if_true, if_false]
      omega
    · have e : lDrive F f l = xup F 13 f l 2 (F 13 f l 2 - 1) := by unfold lDrive; rw [if_neg t, if_neg s]
      rw [e]
      refine GZ_L h hG.1 (fun t ht => xup_tag ht) (fun l' s hl => by simp only [xup_app, hl, and_false, false_and, if_false]) (by simp only [xup_app, Int.reduceEq, and_false, if_false]) (fun n _ a _ _ => sup_ne a) h0 l4 hI' ?_
      unfold gL1
      rw [hz57, hz61, hz65, hz69]
      simp only [xup_app, Nat.reduceEqDiff, Int.reduceEq, and_self, and_true, true_and, false_and, and_false, if_true, if_false]
      omega
/-- a pot cooks -/
theorem sup_0 (z : Int → Int) (n : Int) : sup z n (z n + 0) = z := by rw [Int.add_zero, sup_self]
theorem GZ_cook {A c b : Int} {F : XM} {f k : Int} {z : Int → Int} (hA : 0 ≤ A) (h : GZ A F f z) (hG : fI c b F f) (hb : b ≤ 2000000) (h0 : 0 ≤ k) (h1 : k < F 1 f 0 6) {v : Int} (hv : v = min (z (48 + k)) (z 4)) :
    GZ A (kCook F f k (F 1 f 0 0) (F 2 f 0 4)) f (sup (sup (sup (sup z (217 + 192 * k + mS (z (45 + k)) (z 10)) (z (217 + 192 * k + mS (z (45 + k)) (z 10)) + v)) (48 + k) (z (48 + k) - v)) (51 + k) (z (51 + k) + v)) 11 (z 11 + v)) := by
  have c6 := hG.1.2.1
  have c0 := hG.1.2.2.2.2.1
  have k3 : k < 3 := by omega
  have sp := hG.1.2.2.2.2.2.2.2.2.2.1
  have kf := hG.2.2.1 k h0 k3
  have hh := h
  obtain ⟨hI, hS, hC, hT, hP, hK, hL, hU, hM⟩ := h
  have z4 := hS 4 (by decide) (by decide)
  have z10 := hC.2.2.2.2
  have hk := hK k h0 k3
  obtain ⟨k33, k45, k45b, k48, k51, k54, kw, kn, kc⟩ := hk
  have hd := mS_in (m := z 10) k45.1 k45.2
  by_cases hp : 0 < F 8 f k 3
  · have ed := k45b hp
    have ev : v = min (F 2 f 0 4) (F 8 f k 3) := by rw [hv, k48, z4]; omega
    have ek : kCook F f k (F 1 f 0 0) (F 2 f 0 4) = (if F 8 f k 3 - v = 0 then xup (xup (xup (mPut F f k (F 8 f k 2) (F 1 f 0 0) v) 8 f k 5 (F 8 f k 5 + v)) 8 f k 3 (F 8 f k 3 - v)) 8 f k 2 (-1) else xup (xup (mPut F f k (F 8 f k 2) (F 1 f 0 0) v) 8 f k 5 (F 8 f k 5 + v)) 8 f k 3 (F 8 f k 3 - v)) := by
      unfold kCook
      rw [if_pos hp, ← ev]
    obtain ⟨F', eF⟩ : ∃ F' : XM, F' = kCook F f k (F 1 f 0 0) (F 2 f 0 4) := ⟨_, rfl⟩
    rw [← eF]
    have ht : ∀ t : Nat, ¬ t = 8 → ¬ t = 11 → ¬ t = 12 → F' t = F t := fun t a b c => by rw [eF]; exact kCook_tag a b c
    have e1 := ht 1 (by decide) (by decide) (by decide)
    have h8n : ∀ k' s : Int, ¬ k' = k → F' 8 f k' s = F 8 f k' s := fun k' s hk' => by
      rw [eF, ek]
      split <;> simp only [xup_app, mPut, mset_app, hk', and_false, false_and, if_false, Nat.reduceEqDiff]
    have h80 : F' 8 f k 0 = F 8 f k 0 := by
      rw [eF, ek]
      split <;> simp only [xup_app, mPut, mset_app, and_false, false_and, if_false, Nat.reduceEqDiff, Int.reduceEq]
    have h86 : F' 8 f k 6 = F 8 f k 6 := by
      rw [eF, ek]
      split <;> simp only [xup_app, mPut, mset_app, and_false, false_and, if_false, Nat.reduceEqDiff, Int.reduceEq]
    have h85 : F' 8 f k 5 = F 8 f k 5 + v := by
      rw [eF, ek]
      split <;> simp only [xup_app, and_self, and_false, if_true, if_false, Int.reduceEq]
    have h83 : F' 8 f k 3 = F 8 f k 3 - v := by
      rw [eF, ek]
      split <;> simp only [xup_app, and_self, and_false, if_true, if_false, Int.reduceEq]
    have h82 : F' 8 f k 2 = if F 8 f k 3 - v = 0 then -1 else F 8 f k 2 := by
      rw [eF, ek]
      split
      · simp only [xup_app, and_self, if_true]
      · simp only [xup_app, mPut, mset_app, and_false, false_and, if_false, Nat.reduceEqDiff, Int.reduceEq]
    have h11n : ∀ j : Int, ¬ j = k → F' 11 f j = F 11 f j := fun j hj => by
      funext x
      rw [eF, ek]
      split <;> simp only [xup_app, mPut, mset_app, hj, and_false, false_and, if_false, Nat.reduceEqDiff]
    have h11 : F' 11 f k = sup (F 11 f k) (mS (F 8 f k 2) (F 1 f 0 0)) (F 11 f k (mS (F 8 f k 2) (F 1 f 0 0)) + v) := by
      funext x
      rw [eF, ek]
      split <;> simp only [xup_app, mPut, mset_app, and_self, if_true, false_and, if_false, Nat.reduceEqDiff]
    have hm0 := (hM k h0 (by omega)).1 _ hd.1 hd.2
    have hs := (fS_at hG.2.1 hb h0 (by omega)).2 _ hd.1 hd.2
    have ez := fun n (a : ¬ n = 217 + 192 * k + mS (z (45 + k)) (z 10)) (b : ¬ n = 48 + k) (c : ¬ n = 51 + k) (d : ¬ n = 11) => (show (sup (sup (sup (sup z (217 + 192 * k + mS (z (45 + k)) (z 10)) (z (217 + 192 * k + mS (z (45 + k)) (z 10)) + v)) (48 + k) (z (48 + k) - v)) (51 + k) (z (51 + k) + v)) 11 (z 11 + v)) n = z n by rw [sup_ne d, sup_ne c, sup_ne b, sup_ne a])
    refine ⟨sup_in (sup_in (sup_in (sup_in hI (fun _ => ⟨by omega, by omega⟩)) (fun _ => ⟨by omega, by omega⟩)) (fun g => absurd g (by unfold zJ; omega))) (fun g => absurd g (by unfold zJ; omega)), gS_c (fun n a b => ez n (by omega) (by omega) (by omega) (by omega)) (by rw [ht 2 (by decide) (by decide) (by decide)]) hS, gC_c (fun n a b => ez n (by omega) (by omega) (by omega) (by omega)) (by rw [e1]) (by rw [e1]) (by rw [e1]) (by rw [e1]) (by rw [e1]) hC, ?_, gP_c (fun n a b => ez n (by omega) (by omega) (by omega) (by omega)) (by rw [ht 3 (by decide) (by decide) (by decide)]) (by rw [ht 4 (by decide) (by decide) (by decide)]) hP, fun k' g0 g1 => ?_, gL_c (fun n a b => ez n (by omega) (by omega) (by omega) (by omega)) (fun l s _ _ _ => by rw [ht 13 (by decide) (by decide) (by decide)]) (by rw [e1]) (by rw [e1]; exact Int.le_refl _) hL, gU_c (fun n a b => ez n (by omega) (by omega) (by omega) (by omega)) (fun u s _ _ _ _ => by rw [ht 14 (by decide) (by decide) (by decide)]) (by rw [e1]) (by rw [e1]; exact Int.le_refl _) hU, fun j g0 g1 => ?_⟩
    · obtain ⟨t11, t12, t13, t14, t15, t16⟩ := hT
      have s1 : tX0_cooked F' f = tX0_cooked F f + v := by
        unfold tX0_cooked
        rw [e1, sf_up (f := ncooked F f) (g := ncooked F' f) (u := k) _ _ (fun x _ _ hx => h8n x 5 hx) h0 (by omega)]
        unfold ncooked
        rw [h85]
        omega
      have s3 : tX0_thrown F' f = tX0_thrown F f := by
        unfold tX0_thrown
        rw [e1]
        exact congr (congrArg _ (sf_congr _ _ fun x a b => by
          unfold nthrownK
          by_cases ex : x = k
          · rw [ex, h86]
          · exact h8n x 6 ex)) (sf_congr _ _ fun x a b => by unfold nthrownL; rw [ht 13 (by decide) (by decide) (by decide)])
      have s2 : tX0_served F' f = tX0_served F f := by unfold tX0_served nserved; rw [e1, ht 14 (by decide) (by decide) (by decide)]
      have s4 : tX0_cancelled F' f = tX0_cancelled F f := by unfold tX0_cancelled ncancelled; rw [e1, ht 14 (by decide) (by decide) (by decide)]
      have s5 : tX0_penalties F' f = tX0_penalties F f := by unfold tX0_penalties npenalties; rw [e1, ht 14 (by decide) (by decide) (by decide)]
      unfold gT
      rw [sup_eq, s1, s2, s3, s4, s5, e1, ez 12 (by omega) (by omega) (by omega) (by decide), ez 13 (by omega) (by omega) (by omega) (by decide), ez 14 (by omega) (by omega) (by omega) (by decide), ez 15 (by omega) (by omega) (by omega) (by decide), ez 16 (by omega) (by omega) (by omega) (by decide)]
      exact ⟨by omega, t12, t13, t14, t15, t16⟩
    · by_cases ek' : k' = k
      · subst ek'
        unfold gK1
        rw [ez (33 + k') (by omega) (by omega) (by omega) (by omega), ez (45 + k') (by omega) (by omega) (by omega) (by omega), ez (54 + k') (by omega) (by omega) (by omega) (by omega), h80, h82, h83, h85, h86, e1]
        have r48 : (sup (sup (sup (sup z (217 + 192 * k' + mS (z (45 + k')) (z 10)) (z (217 + 192 * k' + mS (z (45 + k')) (z 10)) + v)) (48 + k') (z (48 + k') - v)) (51 + k') (z (51 + k') + v)) 11 (z 11 + v)) (48 + k') = z (48 + k') - v := by rw [sup_ne (by omega), sup_ne (by omega), sup_eq]
        have r51 : (sup (sup (sup (sup z (217 + 192 * k' + mS (z (45 + k')) (z 10)) (z (217 + 192 * k' + mS (z (45 + k')) (z 10)) + v)) (48 + k') (z (48 + k') - v)) (51 + k') (z (51 + k') + v)) 11 (z 11 + v)) (51 + k') = z (51 + k') + v := by rw [sup_ne (by omega), sup_eq]
        rw [r48, r51]
        refine ⟨k33, k45, fun g => ?_, by omega, by omega, k54, fun w g2 g3 => ?_, fun g => ?_, fun g => by omega⟩
        · rw [if_neg (by omega)]
          exact ed
        · rw [ez _ (by omega) (by omega) (by omega) (by omega), ht 9 (by decide) (by decide) (by decide)]
          exact kw w g2 g3
        · rw [if_pos g]
      · exact gK1_c g0 g1 (fun n hn => ez n (by omega) (by omega) (by omega) (by omega)) (fun s _ => h8n k' s ek') (fun w _ _ => by rw [ht 9 (by decide) (by decide) (by decide)]) (by rw [e1]) (hK k' g0 g1)
    · by_cases ej : j = k
      · subst ej
        obtain ⟨m1, m2, m3⟩ := hM j g0 g1
        unfold gM1
        rw [h11, e1]
        refine ⟨fun x g2 g3 => ?_, fun d a g2 g3 g4 g5 g6 => ?_, fun g => ?_⟩
        · by_cases ex : x = mS (F 8 f j 2) (F 1 f 0 0)
          · rw [ex, sup_eq, sup_ne (by omega), sup_ne (by omega), sup_ne (by omega), ← ed, ← z10, sup_eq, hm0]
          · rw [sup_ne ex, ez _ (by rw [ed, z10]; omega) (by omega) (by omega) (by omega)]
            exact m1 x g2 g3
        · rw [sup_ne (fun q => by have := mS_ne q ⟨g2, g3⟩ ⟨by omega, by omega⟩ g4 g5; omega)]
          exact m2 d a g2 g3 g4 g5 g6
        · unfold gNo at g
          rw [if_pos (by omega), e1] at g
          omega
      · exact gM1_c (fun n a b => ez n (by omega) (by omega) (by omega) (by omega)) (fun x _ _ => by rw [h11n j ej]) (by rw [e1]) (gNo_c (by rw [e1]) (by rw [e1])) (hM j g0 g1)
  · have ev : v = 0 := by rw [hv, k48, z4]; omega
    have e : kCook F f k (F 1 f 0 0) (F 2 f 0 4) = F := by unfold kCook; rw [if_neg hp]
    rw [e, ev, Int.sub_zero, sup_0, sup_self, sup_0, sup_0]
    exact hh
end XR6

