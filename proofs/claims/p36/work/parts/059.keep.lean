section XRp
/-! every operation keeps the film's bounds -/
theorem sup_ne {S : Int → Int} {x v y : Int} (h : ¬ y = x) : sup S x v y = S y := if_neg h
theorem fI_u {c b : Int} {F F' : XM} {f u : Int} (h : fI c b F f) (ht : ∀ t : Nat, ¬ t = 14 → F' t = F t) (h0 : 0 ≤ u) (h1 : u < 12) (hn : ∀ v : Int, ¬ v = u → F' 14 f v = F 14 f v) (hg : uG F' f u = uG F f u)
    (hu : (0 ≤ F' 14 f u 0 ∧ F' 14 f u 0 ≤ 2) ∧ (0 ≤ F' 14 f u 1 ∧ F' 14 f u 1 < 8) ∧ (0 ≤ F' 14 f u 3 ∧ F' 14 f u 3 ≤ F' 14 f u 2 ∧ F' 14 f u 2 ≤ 300) ∧ (0 ≤ F' 14 f u 4 ∧ F' 14 f u 4 ≤ 50000) ∧ (0 ≤ F' 14 f u 5 ∧ F' 14 f u 5 ≤ 600) ∧ (0 ≤ F' 14 f u 6 ∧ 0 ≤ F' 14 f u 7) ∧ (-1 ≤ F' 14 f u 8 ∧ F' 14 f u 8 ≤ 30000) ∧ (0 ≤ F' 14 f u 9 ∧ 0 ≤ F' 14 f u 11) ∧ (0 ≤ F' 14 f u 10 ∧ F' 14 f u 10 ≤ 100000000)) : fI c b F' f := by
  obtain ⟨hC, hS, hK, hL, hU⟩ := h
  have e1 := ht 1 (by decide)
  have q := fU_up (e := 0) h0 h1 hU hn (by rw [e1]; omega) (by omega) hu
  rw [Int.add_zero] at q
  exact ⟨fC_congr (fun s _ => by rw [e1]) (by rw [ht 2 (by decide)]) (by rw [ht 3 (by decide)]) (by rw [ht 4 (by decide)]) hC, fS_congr (by rw [ht 11 (by decide)]) (by rw [ht 12 (by decide)]) hS, fK_congr (fun k s _ => by rw [ht 8 (by decide)]) (by rw [ht 9 (by decide)]) hK, fL_congr (fun l s _ => by rw [ht 13 (by decide)]) hL, q⟩
theorem fI_move {c b : Int} {F : XM} {f u p : Int} (h : fI c b F f) (h0 : 0 ≤ u) (h1 : u < 12) (hp : 0 ≤ p ∧ p < 8) : fI c b (xup F 14 f u 1 p) f := by
  have hU := h.2.2.2.2.1 u h0 h1
  have hv : ∀ s : Int, xup F 14 f u 1 p 14 f u s = if s = 1 then p else F 14 f u s := fun s => by simp only [xup_app, true_and]
  refine fI_u h (fun t a => xup_tag a) h0 h1 (fun v hv => by funext s; rw [xup_app, if_neg (fun q => hv q.2.2.1)]) (by unfold uG; simp only [hv, Int.reduceEq, if_false]) ?_
  simp only [hv, Int.reduceEq, if_false, if_true]
  exact ⟨hU.1, hp, hU.2.2.1, hU.2.2.2.1, hU.2.2.2.2.1, hU.2.2.2.2.2.1, hU.2.2.2.2.2.2.1, hU.2.2.2.2.2.2.2.1, hU.2.2.2.2.2.2.2.2⟩
theorem fI_wrap {c b : Int} {F : XM} {f u st : Int} (h : fI c b F f) (h0 : 0 ≤ u) (h1 : u < 12) (hs : 0 ≤ st ∧ st ≤ 2) (h11 : F 14 f u 11 = 0) : fI c b (uLeave (xup F 14 f u 11 (F 14 f u 6 + F 14 f u 7)) f u st) f := by
  have hU := h.2.2.2.2.1 u h0 h1
  have hv : ∀ s : Int, uLeave (xup F 14 f u 11 (F 14 f u 6 + F 14 f u 7)) f u st 14 f u s = if s = 8 then -1 else if s = 7 then 0 else if s = 6 then 0 else if s = 3 then 0 else if s = 2 then 0 else if s = 0 then st else if s = 11 then F 14 f u 6 + F 14 f u 7 else F 14 f u s := fun s => by
    unfold uLeave
    simp only [xup_app, true_and]
  refine fI_u h (fun t a => by unfold uLeave; simp only [xup_tag a]) h0 h1 (fun v hv => by funext s; unfold uLeave; simp only [xup_app, hv, false_and, and_false, if_false]) (by unfold uG; simp only [hv, Int.reduceEq, if_false, if_true]; omega) ?_
  simp only [hv, Int.reduceEq, if_false, if_true]
  omega
theorem fI_less {c b : Int} {F : XM} {f u n g : Int} (h : fI c b F f) (h0 : 0 ≤ u) (h1 : u < 12) (hg : 0 ≤ F 14 f u 3 - g ∧ F 14 f u 3 - g ≤ F 14 f u 2 - n ∧ F 14 f u 2 - n ≤ 300) : fI c b (xup (xup F 14 f u 2 (F 14 f u 2 - n)) 14 f u 3 (F 14 f u 3 - g)) f := by
  have hU := h.2.2.2.2.1 u h0 h1
  have hv : ∀ s : Int, xup (xup F 14 f u 2 (F 14 f u 2 - n)) 14 f u 3 (F 14 f u 3 - g) 14 f u s = if s = 3 then F 14 f u 3 - g else if s = 2 then F 14 f u 2 - n else F 14 f u s := fun s => by simp only [xup_app, true_and]
  refine fI_u h (fun t a => by simp only [xup_tag a]) h0 h1 (fun v hv => by funext s; simp only [xup_app, hv, false_and, and_false, if_false]) (by unfold uG; simp only [hv, Int.reduceEq, if_false, if_true]) ?_
  simp only [hv, Int.reduceEq, if_false, if_true]
  omega
theorem fI_newU {c b : Int} {F : XM} {f p n g cl v : Int} (h : fI c b F f) (hlt : F 1 f 0 10 < 12) (hp : 0 ≤ p ∧ p < 8) (hn : n ≤ 300) (hg : 0 ≤ g ∧ g ≤ n) (hcl : 0 ≤ cl ∧ cl ≤ 50000) (hv : 0 ≤ v ∧ v ≤ 600) : fI c b (fNewU F f p n g cl v) f := by
  obtain ⟨hC, hS, hK, hL, hU⟩ := h
  have c10 := hC.2.2.2.1
  obtain ⟨u, eu⟩ : ∃ u : Int, u = F 1 f 0 10 := ⟨_, rfl⟩
  have hU1 := hU.1 u (by omega) (by omega)
  have h1 : ∀ s : Int, fNewU F f p n g cl v 1 f 0 s = if s = 10 then F 1 f 0 10 + 1 else F 1 f 0 s := fun s => by
    unfold fNewU
    simp only [xup_app, Nat.reduceEqDiff, true_and, false_and, if_false]
  have ht : ∀ t : Nat, ¬ t = 1 → ¬ t = 14 → fNewU F f p n g cl v t = F t := fun t a b => by unfold fNewU; simp only [xup_tag a, xup_tag b]
  have hv' : ∀ s : Int, fNewU F f p n g cl v 14 f u s = if s = 5 then v else if s = 4 then cl else if s = 3 then g else if s = 2 then n else if s = 1 then p else F 14 f u s := fun s => by
    rw [eu]
    unfold fNewU
    simp only [xup_app, Nat.reduceEqDiff, true_and, false_and, if_false]
  have hn' : ∀ w : Int, ¬ w = u → fNewU F f p n g cl v 14 f w = F 14 f w := fun w hw => by
    funext s
    rw [eu] at hw
    unfold fNewU
    simp only [xup_app, Nat.reduceEqDiff, hw, true_and, false_and, and_false, if_false]
  have q := fU_up (e := 0) (M' := fNewU F f p n g cl v) (u := u) (by omega) (by omega) hU hn' (by rw [h1]; rw [if_neg (by decide)]; omega) (by unfold uG; simp only [hv', Int.reduceEq, if_false]; omega) (by simp only [hv', Int.reduceEq, if_false, if_true]; omega)
  rw [Int.add_zero] at q
  refine ⟨?_, fS_congr (by rw [ht 11 (by decide) (by decide)]) (by rw [ht 12 (by decide) (by decide)]) hS, fK_congr (fun k s _ => by rw [ht 8 (by decide) (by decide)]) (by rw [ht 9 (by decide) (by decide)]) hK, fL_congr (fun l s _ => by rw [ht 13 (by decide) (by decide)]) hL, q⟩
  unfold fC at hC ⊢
  simp only [h1, ht 2 (by decide) (by decide), ht 3 (by decide) (by decide), ht 4 (by decide) (by decide), Int.reduceEq, if_false, if_true]
  exact ⟨hC.1, hC.2.1, hC.2.2.1, by omega, hC.2.2.2.2⟩
theorem fI_join {c b : Int} {F : XM} {f u w : Int} (h : fI c b F f) (h0 : 0 ≤ u ∧ u < 12) (h1 : 0 ≤ w ∧ w < 12) (hne : ¬ u = w) (h3 : F 14 f u 2 + F 14 f w 2 ≤ 300) : fI c b (uLeave (uTake F f w f u) f u 2) f := by
  obtain ⟨hC, hS, hK, hL, hU⟩ := h
  have Uu := hU.1 u h0.1 h0.2
  have Uw := hU.1 w h1.1 h1.2
  obtain ⟨F', eF⟩ : ∃ F' : XM, F' = uLeave (uTake F f w f u) f u 2 := ⟨_, rfl⟩
  rw [← eF]
  have ht : ∀ t : Nat, ¬ t = 14 → F' t = F t := fun t a => by rw [eF]; unfold uLeave uTake; simp only [xup_tag a]
  have hu : ∀ s : Int, F' 14 f u s = if s = 8 then -1 else if s = 7 then 0 else if s = 6 then 0 else if s = 3 then 0 else if s = 2 then 0 else if s = 0 then 2 else F 14 f u s := fun s => by
    rw [eF]
    unfold uLeave uTake
    simp only [xup_app, true_and, hne, false_and, if_false]
  have hwn : ¬ w = u := fun e => hne e.symm
  have hw : ∀ s : Int, F' 14 f w s = if s = 8 then uSince (F 14 f w 8) (F 14 f u 8) else if s = 7 then F 14 f w 7 + F 14 f u 7 else if s = 6 then F 14 f w 6 + F 14 f u 6 else if s = 3 then F 14 f w 3 + F 14 f u 3 else if s = 2 then F 14 f w 2 + F 14 f u 2 else F 14 f w s := fun s => by
    rw [eF]
    unfold uLeave uTake
    simp only [xup_app, true_and, hne, hwn, false_and, and_false, if_false, Int.reduceEq]
  have hn : ∀ v : Int, ¬ v = u → ¬ v = w → F' 14 f v = F 14 f v := fun v a b => by
    funext s
    rw [eF]
    unfold uLeave uTake
    simp only [xup_app, a, b, false_and, and_false, if_false]
  have hsi : -1 ≤ uSince (F 14 f w 8) (F 14 f u 8) ∧ uSince (F 14 f w 8) (F 14 f u 8) ≤ 30000 := by
    unfold uSince
    repeat' split
    all_goals omega
  have e1 := ht 1 (by decide)
  refine ⟨fC_congr (fun s _ => by rw [e1]) (by rw [ht 2 (by decide)]) (by rw [ht 3 (by decide)]) (by rw [ht 4 (by decide)]) hC, fS_congr (by rw [ht 11 (by decide)]) (by rw [ht 12 (by decide)]) hS, fK_congr (fun k s _ => by rw [ht 8 (by decide)]) (by rw [ht 9 (by decide)]) hK, fL_congr (fun l s _ => by rw [ht 13 (by decide)]) hL, fun v g0 g1 => ?_, ?_, by rw [e1]; exact hU.2.2⟩
  · by_cases a : v = u
    · subst a
      simp only [hu, Int.reduceEq, if_false, if_true]
      omega
    · by_cases b' : v = w
      · subst b'
        simp only [hw, Int.reduceEq, if_false, if_true]
        omega
      · rw [hn v a b']
        exact hU.1 v g0 g1
  · have ef : uG F' f = sup (sup (uG F f) w (uG F f w + (F 14 f u 6 + F 14 f u 7))) u (uG F f u - (F 14 f u 6 + F 14 f u 7)) := by
      funext v
      unfold sup
      by_cases a : v = u
      · rw [if_pos a, a]
        unfold uG
        simp only [hu, Int.reduceEq, if_false, if_true]
        omega
      · rw [if_neg a]
        by_cases b' : v = w
        · rw [if_pos b', b']
          unfold uG
          simp only [hw, Int.reduceEq, if_false, if_true]
          omega
        · rw [if_neg b']
          unfold uG
          rw [hn v a b']
    rw [ef, sm_sup, if_pos (by omega), sm_sup, if_pos (by omega), sup_ne hne, hU.2.1, e1]
    omega
theorem fI_newP {c b : Int} {F : XM} {f x y : Int} (h : fI c b F f) (hlt : F 1 f 0 3 < 8) (hx : 0 ≤ x ∧ x ≤ 99) (hy : 0 ≤ y ∧ y ≤ 99) : fI c b (fNewP F f x y) f := by
  obtain ⟨hC, hS, hK, hL, hU⟩ := h
  have h1 : ∀ s : Int, fNewP F f x y 1 f 0 s = if s = 3 then F 1 f 0 3 + 1 else F 1 f 0 s := fun s => by
    unfold fNewP
    simp only [xup_app, Nat.reduceEqDiff, true_and, false_and, if_false]
  have h3 : ∀ p : Int, fNewP F f x y 3 f 0 p = if p = F 1 f 0 3 then x else F 3 f 0 p := fun p => by
    unfold fNewP
    simp only [xup_app, Nat.reduceEqDiff, true_and, false_and, if_false]
  have h4 : ∀ p : Int, fNewP F f x y 4 f 0 p = if p = F 1 f 0 3 then y else F 4 f 0 p := fun p => by
    unfold fNewP
    simp only [xup_app, Nat.reduceEqDiff, true_and, false_and, if_false]
  have ht : ∀ t : Nat, ¬ t = 1 → ¬ t = 3 → ¬ t = 4 → fNewP F f x y t = F t := fun t a b d => by unfold fNewP; simp only [xup_tag a, xup_tag b, xup_tag d]
  refine ⟨?_, fS_congr (by rw [ht 11 (by decide) (by decide) (by decide)]) (by rw [ht 12 (by decide) (by decide) (by decide)]) hS, fK_congr (fun k s _ => by rw [ht 8 (by decide) (by decide) (by decide)]) (by rw [ht 9 (by decide) (by decide) (by decide)]) hK, fL_congr (fun l s _ => by rw [ht 13 (by decide) (by decide) (by decide)]) hL, fU_congr (by rw [ht 14 (by decide) (by decide) (by decide)]) (by rw [h1, if_neg (by decide)]) hU⟩
  have c3 := hC.1
  unfold fC at hC ⊢
  simp only [h1, ht 2 (by decide) (by decide) (by decide), Int.reduceEq, if_false, if_true]
  refine ⟨by omega, hC.2.1, hC.2.2.1, hC.2.2.2.1, hC.2.2.2.2.1, hC.2.2.2.2.2.1, hC.2.2.2.2.2.2.1, hC.2.2.2.2.2.2.2.1, hC.2.2.2.2.2.2.2.2.1, hC.2.2.2.2.2.2.2.2.2.1, hC.2.2.2.2.2.2.2.2.2.2.1, fun p a b => ?_⟩
  have q := hC.2.2.2.2.2.2.2.2.2.2.2 p a b
  rw [h3, h4]
  by_cases e : p = F 1 f 0 3
  · rw [if_pos e, if_pos e]
    exact ⟨hx, hy⟩
  · rw [if_neg e, if_neg e]
    exact q
theorem fI_newK {c b : Int} {F : XM} {f p : Int} (h : fI c b F f) (hlt : F 1 f 0 6 < 3) (hp : 0 ≤ p ∧ p < 8) : fI c b (fNewK F f p) f := by
  obtain ⟨hC, hS, hK, hL, hU⟩ := h
  have h1 : ∀ s : Int, fNewK F f p 1 f 0 s = if s = 6 then F 1 f 0 6 + 1 else F 1 f 0 s := fun s => by
    unfold fNewK
    simp only [xup_app, Nat.reduceEqDiff, true_and, false_and, if_false]
  have h8 : ∀ k s : Int, fNewK F f p 8 f k s = if k = F 1 f 0 6 ∧ s = 0 then p else F 8 f k s := fun k s => by
    unfold fNewK
    simp only [xup_app, Nat.reduceEqDiff, true_and, false_and, if_false]
  have ht : ∀ t : Nat, ¬ t = 1 → ¬ t = 8 → fNewK F f p t = F t := fun t a b => by unfold fNewK; simp only [xup_tag a, xup_tag b]
  refine ⟨?_, fS_congr (by rw [ht 11 (by decide) (by decide)]) (by rw [ht 12 (by decide) (by decide)]) hS, fun k a b' => ?_, fL_congr (fun l s _ => by rw [ht 13 (by decide) (by decide)]) hL, fU_congr (by rw [ht 14 (by decide) (by decide)]) (by rw [h1, if_neg (by decide)]) hU⟩
  · have c6 := hC.2.1
    unfold fC at hC ⊢
    simp only [h1, ht 2 (by decide) (by decide), ht 3 (by decide) (by decide), ht 4 (by decide) (by decide), Int.reduceEq, if_false, if_true]
    exact ⟨hC.1, by omega, hC.2.2⟩
  · have q := hK k a b'
    unfold kSt at q ⊢
    simp only [h8, ht 9 (by decide) (by decide), Int.reduceEq, and_false, if_false, and_true]
    refine ⟨?_, q.2⟩
    split
    · exact hp
    · exact q.1
theorem fI_newL {c b : Int} {F : XM} {f p : Int} (h : fI c b F f) (hlt : F 1 f 0 8 < 4) (hp : 0 ≤ p ∧ p < 8) : fI c b (fNewL F f p) f := by
  obtain ⟨hC, hS, hK, hL, hU⟩ := h
  have h1 : ∀ s : Int, fNewL F f p 1 f 0 s = if s = 8 then F 1 f 0 8 + 1 else F 1 f 0 s := fun s => by
    unfold fNewL
    simp only [xup_app, Nat.reduceEqDiff, true_and, false_and, if_false]
  have h8 : ∀ k s : Int, fNewL F f p 13 f k s = if k = F 1 f 0 8 ∧ s = 0 then p else F 13 f k s := fun k s => by
    unfold fNewL
    simp only [xup_app, Nat.reduceEqDiff, true_and, false_and, if_false]
  have ht : ∀ t : Nat, ¬ t = 1 → ¬ t = 13 → fNewL F f p t = F t := fun t a b => by unfold fNewL; simp only [xup_tag a, xup_tag b]
  refine ⟨?_, fS_congr (by rw [ht 11 (by decide) (by decide)]) (by rw [ht 12 (by decide) (by decide)]) hS, fK_congr (fun k s _ => by rw [ht 8 (by decide) (by decide)]) (by rw [ht 9 (by decide) (by decide)]) hK, fun l a b' => ?_, fU_congr (by rw [ht 14 (by decide) (by decide)]) (by rw [h1, if_neg (by decide)]) hU⟩
  · have c6 := hC.2.2.1
    unfold fC at hC ⊢
    simp only [h1, ht 2 (by decide) (by decide), ht 3 (by decide) (by decide), ht 4 (by decide) (by decide), Int.reduceEq, if_false, if_true]
    exact ⟨hC.1, hC.2.1, by omega, hC.2.2.2⟩
  · have q := hL l a b'
    simp only [h8, Int.reduceEq, and_false, if_false, and_true]
    refine ⟨?_, q.2⟩
    split
    · exact ⟨by omega, hp.2⟩
    · exact q.1
theorem fI_stock {c b : Int} {F : XM} {f k w v : Int} (h : fI c b F f) (hv : 0 ≤ v ∧ v ≤ 999) : fI c b (xup F 9 f k w v) f := by
  obtain ⟨hC, hS, hK, hL, hU⟩ := h
  have ht : ∀ t : Nat, ¬ t = 9 → xup F 9 f k w v t = F t := fun t a => xup_tag a
  refine ⟨fC_congr (fun s _ => by rw [ht 1 (by decide)]) (by rw [ht 2 (by decide)]) (by rw [ht 3 (by decide)]) (by rw [ht 4 (by decide)]) hC, fS_congr (by rw [ht 11 (by decide)]) (by rw [ht 12 (by decide)]) hS, fun k' a b' => ?_, fL_congr (fun l s _ => by rw [ht 13 (by decide)]) hL, fU_congr (by rw [ht 14 (by decide)]) (by rw [ht 1 (by decide)]) hU⟩
  have q := hK k' a b'
  rw [ht 8 (by decide)]
  refine ⟨q.1, fun w' c0 c1 => ?_, q.2.2⟩
  rw [xup_app]
  split
  · exact hv
  · exact q.2.1 w' c0 c1
theorem fI_fill {c b : Int} {F : XM} {f k d n : Int} (h : fI c b F f) (hk : 0 ≤ k ∧ k < 3) (hd : 0 ≤ d ∧ d ≤ 2) (hn : 1 ≤ n ∧ n ≤ 300) (he : n ≤ kEn F f k d) : fI c b (kFill F f k d n) f := by
  obtain ⟨hC, hS, hK, hL, hU⟩ := h
  have ht : ∀ t : Nat, ¬ t = 8 → ¬ t = 9 → kFill F f k d n t = F t := fun t a b => by unfold kFill; simp only [xup_tag a, xup_tag b]
  have e1 := ht 1 (by decide) (by decide)
  have h8 : ∀ k' s : Int, kFill F f k d n 8 f k' s = if k' = k ∧ s = 3 then n else if k' = k ∧ s = 2 then d else F 8 f k' s := fun k' s => by
    unfold kFill
    simp only [xup_app, Nat.reduceEqDiff, true_and, false_and, if_false]
  have h9 : ∀ k' w : Int, kFill F f k d n 9 f k' w = if k' = k ∧ w = 2 then F 9 f k 2 - n * nd d 2 else if k' = k ∧ w = 1 then F 9 f k 1 - n * nd d 1 else if k' = k ∧ w = 0 then F 9 f k 0 - n * nd d 0 else F 9 f k' w := fun k' w => by
    unfold kFill
    simp only [xup_app, Nat.reduceEqDiff, true_and, false_and, if_false]
  refine ⟨fC_congr (fun s _ => by rw [e1]) (by rw [ht 2 (by decide) (by decide)]) (by rw [ht 3 (by decide) (by decide)]) (by rw [ht 4 (by decide) (by decide)]) hC, fS_congr (by rw [ht 11 (by decide) (by decide)]) (by rw [ht 12 (by decide) (by decide)]) hS, fun k' a b' => ?_, fL_congr (fun l s _ => by rw [ht 13 (by decide) (by decide)]) hL, fU_congr (by rw [ht 14 (by decide) (by decide)]) (by rw [e1]) hU⟩
  have q := hK k' a b'
  by_cases e : k' = k
  · subst e
    have s0 := q.2.1 0 (by decide) (by decide)
    have s1 := q.2.1 1 (by decide) (by decide)
    have s2 := q.2.1 2 (by decide) (by decide)
    have hst : kSt (kFill F f k' d n) f k' := fun w c0 c1 => by
      unfold kEn at he
      rcases (show d = 0 ∨ d = 1 ∨ d = 2 by omega) with rfl | rfl | rfl <;> rcases (show w = 0 ∨ w = 1 ∨ w = 2 by omega) with rfl | rfl | rfl <;> (simp only [h9, nd, true_and, Int.reduceEq, if_true, if_false, Int.mul_one, Int.mul_zero, Int.sub_zero] at he ⊢; omega)
    refine ⟨?_, hst, ?_, ?_, ?_⟩
    · rw [h8, if_neg (by omega), if_neg (by omega)]
      exact q.1
    · rw [h8, if_neg (by omega), if_pos ⟨rfl, rfl⟩]
      omega
    · rw [h8, if_pos ⟨rfl, rfl⟩]
      omega
    · rw [h8 k' 2, if_neg (by omega), if_pos ⟨rfl, rfl⟩]
      exact fun _ => hd.1
  · refine ⟨?_, fun w c0 c1 => ?_, ?_, ?_, ?_⟩
    · rw [h8, if_neg (fun z => e z.1), if_neg (fun z => e z.1)]
      exact q.1
    · rw [h9, if_neg (fun z => e z.1), if_neg (fun z => e z.1), if_neg (fun z => e z.1)]
      exact q.2.1 w c0 c1
    · rw [h8, if_neg (fun z => e z.1), if_neg (fun z => e z.1)]
      exact q.2.2.1
    · rw [h8, if_neg (fun z => e z.1), if_neg (fun z => e z.1)]
      exact q.2.2.2.1
    · rw [h8 k' 2, h8 k' 3, if_neg (fun z => e z.1), if_neg (fun z => e z.1), if_neg (fun z => e z.1), if_neg (fun z => e z.1)]
      exact q.2.2.2.2
theorem fI_driveOp {c b : Int} {F : XM} {f l p m : Int} (h : fI c b F f) (hp : 0 ≤ p ∧ p < 8) (hm : 1 ≤ m ∧ m ≤ 10000) : fI c b (xup (xup (xup F 13 f l 2 m) 13 f l 0 (-1)) 13 f l 1 p) f := by
  obtain ⟨hC, hS, hK, hL, hU⟩ := h
  have ht : ∀ t : Nat, ¬ t = 13 → xup (xup (xup F 13 f l 2 m) 13 f l 0 (-1)) 13 f l 1 p t = F t := fun t a => by simp only [xup_tag a]
  have h13 : ∀ l' s : Int, xup (xup (xup F 13 f l 2 m) 13 f l 0 (-1)) 13 f l 1 p 13 f l' s = if l' = l ∧ s = 1 then p else if l' = l ∧ s = 0 then -1 else if l' = l ∧ s = 2 then m else F 13 f l' s := fun l' s => by simp only [xup_app, true_and]
  refine ⟨fC_congr (fun s _ => by rw [ht 1 (by decide)]) (by rw [ht 2 (by decide)]) (by rw [ht 3 (by decide)]) (by rw [ht 4 (by decide)]) hC, fS_congr (by rw [ht 11 (by decide)]) (by rw [ht 12 (by decide)]) hS, fK_congr (fun k s _ => by rw [ht 8 (by decide)]) (by rw [ht 9 (by decide)]) hK, fun l' a b' => ?_, fU_congr (by rw [ht 14 (by decide)]) (by rw [ht 1 (by decide)]) hU⟩
  have q := hL l' a b'
  simp only [h13]
  by_cases e : l' = l
  · simp only [e, true_and, Int.reduceEq, if_true, if_false]
    omega
  · simp only [e, false_and, if_false]
    exact q
end XRp

