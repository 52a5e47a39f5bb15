section XMi
theorem fC_congr {M M' : XM} {i : Int} (h1 : ∀ s : Int, ¬ s = 1 → M' 1 i 0 s = M 1 i 0 s) (h2 : M' 2 i = M 2 i) (h3 : M' 3 i = M 3 i) (h4 : M' 4 i = M 4 i) (h : fC M i) : fC M' i := by
  unfold fC at h ⊢
  rw [h1 0 (by decide), h1 3 (by decide), h1 6 (by decide), h1 8 (by decide), h1 10 (by decide), h2, h3, h4]
  exact h
theorem fS_congr {b : Int} {M M' : XM} {i : Int} (h1 : M' 11 i = M 11 i) (h2 : M' 12 i = M 12 i) (h : fS b M i) : fS b M' i := by
  unfold fS mI at h ⊢
  rw [h1, h2]
  exact h
theorem fK_congr {M M' : XM} {i : Int} (h1 : ∀ k s : Int, s = 0 ∨ s = 2 ∨ s = 3 → M' 8 i k s = M 8 i k s) (h2 : M' 9 i = M 9 i) (h : fK M i) : fK M' i := by
  intro k h0 h3
  unfold kSt
  rw [h1 k 0 (by simp), h1 k 2 (by simp), h1 k 3 (by simp), h2]
  exact h k h0 h3
theorem fL_congr {M M' : XM} {i : Int} (h1 : ∀ l s : Int, s = 0 ∨ s = 1 ∨ s = 2 → M' 13 i l s = M 13 i l s) (h : fL M i) : fL M' i := by
  intro l h0 h3
  rw [h1 l 0 (by simp), h1 l 1 (by simp), h1 l 2 (by simp)]
  exact h l h0 h3
theorem fU_congr {c : Int} {M M' : XM} {i : Int} (h1 : M' 14 i = M 14 i) (h2 : M' 1 i 0 1 = M 1 i 0 1) (h : fU c M i) : fU c M' i := by
  unfold fU uG at h ⊢
  rw [h1, h2]
  exact h
theorem fI_mono {c b c' b' : Int} {M : XM} {i : Int} (h : fI c b M i) (hc : c ≤ c') (hb : b ≤ b') : fI c' b' M i :=
  ⟨h.1, ⟨h.2.1.1, fun x h0 h1 => Int.le_trans (h.2.1.2 x h0 h1) hb⟩, h.2.2.1, h.2.2.2.1, h.2.2.2.2.1, h.2.2.2.2.2.1, Int.le_trans h.2.2.2.2.2.2 hc⟩
theorem sm_fun (S : Int → Int) (x v : Int) : (fun j => if j = x then v else S j) = sup S x v := rfl
/-- one store's meals changed -/
theorem fS_mset {b e : Int} {M : XM} {i j : Int} {S : Int → Int} (h : fS b M i) (h0 : 0 ≤ j) (h1 : j < 7) (hS : ∀ x : Int, 0 ≤ x → x < 192 → 0 ≤ S x ∧ S x ≤ M 11 i j x + e) : fS (b + e) (mset M i j S) i := by
  refine ⟨fun j' g0 g1 => ?_, fun x g0 g1 => ?_⟩
  · by_cases ej : j' = j
    · subst ej
      refine ⟨mI_mset M i j' S, fun x q0 q1 => ?_⟩
      rw [mset_11]
      exact (hS x q0 q1).1
    · have hne : ¬ (i = i ∧ j' = j) := fun z => ej z.2
      refine ⟨mI_ne hne (h.1 j' g0 g1).1, fun x q0 q1 => ?_⟩
      rw [mset_ne hne]
      exact (h.1 j' g0 g1).2 x q0 q1
  · have e1 : (fun j' => mset M i j S 11 i j' x) = sup (fun j' => M 11 i j' x) j (S x) := by
      funext j'
      simp only [mset_app, sup, true_and, Nat.reduceEqDiff, false_and, if_false]
    rw [e1, sm_sup]
    have := h.2 x g0 g1
    have := hS x g0 g1
    rw [if_pos (by omega)]
    omega
theorem tkL_le : ∀ (L : List Int) (S : Int → Int) (w : Int), (∀ x ∈ L, 0 ≤ x ∧ x < 192) → (∀ x : Int, 0 ≤ x → x < 192 → 0 ≤ S x) → 0 ≤ w → ∀ x : Int, 0 ≤ x → x < 192 → 0 ≤ (tkL L S w).1 x ∧ (tkL L S w).1 x ≤ S x
  | [], S, w, _, h, _, x, h0, h1 => ⟨h x h0 h1, Int.le_refl _⟩
  | y :: L, S, w, hL, hS, hw, x, h0, h1 => by
    have hy := hL y List.mem_cons_self
    have h2 := hS y hy.1 hy.2
    have ih := tkL_le L (sup S y (S y - min w (S y))) (w - min w (S y)) (fun z hz => hL z (List.mem_cons_of_mem _ hz)) (fun z g0 g1 => by
      simp only [sup]
      split
      · omega
      · exact hS z g0 g1) (by omega) x h0 h1
    simp only [tkL]
    refine ⟨ih.1, Int.le_trans ih.2 ?_⟩
    simp only [sup]
    split
    next e =>
      subst e
      omega
    next => exact Int.le_refl _
theorem tkL_left : ∀ (L : List Int) (S : Int → Int) (w : Int), (∀ x ∈ L, 0 ≤ x ∧ x < 192) → (∀ x : Int, 0 ≤ x → x < 192 → 0 ≤ S x) → 0 ≤ w → 0 ≤ (tkL L S w).2 ∧ (tkL L S w).2 ≤ w
  | [], S, w, _, _, hw => ⟨hw, Int.le_refl _⟩
  | y :: L, S, w, hL, hS, hw => by
    have hy := hL y List.mem_cons_self
    have h2 := hS y hy.1 hy.2
    have ih := tkL_left L (sup S y (S y - min w (S y))) (w - min w (S y)) (fun z hz => hL z (List.mem_cons_of_mem _ hz)) (fun z g0 g1 => by
      simp only [sup]
      split
      · omega
      · exact hS z g0 g1) (by omega)
    simp only [tkL]
    exact ⟨ih.1, by omega⟩
theorem dkL_in192 {meat now : Int} {n : Nat} : ∀ x ∈ agL (dkL meat) now n, 0 ≤ x ∧ x < 192 := fun x hx => inK_in (agL_mem (f := dkL meat) (fun m => dkL_in (meat := meat) m) n x hx)
/-- one behind another -/
def xit (f : Int → XM → XM) : Nat → Int → XM → XM
  | 0, _, M => M
  | n + 1, u, M => xit f n (u + 1) (f u M)
theorem xit_ind {f : Int → XM → XM} {P : XM → Prop} {lo hi : Int} (h : ∀ (u : Int) (M : XM), lo ≤ u → u < hi → P M → P (f u M)) : ∀ (n : Nat) (u : Int) (M : XM), lo ≤ u → u + n ≤ hi → P M → P (xit f n u M)
  | 0, _, _, _, _, hp => hp
  | n + 1, u, M, h0, h1, hp => xit_ind h n (u + 1) (f u M) (by omega) (by omega) (h u M h0 (by omega) hp)
/-- what a minute does, step by step -/
def pDrive (M : XM) (i : Int) : XM := xit (fun l M => lDrive M i l) (M 1 i 0 8).toNat 0 M
def pCook (M : XM) (i : Int) : XM := xit (fun k M => kCook M i k (M 1 i 0 0) (M 2 i 0 4)) (M 1 i 0 6).toNat 0 M
def thS (M : XM) (i j : Int) : Int → Int := zrL (thL (M 1 i 0 0) (M 2 i 0 3 + 1) (63 - M 2 i 0 3).toNat) (M 11 i j)
def thK (i k : Int) (M : XM) : XM := xup (mset M i k (thS M i k)) 8 i k 6 (M 8 i k 6 + (tot3 (M 11 i k) - tot3 (thS M i k)))
def thLo (i l : Int) (M : XM) : XM := xup (mset M i (l + 3) (thS M i (l + 3))) 13 i l 5 (M 13 i l 5 + (tot3 (M 11 i (l + 3)) - tot3 (thS M i (l + 3))))
def pThrow (M : XM) (i : Int) : XM := xit (thLo i) (M 1 i 0 8).toNat 0 (xit (thK i) (M 1 i 0 6).toNat 0 M)
def cal (i u : Int) (M : XM) : XM := if M 14 i u 0 = 0 ∧ M 14 i u 4 = M 1 i 0 0 then uCall (xup M 1 i 0 1 (M 1 i 0 1 + M 14 i u 2)) i u (M 1 i 0 0) else M
def pCall (M : XM) (i : Int) : XM := xit (cal i) (M 1 i 0 10).toNat 0 M
/-- meals taken for those who wait at a place: out of the lorries, out of the kitchens -/
def tmR (M : XM) (i j meat w : Int) : (Int → Int) × Int := tkL (agL (dkL meat) (M 1 i 0 0) 64) (M 11 i j) w
def tmL (i p meat : Int) : Nat → Int → XM → Int → XM × Int
  | 0, _, M, w => (M, w)
  | n + 1, l, M, w => if M 13 i l 0 = p then tmL i p meat n (l + 1) (xup (mset M i (l + 3) (tmR M i (l + 3) meat w).1) 13 i l 4 (M 13 i l 4 + (w - (tmR M i (l + 3) meat w).2))) (tmR M i (l + 3) meat w).2 else tmL i p meat n (l + 1) M w
def tmK (i p meat : Int) : Nat → Int → XM → Int → XM × Int
  | 0, _, M, w => (M, w)
  | n + 1, k, M, w => if M 8 i k 0 = p then tmK i p meat n (k + 1) (mset M i k (tmR M i k meat w).1) (tmR M i k meat w).2 else tmK i p meat n (k + 1) M w
def tM (M : XM) (i p meat w : Int) : XM × Int := tmK i p meat (M 1 i 0 6).toNat 0 (tmL i p meat (M 1 i 0 8).toNat 0 M w).1 (tmL i p meat (M 1 i 0 8).toNat 0 M w).2
def sv (s meat : Int) (i u : Int) (M : XM) : XM := uServe s (tM M i (M 14 i u 1) meat (M 14 i u s)).1 i u (M 14 i u s - (tM M i (M 14 i u 1) meat (M 14 i u s)).2)
def srv (i u : Int) (M : XM) : XM := if 0 < M 14 i u 6 + M 14 i u 7 then sv 7 0 i u (sv 7 1 i u (sv 6 0 i u M)) else M
def pServe (M : XM) (i : Int) : XM := xit (srv i) (M 1 i 0 10).toNat 0 M
def pun (i u : Int) (M : XM) : XM := if ¬ M 14 i u 8 = -1 ∧ M 2 i 0 1 < M 1 i 0 0 - M 14 i u 8 then xup M 14 i u 10 (min 100000000 (M 14 i u 10 + (M 14 i u 6 + M 14 i u 7) * M 2 i 0 2)) else M
def pPunish (M : XM) (i : Int) : XM := xit (pun i) (M 1 i 0 10).toNat 0 M
def fPass (M : XM) (i : Int) : XM := pPunish (pServe (pCall (pThrow (pCook (pDrive (xup M 1 i 0 0 (M 1 i 0 0 + 1)) i) i) i) i) i) i
/-- steps keep a film's invariant -/
theorem xup_tag {M : XM} {t : Nat} {i k s v : Int} {t' : Nat} (h : ¬ t' = t) : xup M t i k s v t' = M t' := by
  funext i' k' s'
  simp only [xup_app, h, false_and, if_false]
theorem mset_tag {M : XM} {i j : Int} {S : Int → Int} {t' : Nat} (h : ¬ t' = 11) (h2 : ¬ t' = 12) : mset M i j S t' = M t' := by
  funext i' k' s'
  simp only [mset_app, h, h2, false_and, if_false]
theorem lDrive_tag {M : XM} {i l : Int} {t' : Nat} (h : ¬ t' = 13) : lDrive M i l t' = M t' := by
  unfold lDrive
  split
  · rfl
  · split <;> simp only [xup_tag h]
theorem fI_drive {c b : Int} {M : XM} {i l : Int} (h0 : 0 ≤ l) (h1 : l < 4) (h : fI c b M i) : fI c b (lDrive M i l) i := by
  obtain ⟨hC, hS, hK, hL, hU⟩ := h
  have g := hL l h0 h1
  have e : ∀ t : Nat, ¬ t = 13 → lDrive M i l t = M t := fun t ht => lDrive_tag ht
  refine ⟨fC_congr (fun s _ => by rw [e 1 (by decide)]) (by rw [e 2 (by decide)]) (by rw [e 3 (by decide)]) (by rw [e 4 (by decide)]) hC, fS_congr (by rw [e 11 (by decide)]) (by rw [e 12 (by decide)]) hS, fK_congr (fun k s _ => by rw [e 8 (by decide)]) (by rw [e 9 (by decide)]) hK, ?_, fU_congr (by rw [e 14 (by decide)]) (by rw [e 1 (by decide)]) hU⟩
  intro l' g0 g1
  have g' := hL l' g0 g1
  unfold lDrive
  split
  · exact g'
  · split
    · simp only [xup_app, true_and, Int.reduceEq, and_false, if_false, and_true]
      by_cases el : l' = l
      · subst el
        simp only [if_true]
        exact ⟨by omega, by decide, by decide, fun _ => trivial, fun h => absurd trivial h⟩
      · simp only [el, if_false]
        exact g'
    · simp only [xup_app, true_and, Int.reduceEq, and_false, if_false, and_true]
      by_cases el : l' = l
      · subst el
        simp only [if_true]
        omega
      · simp only [el, if_false]
        exact g'
theorem kCook_tag {M : XM} {i k m pace : Int} {t' : Nat} (h : ¬ t' = 8) (h1 : ¬ t' = 11) (h2 : ¬ t' = 12) : kCook M i k m pace t' = M t' := by
  unfold kCook mPut
  split
  · split <;> simp only [xup_tag h, mset_tag h1 h2]
  · rfl
theorem fI_cook {c b : Int} {M : XM} {i k m : Int} (h0 : 0 ≤ k) (h1 : k < 3) (h : fI c b M i) : fI c (b + 20) (kCook M i k m (M 2 i 0 4)) i := by
  obtain ⟨hC, hS, hK, hL, hU⟩ := h
  have g := hK k h0 h1
  have hC' := hC
  obtain ⟨c3, c6, c8, c10, c0, s0, s1, s2, s3, s4, s5, hxy⟩ := hC'
  have e : ∀ t : Nat, ¬ t = 8 → ¬ t = 11 → ¬ t = 12 → kCook M i k m (M 2 i 0 4) t = M t := fun t h1 h2 h3 => kCook_tag h1 h2 h3
  refine ⟨fC_congr (fun s _ => by rw [e 1 (by decide) (by decide) (by decide)]) (by rw [e 2 (by decide) (by decide) (by decide)]) (by rw [e 3 (by decide) (by decide) (by decide)]) (by rw [e 4 (by decide) (by decide) (by decide)]) hC, ?_, ?_, fL_congr (fun l s _ => by rw [e 13 (by decide) (by decide) (by decide)]) hL, fU_congr (by rw [e 14 (by decide) (by decide) (by decide)]) (by rw [e 1 (by decide) (by decide) (by decide)]) hU⟩
  · unfold kCook
    split
    next hp =>
      have hq : fS (b + 20) (mPut M i k (M 8 i k 2) m (min (M 2 i 0 4) (M 8 i k 3))) i := by
        unfold mPut
        refine fS_mset hS h0 (by omega) (fun x q0 q1 => ?_)
        have z := (hS.1 k h0 (by omega)).2 x q0 q1
        simp only [sup]
        split
        next ex =>
          subst ex
          omega
        next => omega
      split <;> exact fS_congr (by simp only [xup_tag (show ¬ (11 : Nat) = 8 by decide)]) (by simp only [xup_tag (show ¬ (12 : Nat) = 8 by decide)]) hq
    next => exact (fI_mono (c := c) (b := b) (c' := c) (b' := b + 20) ⟨hC, hS, hK, hL, hU⟩ (Int.le_refl _) (by omega)).2.1
  · intro k' g0 g1
    have g' := hK k' g0 g1
    have e9 : kCook M i k m (M 2 i 0 4) 9 = M 9 := e 9 (by decide) (by decide) (by decide)
    unfold kSt
    rw [e9]
    unfold kCook mPut
    split
    · split
      · simp only [xup_app, mset_app, true_and, Int.reduceEq, and_false, if_false, and_true, Nat.reduceEqDiff, false_and]
        by_cases el : k' = k
        · subst el
          simp only [if_true]
          exact ⟨g'.1, g'.2.1, by omega, by omega, by omega⟩
        · simp only [el, if_false]
          exact g'
      · simp only [xup_app, mset_app, true_and, Int.reduceEq, and_false, if_false, and_true, Nat.reduceEqDiff, false_and]
        by_cases el : k' = k
        · subst el
          simp only [if_true]
          exact ⟨g'.1, g'.2.1, by omega, by omega, by omega⟩
        · simp only [el, if_false]
          exact g'
    · exact g'
theorem zrL_le {L : List Int} {S : Int → Int} (h : ∀ x : Int, 0 ≤ x → x < 192 → 0 ≤ S x) : ∀ x : Int, 0 ≤ x → x < 192 → 0 ≤ zrL L S x ∧ zrL L S x ≤ S x := by
  intro x h0 h1
  rw [zrL_app]
  have := h x h0 h1
  split <;> omega
theorem thK_tag {M : XM} {i k : Int} {t' : Nat} (h : ¬ t' = 8) (h1 : ¬ t' = 11) (h2 : ¬ t' = 12) : thK i k M t' = M t' := by
  unfold thK
  rw [xup_tag h, mset_tag h1 h2]
theorem thLo_tag {M : XM} {i k : Int} {t' : Nat} (h : ¬ t' = 13) (h1 : ¬ t' = 11) (h2 : ¬ t' = 12) : thLo i k M t' = M t' := by
  unfold thLo
  rw [xup_tag h, mset_tag h1 h2]
theorem fI_thK {c b : Int} {M : XM} {i k : Int} (h0 : 0 ≤ k) (h1 : k < 3) (h : fI c b M i) : fI c b (thK i k M) i := by
  obtain ⟨hC, hS, hK, hL, hU⟩ := h
  have e : ∀ t : Nat, ¬ t = 8 → ¬ t = 11 → ¬ t = 12 → thK i k M t = M t := fun t h1 h2 h3 => thK_tag h1 h2 h3
  refine ⟨fC_congr (fun s _ => by rw [e 1 (by decide) (by decide) (by decide)]) (by rw [e 2 (by decide) (by decide) (by decide)]) (by rw [e 3 (by decide) (by decide) (by decide)]) (by rw [e 4 (by decide) (by decide) (by decide)]) hC, ?_, fK_congr (fun k' s hs => ?_) (by rw [e 9 (by decide) (by decide) (by decide)]) hK, fL_congr (fun l s _ => by rw [e 13 (by decide) (by decide) (by decide)]) hL, fU_congr (by rw [e 14 (by decide) (by decide) (by decide)]) (by rw [e 1 (by decide) (by decide) (by decide)]) hU⟩
  · have hq := fS_mset (b := b) (e := 0) (M := M) (i := i) (j := k) (S := thS M i k) hS h0 (by omega) (fun x q0 q1 => by
      have := zrL_le (L := thL (M 1 i 0 0) (M 2 i 0 3 + 1) (63 - M 2 i 0 3).toNat) (hS.1 k h0 (by omega)).2 x q0 q1
      unfold thS
      omega)
    rw [Int.add_zero] at hq
    exact fS_congr (by unfold thK; rw [xup_tag (by decide)]) (by unfold thK; rw [xup_tag (by decide)]) hq
  · unfold thK
    simp only [xup_app, mset_app, Nat.reduceEqDiff, false_and, if_false]
    rw [if_neg (by omega)]
theorem fI_thLo {c b : Int} {M : XM} {i l : Int} (h0 : 0 ≤ l) (h1 : l < 4) (h : fI c b M i) : fI c b (thLo i l M) i := by
  obtain ⟨hC, hS, hK, hL, hU⟩ := h
  have e : ∀ t : Nat, ¬ t = 13 → ¬ t = 11 → ¬ t = 12 → thLo i l M t = M t := fun t h1 h2 h3 => thLo_tag h1 h2 h3
  refine ⟨fC_congr (fun s _ => by rw [e 1 (by decide) (by decide) (by decide)]) (by rw [e 2 (by decide) (by decide) (by decide)]) (by rw [e 3 (by decide) (by decide) (by decide)]) (by rw [e 4 (by decide) (by decide) (by decide)]) hC, ?_, fK_congr (fun k' s hs => by rw [e 8 (by decide) (by decide) (by decide)]) (by rw [e 9 (by decide) (by decide) (by decide)]) hK, fL_congr (fun l' s hs => ?_) hL, fU_congr (by rw [e 14 (by decide) (by decide) (by decide)]) (by rw [e 1 (by decide) (by decide) (by decide)]) hU⟩
  · have hq := fS_mset (b := b) (e := 0) (M := M) (i := i) (j := l + 3) (S := thS M i (l + 3)) hS (by omega) (by omega) (fun x q0 q1 => by
      have := zrL_le (L := thL (M 1 i 0 0) (M 2 i 0 3 + 1) (63 - M 2 i 0 3).toNat) (hS.1 (l + 3) (by omega) (by omega)).2 x q0 q1
      unfold thS
      omega)
    rw [Int.add_zero] at hq
    exact fS_congr (by unfold thLo; rw [xup_tag (by decide)]) (by unfold thLo; rw [xup_tag (by decide)]) hq
  · unfold thLo
    simp only [xup_app, mset_app, Nat.reduceEqDiff, false_and, if_false]
    rw [if_neg (by omega)]
theorem uCall_tag {M : XM} {i u now : Int} {t' : Nat} (h : ¬ t' = 14) : uCall M i u now t' = M t' := by
  unfold uCall
  simp only [xup_tag h]
theorem cal_tag {M : XM} {i u : Int} {t' : Nat} (h : ¬ t' = 14) (h1 : ¬ t' = 1) : cal i u M t' = M t' := by
  unfold cal
  split
  · rw [uCall_tag h, xup_tag h1]
  · rfl
theorem cal_1 {M : XM} {i u s : Int} (h : ¬ s = 1) : cal i u M 1 i 0 s = M 1 i 0 s := by
  unfold cal
  split
  · rw [uCall_tag (by decide)]
    simp only [xup_app, h, and_false, if_false]
  · rfl
theorem fU_up {c e : Int} {M M' : XM} {i u : Int} (h0 : 0 ≤ u) (h1 : u < 12) (h : fU c M i) (hn : ∀ v : Int, ¬ v = u → M' 14 i v = M 14 i v) (hc : M' 1 i 0 1 = M 1 i 0 1 + e) (hg : uG M' i u = uG M i u + e)
    (hu : (0 ≤ M' 14 i u 0 ∧ M' 14 i u 0 ≤ 2) ∧ (0 ≤ M' 14 i u 1 ∧ M' 14 i u 1 < 8) ∧ (0 ≤ M' 14 i u 3 ∧ M' 14 i u 3 ≤ M' 14 i u 2 ∧ M' 14 i u 2 ≤ 300) ∧ (0 ≤ M' 14 i u 4 ∧ M' 14 i u 4 ≤ 50000) ∧ (0 ≤ M' 14 i u 5 ∧ M' 14 i u 5 ≤ 600) ∧ (0 ≤ M' 14 i u 6 ∧ 0 ≤ M' 14 i u 7) ∧ (-1 ≤ M' 14 i u 8 ∧ M' 14 i u 8 ≤ 30000) ∧ (0 ≤ M' 14 i u 9 ∧ 0 ≤ M' 14 i u 11) ∧ (0 ≤ M' 14 i u 10 ∧ M' 14 i u 10 ≤ 100000000)) : fU (c + e) M' i := by
  refine ⟨fun v g0 g1 => ?_, ?_, by have := h.2.2; omega⟩
  · by_cases ev : v = u
    · subst ev
      exact hu
    · rw [hn v ev]
      exact h.1 v g0 g1
  · have e1 : uG M' i = sup (uG M i) u (uG M' i u) := by
      funext v
      simp only [sup]
      split
      next ev => rw [ev]
      next ev =>
        unfold uG
        rw [hn v ev]
    rw [e1, sm_sup, if_pos (by omega), h.2.1, hg, hc]
    omega
theorem fI_cal {c b : Int} {M : XM} {i u : Int} (h0 : 0 ≤ u) (h1 : u < 12) (h : fI c b M i) : fI (c + 300) b (cal i u M) i := by
  obtain ⟨hC, hS, hK, hL, hU⟩ := h
  have g := hU.1 u h0 h1
  have e : ∀ t : Nat, ¬ t = 14 → ¬ t = 1 → cal i u M t = M t := fun t h1 h2 => cal_tag h1 h2
  have hm := hC.2.2.2.2.1
  refine ⟨fC_congr (fun s hs => cal_1 hs) (by rw [e 2 (by decide) (by decide)]) (by rw [e 3 (by decide) (by decide)]) (by rw [e 4 (by decide) (by decide)]) hC, fS_congr (by rw [e 11 (by decide) (by decide)]) (by rw [e 12 (by decide) (by decide)]) hS, fK_congr (fun k s _ => by rw [e 8 (by decide) (by decide)]) (by rw [e 9 (by decide) (by decide)]) hK, fL_congr (fun l s _ => by rw [e 13 (by decide) (by decide)]) hL, ?_⟩
  by_cases hq : M 14 i u 0 = 0 ∧ M 14 i u 4 = M 1 i 0 0
  · have hx : fU (c + M 14 i u 2) (cal i u M) i := by
      refine fU_up h0 h1 hU (fun v hv => ?_) ?_ ?_ ?_
      · funext s
        unfold cal uCall
        rw [if_pos hq]
        simp only [xup_app, hv, Nat.reduceEqDiff, false_and, and_false, if_false]
      · unfold cal
        rw [if_pos hq, uCall_tag (by decide)]
        simp only [xup_app, and_self, if_true]
      · unfold cal uCall uG
        rw [if_pos hq]
        simp only [xup_app, true_and, Int.reduceEq, and_false, if_false, and_self, if_true, Nat.reduceEqDiff, false_and]
        omega
      · unfold cal uCall
        rw [if_pos hq]
        simp only [xup_app, true_and, Int.reduceEq, and_false, if_false, and_self, if_true, Nat.reduceEqDiff, false_and]
        refine ⟨g.1, g.2.1, g.2.2.1, by omega, g.2.2.2.2.1, by omega, ?_, g.2.2.2.2.2.2.2⟩
        split <;> omega
    exact ⟨hx.1, hx.2.1, by have := hx.2.2; omega⟩
  · unfold cal
    rw [if_neg hq]
    exact ⟨hU.1, hU.2.1, by have := hU.2.2; omega⟩
/-- taking meals: what stays -/
def tQ (M M' : XM) (i : Int) : Prop := (∀ t : Nat, ¬ t = 11 → ¬ t = 12 → ¬ t = 13 → M' t = M t) ∧ ∀ l s : Int, ¬ s = 4 → M' 13 i l s = M 13 i l s
theorem tQ_refl (M : XM) (i : Int) : tQ M M i := ⟨fun _ _ _ _ => rfl, fun _ _ _ => rfl⟩
theorem tQ_trans {M M' M'' : XM} {i : Int} (h : tQ M M' i) (h' : tQ M' M'' i) : tQ M M'' i := ⟨fun t a b c => (h'.1 t a b c).trans (h.1 t a b c), fun l s a => (h'.2 l s a).trans (h.2 l s a)⟩
theorem tmL_q {i p meat : Int} : ∀ (n : Nat) (l : Int) (M : XM) (w : Int), tQ M (tmL i p meat n l M w).1 i
  | 0, _, M, _ => tQ_refl M i
  | n + 1, l, M, w => by
    simp only [tmL]
    split
    · refine tQ_trans ⟨fun t a b c => ?_, fun l' s a => ?_⟩ (tmL_q n (l + 1) _ _)
      · rw [xup_tag c, mset_tag a b]
      · simp only [xup_app, mset_app, a, and_false, if_false, Nat.reduceEqDiff, false_and]
    · exact tmL_q n (l + 1) M w
theorem tmK_q {i p meat : Int} : ∀ (n : Nat) (l : Int) (M : XM) (w : Int), tQ M (tmK i p meat n l M w).1 i
  | 0, _, M, _ => tQ_refl M i
  | n + 1, l, M, w => by
    simp only [tmK]
    split
    · refine tQ_trans ⟨fun t a b c => ?_, fun l' s a => ?_⟩ (tmK_q n (l + 1) _ _)
      · rw [mset_tag a b]
      · simp only [mset_app, Nat.reduceEqDiff, false_and, if_false]
    · exact tmK_q n (l + 1) M w
theorem tM_q (M : XM) (i p meat w : Int) : tQ M (tM M i p meat w).1 i := tQ_trans (tmL_q _ _ _ _) (tmK_q _ _ _ _)
theorem fI_tQ {c b : Int} {M M' : XM} {i : Int} (q : tQ M M' i) (hS : fS b M' i) (h : fI c b M i) : fI c b M' i := by
  obtain ⟨hC, -, hK, hL, hU⟩ := h
  have e := q.1
  exact ⟨fC_congr (fun s hs => by rw [e 1 (by decide) (by decide) (by decide)]) (by rw [e 2 (by decide) (by decide) (by decide)]) (by rw [e 3 (by decide) (by decide) (by decide)]) (by rw [e 4 (by decide) (by decide) (by decide)]) hC, hS, fK_congr (fun k s _ => by rw [e 8 (by decide) (by decide) (by decide)]) (by rw [e 9 (by decide) (by decide) (by decide)]) hK, fL_congr (fun l s hs => q.2 l s (by omega)) hL, fU_congr (by rw [e 14 (by decide) (by decide) (by decide)]) (by rw [e 1 (by decide) (by decide) (by decide)]) hU⟩
theorem fS_tm {b : Int} {M : XM} {i j meat w : Int} (h0 : 0 ≤ j) (h1 : j < 7) (hw : 0 ≤ w) (hS : fS b M i) : fS b (mset M i j (tmR M i j meat w).1) i ∧ 0 ≤ (tmR M i j meat w).2 ∧ (tmR M i j meat w).2 ≤ w := by
  have hp := (hS.1 j h0 h1).2
  have hq := fS_mset (b := b) (e := 0) (M := M) (i := i) (j := j) (S := (tmR M i j meat w).1) hS h0 h1 (fun x q0 q1 => by
    have := tkL_le (agL (dkL meat) (M 1 i 0 0) 64) (M 11 i j) w dkL_in192 hp hw x q0 q1
    unfold tmR
    omega)
  rw [Int.add_zero] at hq
  exact ⟨hq, tkL_left (agL (dkL meat) (M 1 i 0 0) 64) (M 11 i j) w dkL_in192 hp hw⟩
theorem tmL_s {b i p meat : Int} : ∀ (n : Nat) (l : Int) (M : XM) (w : Int), 0 ≤ l → l + n ≤ 4 → 0 ≤ w → fS b M i → fS b (tmL i p meat n l M w).1 i ∧ 0 ≤ (tmL i p meat n l M w).2 ∧ (tmL i p meat n l M w).2 ≤ w
  | 0, _, M, w, _, _, hw, h => ⟨h, hw, Int.le_refl _⟩
  | n + 1, l, M, w, h0, h1, hw, h => by
    simp only [tmL]
    split
    · have g := fS_tm (meat := meat) (j := l + 3) (by omega) (by omega) hw h
      have ih := tmL_s (b := b) (i := i) (p := p) (meat := meat) n (l + 1) (xup (mset M i (l + 3) (tmR M i (l + 3) meat w).1) 13 i l 4 (M 13 i l 4 + (w - (tmR M i (l + 3) meat w).2))) (tmR M i (l + 3) meat w).2 (by omega) (by omega) g.2.1 (fS_congr (by rw [xup_tag (by decide)]) (by rw [xup_tag (by decide)]) g.1)
      exact ⟨ih.1, ih.2.1, Int.le_trans ih.2.2 g.2.2⟩
    · exact tmL_s n (l + 1) M w (by omega) (by omega) hw h
theorem tmK_s {b i p meat : Int} : ∀ (n : Nat) (l : Int) (M : XM) (w : Int), 0 ≤ l → l + n ≤ 3 → 0 ≤ w → fS b M i → fS b (tmK i p meat n l M w).1 i ∧ 0 ≤ (tmK i p meat n l M w).2 ∧ (tmK i p meat n l M w).2 ≤ w
  | 0, _, M, w, _, _, hw, h => ⟨h, hw, Int.le_refl _⟩
  | n + 1, l, M, w, h0, h1, hw, h => by
    simp only [tmK]
    split
    · have g := fS_tm (meat := meat) (j := l) (by omega) (by omega) hw h
      have ih := tmK_s (b := b) (i := i) (p := p) (meat := meat) n (l + 1) (mset M i l (tmR M i l meat w).1) (tmR M i l meat w).2 (by omega) (by omega) g.2.1 g.1
      exact ⟨ih.1, ih.2.1, Int.le_trans ih.2.2 g.2.2⟩
    · exact tmK_s n (l + 1) M w (by omega) (by omega) hw h
theorem tM_s {c b : Int} {M : XM} {i p meat w : Int} (hw : 0 ≤ w) (h : fI c b M i) : fI c b (tM M i p meat w).1 i ∧ 0 ≤ (tM M i p meat w).2 ∧ (tM M i p meat w).2 ≤ w := by
  have hc := h.1
  unfold fC at hc
  have g := tmL_s (b := b) (i := i) (p := p) (meat := meat) (M 1 i 0 8).toNat 0 M w (by omega) (by omega) hw h.2.1
  have g2 := tmK_s (b := b) (i := i) (p := p) (meat := meat) (M 1 i 0 6).toNat 0 _ _ (by omega) (by omega) g.2.1 g.1
  exact ⟨fI_tQ (tM_q M i p meat w) g2.1 h, g2.2.1, Int.le_trans g2.2.2 g.2.2⟩
theorem uServe_tag {s : Int} {M : XM} {i u many : Int} {t' : Nat} (h : ¬ t' = 14) : uServe s M i u many t' = M t' := by
  unfold uServe uNote
  split <;> simp only [xup_tag h]
theorem fI_serve {c b s : Int} {M : XM} {i u many : Int} (hs : s = 6 ∨ s = 7) (h0 : 0 ≤ u) (h1 : u < 12) (hm : 0 ≤ many ∧ many ≤ M 14 i u s) (h : fI c b M i) : fI c b (uServe s M i u many) i := by
  obtain ⟨hC, hS, hK, hL, hU⟩ := h
  have g := hU.1 u h0 h1
  have e : ∀ t : Nat, ¬ t = 14 → uServe s M i u many t = M t := fun t h1 => uServe_tag h1
  refine ⟨fC_congr (fun s hs => by rw [e 1 (by decide)]) (by rw [e 2 (by decide)]) (by rw [e 3 (by decide)]) (by rw [e 4 (by decide)]) hC, fS_congr (by rw [e 11 (by decide)]) (by rw [e 12 (by decide)]) hS, fK_congr (fun k s _ => by rw [e 8 (by decide)]) (by rw [e 9 (by decide)]) hK, fL_congr (fun l s _ => by rw [e 13 (by decide)]) hL, ?_⟩
  have hx : fU (c + 0) (uServe s M i u many) i := by
    refine fU_up h0 h1 hU (fun v hv => ?_) ?_ ?_ ?_
    · funext s
      unfold uServe uNote
      split <;> simp only [xup_app, hv, false_and, and_false, if_false]
    · rw [e 1 (by decide)]
      omega
    · unfold uG
      unfold uServe uNote
      rcases hs with rfl | rfl
      · split <;> simp only [xup_app, true_and, Int.reduceEq, and_false, if_false, and_self, if_true, Nat.reduceEqDiff, false_and] <;> omega
      · split <;> simp only [xup_app, true_and, Int.reduceEq, and_false, if_false, and_self, if_true, Nat.reduceEqDiff, false_and] <;> omega
    · unfold uServe uNote
      rcases hs with rfl | rfl
      · split <;> simp only [xup_app, true_and, Int.reduceEq, and_false, if_false, and_self, if_true, Nat.reduceEqDiff, false_and] <;> omega
      · split <;> simp only [xup_app, true_and, Int.reduceEq, and_false, if_false, and_self, if_true, Nat.reduceEqDiff, false_and] <;> omega
  rw [Int.add_zero] at hx
  exact hx
theorem sv_tag {s meat : Int} {M : XM} {i u : Int} {t' : Nat} (h : ¬ t' = 14) (h1 : ¬ t' = 11) (h2 : ¬ t' = 12) (h3 : ¬ t' = 13) : sv s meat i u M t' = M t' := by
  unfold sv
  rw [uServe_tag h, (tM_q M i _ meat _).1 t' h1 h2 h3]
theorem fI_sv {c b s meat : Int} {M : XM} {i u : Int} (hs : s = 6 ∨ s = 7) (h0 : 0 ≤ u) (h1 : u < 12) (h : fI c b M i) : fI c b (sv s meat i u M) i := by
  have hw : 0 ≤ M 14 i u s := by
    have := h.2.2.2.2.1 u h0 h1
    rcases hs with rfl | rfl <;> omega
  have g := tM_s (c := c) (b := b) (M := M) (i := i) (p := M 14 i u 1) (meat := meat) (w := M 14 i u s) hw h
  unfold sv
  refine fI_serve hs h0 h1 ⟨by omega, ?_⟩ g.1
  rw [(tM_q M i (M 14 i u 1) meat (M 14 i u s)).1 14 (by decide) (by decide) (by decide)]
  omega
theorem srv_tag {M : XM} {i u : Int} {t' : Nat} (h : ¬ t' = 14) (h1 : ¬ t' = 11) (h2 : ¬ t' = 12) (h3 : ¬ t' = 13) : srv i u M t' = M t' := by
  unfold srv
  split
  · rw [sv_tag h h1 h2 h3, sv_tag h h1 h2 h3, sv_tag h h1 h2 h3]
  · rfl
theorem fI_srv {c b : Int} {M : XM} {i u : Int} (h0 : 0 ≤ u) (h1 : u < 12) (h : fI c b M i) : fI c b (srv i u M) i := by
  unfold srv
  split
  · exact fI_sv (Or.inr rfl) h0 h1 (fI_sv (Or.inr rfl) h0 h1 (fI_sv (Or.inl rfl) h0 h1 h))
  · exact h
theorem pun_tag {M : XM} {i u : Int} {t' : Nat} (h : ¬ t' = 14) : pun i u M t' = M t' := by
  unfold pun
  split
  · rw [xup_tag h]
  · rfl
theorem fI_pun {c b : Int} {M : XM} {i u : Int} (h0 : 0 ≤ u) (h1 : u < 12) (h : fI c b M i) : fI c b (pun i u M) i := by
  obtain ⟨hC, hS, hK, hL, hU⟩ := h
  have g := hU.1 u h0 h1
  have e : ∀ t : Nat, ¬ t = 14 → pun i u M t = M t := fun t h1 => pun_tag h1
  refine ⟨fC_congr (fun s hs => by rw [e 1 (by decide)]) (by rw [e 2 (by decide)]) (by rw [e 3 (by decide)]) (by rw [e 4 (by decide)]) hC, fS_congr (by rw [e 11 (by decide)]) (by rw [e 12 (by decide)]) hS, fK_congr (fun k s _ => by rw [e 8 (by decide)]) (by rw [e 9 (by decide)]) hK, fL_congr (fun l s _ => by rw [e 13 (by decide)]) hL, ?_⟩
  have hm : 0 ≤ (M 14 i u 6 + M 14 i u 7) * M 2 i 0 2 := Int.mul_nonneg (by omega) hC.2.2.2.2.2.2.2.1.1
  have hx : fU (c + 0) (pun i u M) i := by
    refine fU_up h0 h1 hU (fun v hv => ?_) ?_ ?_ ?_
    · funext s
      unfold pun
      split
      · simp only [xup_app, hv, false_and, and_false, if_false]
      · rfl
    · rw [e 1 (by decide)]
      omega
    · unfold uG
      unfold pun
      split <;> (try simp only [xup_app, true_and, Int.reduceEq, and_false, if_false, and_self, if_true, Nat.reduceEqDiff, false_and]) <;> omega
    · unfold pun
      split
      · simp only [xup_app, true_and, Int.reduceEq, and_false, if_false, and_self, if_true, Nat.reduceEqDiff, false_and]
        omega
      · exact g
  rw [Int.add_zero] at hx
  exact hx
end XMi

