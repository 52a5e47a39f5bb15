section XR9
/-! meals are served to one unit: in between, its row and the film's tell the same but since when -/
def gV (F : XM) (f : Int) (z : Int → Int) (u : Int) : Prop :=
  u < F 1 f 0 10 ∧ F 14 f u 0 = 0 ∧ (∀ s : Int, 0 ≤ s → s < 12 → ¬ s = 8 → z (73 + 12 * u + s) = F 14 f u s) ∧ F 14 f u 1 < F 1 f 0 3 ∧ 30 ≤ F 14 f u 5 ∧ 1 ≤ F 14 f u 2 ∧ F 14 f u 11 = 0
def gX (u : Int) (F : XM) (f : Int) (z : Int → Int) : Prop := (∀ v : Int, 0 ≤ v → v < 12 → ¬ v = u → gU1 F f z v) ∧ gV F f z u
def GZs (u : Int) (F : XM) (f : Int) (z : Int → Int) : Prop := (∀ n : Int, zJ n → XInR (z n)) ∧ gS F f z ∧ gC F f z ∧ gT F f z ∧ gP F f z ∧ gK F f z ∧ gL F f z ∧ gX u F f z ∧ gM 60 F f z
theorem GZs_of {F : XM} {f u : Int} {z : Int → Int} (h : GZ 60 F f z) (h0 : 0 ≤ u) (h12 : u < 12) (h1 : u < F 1 f 0 10) (hs : F 14 f u 0 = 0) : GZs u F f z := by
  obtain ⟨hI, hS, hC, hT, hP, hK, hL, hU, hM⟩ := h
  refine ⟨hI, hS, hC, hT, hP, hK, hL, ⟨fun v a b _ => hU v a b, h1, hs, fun s g0 g1 g8 => ?_, ?_⟩, hM⟩
  · obtain ⟨e0, e1, e9, e10, e11, -, ew, -⟩ := (hU u h0 h12).1 h1
    rcases (show s = 0 ∨ s = 1 ∨ s = 9 ∨ s = 10 ∨ s = 11 ∨ (2 ≤ s ∧ s ≤ 8) by omega) with q | q | q | q | q | q
    · rw [q]; exact e0
    · rw [q]; exact e1
    · rw [q]; exact e9
    · rw [q]; exact e10
    · rw [q]; exact e11
    · exact (ew hs).1 s q.1 q.2
  · obtain ⟨-, -, -, -, -, epl, ew, -⟩ := (hU u h0 h12).1 h1
    exact ⟨epl, (ew hs).2.1, (ew hs).2.2.1, (ew hs).2.2.2.2⟩
/-- behind the three: since when is set -/
theorem GZ_ofs {F F' : XM} {f u v : Int} {z : Int → Int} (h : GZs u F f z) (h0 : 0 ≤ u) (h12 : u < 12) (ht : ∀ t : Nat, ¬ t = 14 → F' t = F t) (hn : ∀ u' s : Int, ¬ (u' = u ∧ s = 8) → F' 14 f u' s = F 14 f u' s) (h8 : F' 14 f u 8 = v) (hv : v = -1 ↔ F 14 f u 6 + F 14 f u 7 = 0) (hvr : XInR v) : GZ 60 F' f (sup z (73 + 12 * u + 8) v) := by
  obtain ⟨hI, hS, hC, hT, hP, hK, hL, ⟨hX, v1, v2, v3, v4, v5, v6, v7⟩, hM⟩ := h
  have e1 := ht 1 (by decide)
  have s9 : ∀ u' s : Int, 9 ≤ s → F' 14 f u' s = F 14 f u' s := fun u' s hs => hn u' s (fun q => by omega)
  refine ⟨sup_in hI (fun _ => hvr), gS_c (fun n a b => sup_ne (by omega)) (by rw [ht 2 (by decide)]) hS, gC_c (fun n a b => sup_ne (by omega)) (by rw [e1]) (by rw [e1]) (by rw [e1]) (by rw [e1]) (by rw [e1]) hC, ?_, gP_c (fun n a b => sup_ne (by omega)) (by rw [ht 3 (by decide)]) (by rw [ht 4 (by decide)]) hP, gK_c (fun n a b => sup_ne (by omega)) (fun k s _ _ _ => by rw [ht 8 (by decide)]) (fun k w _ _ _ _ => by rw [ht 9 (by decide)]) (by rw [e1]) hK, gL_c (fun n a b => sup_ne (by omega)) (fun l s _ _ _ => by rw [ht 13 (by decide)]) (by rw [e1]) (by rw [e1]; exact Int.le_refl _) hL, fun w g0 g1 => ?_, gM_c (fun n a b => sup_ne (by omega)) (fun j x _ _ _ _ => by rw [ht 11 (by decide)]) (by rw [e1]) (fun j _ _ => gNo_c (by rw [e1]) (by rw [e1])) hM⟩
  · have a1 : tX0_cooked F' f = tX0_cooked F f := by unfold tX0_cooked ncooked; rw [e1, ht 8 (by decide)]
    have a3 : tX0_thrown F' f = tX0_thrown F f := by unfold tX0_thrown nthrownK nthrownL; rw [e1, ht 8 (by decide), ht 13 (by decide)]
    have a2 : tX0_served F' f = tX0_served F f := by
      unfold tX0_served
      rw [e1]
      exact sf_congr _ _ fun x _ _ => s9 x 9 (by decide)
    have a4 : tX0_cancelled F' f = tX0_cancelled F f := by
      unfold tX0_cancelled
      rw [e1]
      exact sf_congr _ _ fun x _ _ => s9 x 11 (by decide)
    have a5 : tX0_penalties F' f = tX0_penalties F f := by
      unfold tX0_penalties
      rw [e1]
      exact sf_congr _ _ fun x _ _ => s9 x 10 (by decide)
    unfold gT
    rw [a1, a2, a3, a4, a5, e1, sup_ne (by omega), sup_ne (by omega), sup_ne (by omega), sup_ne (by omega), sup_ne (by omega), sup_ne (by omega)]
    exact hT
  · by_cases e : w = u
    · subst e
      have n8 : ∀ s : Int, ¬ s = 8 → F' 14 f w s = F 14 f w s := fun s hs => hn w s (fun q => hs q.2)
      have nz : ∀ s : Int, 0 ≤ s → s < 12 → ¬ s = 8 → sup z (73 + 12 * w + 8) v (73 + 12 * w + s) = F 14 f w s := fun s a b c => by
        rw [sup_ne (by omega)]
        exact v3 s a b c
      unfold gU1 gW1
      rw [e1, n8 0 (by decide), n8 1 (by decide), n8 2 (by decide), n8 3 (by decide), n8 5 (by decide), n8 6 (by decide), n8 7 (by decide), n8 9 (by decide), n8 10 (by decide), n8 11 (by decide), h8]
      refine ⟨fun _ => ⟨nz 0 (by decide) (by decide) (by decide), nz 1 (by decide) (by decide) (by decide), nz 9 (by decide) (by decide) (by decide), nz 10 (by decide) (by decide) (by decide), nz 11 (by decide) (by decide) (by decide), v4, fun _ => ⟨fun s a b => ?_, v5, v6, hv, v7⟩, fun g => absurd v2 g⟩, fun g => by omega⟩
      by_cases g : s = 8
      · subst g
        rw [sup_eq, h8]
      · rw [n8 s g]
        exact nz s (by omega) (by omega) g
    · exact gU1_c (fun n a b => sup_ne (by omega)) (fun s _ _ => hn w s (fun q => e q.1)) (by rw [e1]) (by rw [e1]; exact Int.le_refl _) (hX w g0 g1 e)
/-- some meals go out of a store to the unit -/
theorem GZs_take {F F' : XM} {f u s j v : Int} {z z' Sz : Int → Int} (h : GZs u F f z) (hs : s = 6 ∨ s = 7) (h0 : 0 ≤ u) (h12 : u < 12) (ht : ∀ t : Nat, ¬ t = 11 → ¬ t = 12 → ¬ t = 13 → ¬ t = 14 → F' t = F t)
    (h13 : ∀ l s : Int, 0 ≤ l → l < 4 → F' 13 f l s = if l = j - 3 ∧ s = 4 then F 13 f l 4 + v else F 13 f l s) (h14 : ∀ u' s' : Int, F' 14 f u' s' = if u' = u ∧ s' = s then F 14 f u s - v else if u' = u ∧ s' = 9 then F 14 f u 9 + v else F 14 f u' s')
    (h11 : ∀ j' : Int, ¬ j' = j → F' 11 f j' = F 11 f j') (h0j : 0 ≤ j) (h1j : j < 7) (h84 : F 1 f 0 8 ≤ 4) (hj8 : 3 ≤ j → j - 3 < F 1 f 0 8) (hS : ∀ x : Int, 0 ≤ x → x < 192 → Sz x = F' 11 f j x) (hS0 : ∀ x : Int, 0 ≤ x → x < 192 → 0 ≤ F' 11 f j x ∧ F' 11 f j x ≤ F 11 f j x) (hSr : ∀ x : Int, 0 ≤ x → x < 192 → XInR (Sz x))
    (hz : ∀ n : Int, ¬ n = 12 → ¬ n = 73 + 12 * u + s → ¬ n = 73 + 12 * u + 9 → ¬ (3 ≤ j ∧ n = 62 + j) → z' n = blk z j Sz n) (z12 : z' 12 = z 12 + v) (zs : z' (73 + 12 * u + s) = z (73 + 12 * u + s) - v) (z9 : z' (73 + 12 * u + 9) = z (73 + 12 * u + 9) + v) (z65 : 3 ≤ j → z' (62 + j) = z (62 + j) + v)
    (r12 : XInR (z 12 + v)) (rs : XInR (z (73 + 12 * u + s) - v)) (r9 : XInR (z (73 + 12 * u + 9) + v)) : GZs u F' f z' := by
  obtain ⟨hI, hSt, hC, hT, hP, hK, hL, ⟨hX, v1, v2, v3, v4, v5, v6, v7⟩, hM⟩ := h
  have e1 := ht 1 (by decide) (by decide) (by decide) (by decide)
  have hb : ∀ n : Int, ¬ n = 12 → ¬ n = 73 + 12 * u + s → ¬ n = 73 + 12 * u + 9 → ¬ (3 ≤ j ∧ n = 62 + j) → ¬ (217 + 192 * j ≤ n ∧ n < 409 + 192 * j) → z' n = z n := fun n a b c d e => by rw [hz n a b c d, blk_out e]
  refine ⟨?_, gS_c (fun n a b => hb n (by omega) (by omega) (by omega) (by omega) (by omega)) (by rw [ht 2 (by decide) (by decide) (by decide) (by decide)]) hSt, gC_c (fun n a b => hb n (by omega) (by omega) (by omega) (by omega) (by omega)) (by rw [e1]) (by rw [e1]) (by rw [e1]) (by rw [e1]) (by rw [e1]) hC, ?_, gP_c (fun n a b => hb n (by omega) (by omega) (by omega) (by omega) (by omega)) (by rw [ht 3 (by decide) (by decide) (by decide) (by decide)]) (by rw [ht 4 (by decide) (by decide) (by decide) (by decide)]) hP, gK_c (fun n a b => hb n (by omega) (by omega) (by omega) (by omega) (by omega)) (fun k s _ _ _ => by rw [ht 8 (by decide) (by decide) (by decide) (by decide)]) (fun k w _ _ _ _ => by rw [ht 9 (by decide) (by decide) (by decide) (by decide)]) (by rw [e1]) hK, fun l g0 g1 => ?_, ⟨fun w g0 g1 e => ?_, ?_⟩, fun j' g0 g1 => ?_⟩
  · intro n hn
    by_cases a : n = 12
    · rw [a, z12]
      exact r12
    · by_cases b : n = 73 + 12 * u + s
      · rw [b, zs]
        exact rs
      · by_cases c : n = 73 + 12 * u + 9
        · rw [c, z9]
          exact r9
        · by_cases d : 3 ≤ j ∧ n = 62 + j
          · unfold zJ at hn
            omega
          · rw [hz n a b c d]
            exact blk_in hI hSr n hn
  · obtain ⟨t11, t12, t13, t14, t15, t16⟩ := hT
    have a1 : tX0_cooked F' f = tX0_cooked F f := by unfold tX0_cooked ncooked; rw [e1, ht 8 (by decide) (by decide) (by decide) (by decide)]
    have a3' : tX0_thrown F' f = tX0_thrown F f := by
      unfold tX0_thrown
      rw [e1]
      have q1 : nthrownK F' f = nthrownK F f := by unfold nthrownK; rw [ht 8 (by decide) (by decide) (by decide) (by decide)]
      rw [q1, sf_congr (f := nthrownL F' f) (g := nthrownL F f) _ _ (fun x a b => by unfold nthrownL; rw [h13 x 5 a (by omega), if_neg (fun q => absurd q.2 (by decide))])]
    have a2 : tX0_served F' f = tX0_served F f + v := by
      unfold tX0_served
      rw [e1, sf_up (f := nserved F f) (g := nserved F' f) (u := u) _ _ (fun x _ _ hx => by unfold nserved; rw [h14, if_neg (fun q => hx q.1), if_neg (fun q => hx q.1)]) h0 (by omega)]
      unfold nserved
      rw [h14, if_neg (by omega), if_pos ⟨rfl, rfl⟩]
      omega
    have a4 : tX0_cancelled F' f = tX0_cancelled F f := by
      unfold tX0_cancelled
      rw [e1]
      exact sf_congr _ _ fun x _ _ => by unfold ncancelled; rw [h14, if_neg (by omega), if_neg (by omega)]
    have a5 : tX0_penalties F' f = tX0_penalties F f := by
      unfold tX0_penalties
      rw [e1]
      exact sf_congr _ _ fun x _ _ => by unfold npenalties; rw [h14, if_neg (by omega), if_neg (by omega)]
    unfold gT
    rw [a1, a2, a3', a4, a5, e1, z12, hb 11 (by decide) (by omega) (by omega) (by omega) (by omega), hb 13 (by decide) (by omega) (by omega) (by omega) (by omega), hb 14 (by decide) (by omega) (by omega) (by omega) (by omega), hb 15 (by decide) (by omega) (by omega) (by omega) (by omega), hb 16 (by decide) (by omega) (by omega) (by omega) (by omega)]
    exact ⟨t11, by omega, t13, t14, t15, t16⟩
  · obtain ⟨l1, l2, l3, l4, l5⟩ := hL l g0 g1
    unfold gL1
    have i0 := h13 l 0 g0 g1
    rw [if_neg (fun q : l = j - 3 ∧ (0 : Int) = 4 => absurd q.2 (by decide))] at i0
    have i1 := h13 l 1 g0 g1
    rw [if_neg (fun q : l = j - 3 ∧ (1 : Int) = 4 => absurd q.2 (by decide))] at i1
    have i2 := h13 l 2 g0 g1
    rw [if_neg (fun q : l = j - 3 ∧ (2 : Int) = 4 => absurd q.2 (by decide))] at i2
    have i5 := h13 l 5 g0 g1
    rw [if_neg (fun q : l = j - 3 ∧ (5 : Int) = 4 => absurd q.2 (by decide))] at i5
    rw [i0, i1, i2, i5, h13 l 4 g0 g1, e1, hb (61 + l) (by omega) (by omega) (by omega) (by omega) (by omega), hb (69 + l) (by omega) (by omega) (by omega) (by omega) (by omega), hb (57 + l) (by omega) (by omega) (by omega) (by omega) (by omega)]
    by_cases e : l = j - 3
    · have q := z65 (by omega)
      rw [show 62 + j = 65 + l by omega] at q
      rw [if_pos ⟨e, rfl⟩, q]
      exact ⟨l1, by omega, l3, l4, fun g => by have := hj8 (by omega); omega⟩
    · rw [if_neg (fun q => e q.1), hb (65 + l) (by omega) (by omega) (by omega) (by omega) (by omega)]
      exact ⟨l1, l2, l3, l4, l5⟩
  · exact gU1_c (fun n a b => hb n (by omega) (by omega) (by omega) (by omega) (by omega)) (fun s' _ _ => by rw [h14, if_neg (fun q => e q.1), if_neg (fun q => e q.1)]) (by rw [e1]) (by rw [e1]; exact Int.le_refl _) (hX w g0 g1 e)
  · unfold gV
    rw [e1, h14 u 0, h14 u 1, h14 u 2, h14 u 5, h14 u 11, if_neg (by omega), if_neg (by omega), if_neg (by omega), if_neg (by omega), if_neg (by omega), if_neg (by omega), if_neg (by omega), if_neg (by omega), if_neg (by omega), if_neg (by omega)]
    refine ⟨v1, v2, fun s' g0 g1 g8 => ?_, v4, v5, v6, v7⟩
    rw [h14]
    by_cases a : s' = s
    · subst a
      rw [if_pos ⟨rfl, rfl⟩, zs, v3 s' g0 g1 g8]
    · by_cases b : s' = 9
      · subst b
        rw [if_neg (by omega), if_pos ⟨rfl, rfl⟩, z9, v3 9 (by decide) (by decide) (by decide)]
      · rw [if_neg (by omega), if_neg (by omega), hb _ (by omega) (by omega) (by omega) (by omega) (by omega)]
        exact v3 s' g0 g1 g8
  · by_cases e : j' = j
    · subst e
      obtain ⟨m1, m2, m3⟩ := hM j' g0 g1
      unfold gM1
      rw [e1]
      refine ⟨fun x a b => ?_, fun d a d0 d1 a0 a1 ha => ?_, fun g x a b => ?_⟩
      · rw [hz _ (by omega) (by omega) (by omega) (by omega), blk_at a b]
        exact hS x a b
      · have q := mS_in (m := F 1 f 0 0 - a) d0 d1
        have q2 := hS0 _ q.1 q.2
        have q3 := m2 d a d0 d1 a0 a1 ha
        omega
      · have q2 := hS0 x a b
        have q3 := m3 (gNo_c (by rw [e1]) (by rw [e1]) g) x a b
        omega
    · exact gM1_c (fun n a b => hb n (by omega) (by omega) (by omega) (by omega) (by omega)) (fun x _ _ => by rw [h11 j' e]) (by rw [e1]) (gNo_c (by rw [e1]) (by rw [e1])) (hM j' g0 g1)
end XR9

