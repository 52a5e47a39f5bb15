section XR8
/-! one unit -/
theorem GZ_U {A : Int} {F F' : XM} {f u : Int} {z z' : Int → Int} (h : GZ A F f z) (ht : ∀ t : Nat, ¬ t = 14 → ¬ t = 1 → F' t = F t) (h1 : ∀ s : Int, ¬ s = 1 → F' 1 f 0 s = F 1 f 0 s) (hn : ∀ u' s : Int, ¬ u' = u → F' 14 f u' s = F 14 f u' s) (hz : ∀ n : Int, ¬ (11 ≤ n ∧ n < 17) → ¬ (73 + 12 * u ≤ n ∧ n < 85 + 12 * u) → z' n = z n) (h0 : 0 ≤ u) (h12 : u < 12) (hJ : ∀ n : Int, zJ n → XInR (z' n)) (hT : gT F' f z') (hu : gU1 F' f z' u) : GZ A F' f z' := by
  obtain ⟨hI, hS, hC, hT0, hP, hK, hL, hU, hM⟩ := h
  refine ⟨hJ, gS_c (fun n a b => hz n (by omega) (by omega)) (by rw [ht 2 (by decide) (by decide)]) hS, gC_c (fun n a b => hz n (by omega) (by omega)) (h1 3 (by decide)) (h1 6 (by decide)) (h1 8 (by decide)) (h1 10 (by decide)) (h1 0 (by decide)) hC, hT, gP_c (fun n a b => hz n (by omega) (by omega)) (by rw [ht 3 (by decide) (by decide)]) (by rw [ht 4 (by decide) (by decide)]) hP, gK_c (fun n a b => hz n (by omega) (by omega)) (fun k s _ _ _ => by rw [ht 8 (by decide) (by decide)]) (fun k w _ _ _ _ => by rw [ht 9 (by decide) (by decide)]) (h1 6 (by decide)) hK, gL_c (fun n a b => hz n (by omega) (by omega)) (fun l s _ _ _ => by rw [ht 13 (by decide) (by decide)]) (h1 8 (by decide)) (by rw [h1 3 (by decide)]; exact Int.le_refl _) hL, fun u' g0 g1 => ?_, gM_c (fun n a b => hz n (by omega) (by omega)) (fun j x _ _ _ _ => by rw [ht 11 (by decide) (by decide)]) (h1 0 (by decide)) (fun j _ _ => gNo_c (h1 6 (by decide)) (h1 8 (by decide))) hM⟩
  by_cases e : u' = u
  · rw [e]
    exact hu
  · exact gU1_c (fun n a b => hz n (by omega) (by omega)) (fun s _ _ => hn u' s e) (h1 10 (by decide)) (by rw [h1 3 (by decide)]; exact Int.le_refl _) (hU u' g0 g1)
theorem sum_u {F F' : XM} {f u s : Int} (hn : ∀ u' s : Int, ¬ u' = u → F' 14 f u' s = F 14 f u' s) (h0 : 0 ≤ u) {c : Int} (h1 : u < c) : sf (fun u => F' 14 f u s) 0 c.toNat = sf (fun u => F 14 f u s) 0 c.toNat + (F' 14 f u s - F 14 f u s) :=
  sf_up _ _ (fun x _ _ hx => hn x s hx) h0 (by omega)
theorem gT_u {F F' : XM} {f u : Int} {z z' : Int → Int} (h : gT F f z) (ht : ∀ t : Nat, ¬ t = 14 → ¬ t = 1 → F' t = F t) (h1 : ∀ s : Int, ¬ s = 1 → F' 1 f 0 s = F 1 f 0 s) (hn : ∀ u' s : Int, ¬ u' = u → F' 14 f u' s = F 14 f u' s) (h0 : 0 ≤ u) (hu : u < F 1 f 0 10)
    (z11 : z' 11 = z 11) (z12 : z' 12 = z 12 + (F' 14 f u 9 - F 14 f u 9)) (z13 : z' 13 = z 13) (z14 : z' 14 = z 14 + (F' 1 f 0 1 - F 1 f 0 1)) (z15 : z' 15 = z 15 + (F' 14 f u 11 - F 14 f u 11)) (z16 : z' 16 = z 16 + (F' 14 f u 10 - F 14 f u 10)) : gT F' f z' := by
  obtain ⟨t11, t12, t13, t14, t15, t16⟩ := h
  have s1 : tX0_cooked F' f = tX0_cooked F f := by unfold tX0_cooked ncooked; rw [h1 6 (by decide), ht 8 (by decide) (by decide)]
  have s3 : tX0_thrown F' f = tX0_thrown F f := by unfold tX0_thrown nthrownK nthrownL; rw [h1 6 (by decide), h1 8 (by decide), ht 8 (by decide) (by decide), ht 13 (by decide) (by decide)]
  have s2 : tX0_served F' f = tX0_served F f + (F' 14 f u 9 - F 14 f u 9) := by
    unfold tX0_served
    rw [h1 10 (by decide)]
    exact sum_u hn h0 hu
  have s4 : tX0_cancelled F' f = tX0_cancelled F f + (F' 14 f u 11 - F 14 f u 11) := by
    unfold tX0_cancelled
    rw [h1 10 (by decide)]
    exact sum_u hn h0 hu
  have s5 : tX0_penalties F' f = tX0_penalties F f + (F' 14 f u 10 - F 14 f u 10) := by
    unfold tX0_penalties
    rw [h1 10 (by decide)]
    exact sum_u hn h0 hu
  unfold gT
  rw [s1, s2, s3, s4, s5]
  exact ⟨by omega, by omega, by omega, by omega, by omega, by omega⟩
theorem us_ne {u s s' : Int} (h : ¬ s = s') : ¬ 73 + 12 * u + s = 73 + 12 * u + s' := by omega
/-- a unit is called to eat -/
def zCal (z : Int → Int) (u : Int) : Int → Int := sup (sup (sup (sup (sup z (73 + 12 * u + 8) (if z (73 + 12 * u + 6) + z (73 + 12 * u + 7) = 0 then z 10 else z (73 + 12 * u + 8))) (73 + 12 * u + 6) (z (73 + 12 * u + 6) + z (73 + 12 * u + 3))) (73 + 12 * u + 7) (z (73 + 12 * u + 7) + (z (73 + 12 * u + 2) - z (73 + 12 * u + 3)))) (73 + 12 * u + 4) (z (73 + 12 * u + 4) + z (73 + 12 * u + 5))) 14 (z 14 + z (73 + 12 * u + 2))
theorem GZ_cal {A c b : Int} {F : XM} {f u : Int} {z : Int → Int} (h : GZ A F f z) (hG : fI c b F f) (hc : c ≤ 80000000) (h0 : 0 ≤ u) (h1 : u < F 1 f 0 10) (hs : F 14 f u 0 = 0) (hm : F 14 f u 4 = F 1 f 0 0) : GZ A (cal f u F) f (zCal z u) := by
  have c10 := hG.1.2.2.2.1
  have c0 := hG.1.2.2.2.2.1
  have u12 : u < 12 := by omega
  have hU := hG.2.2.2.2.1 u h0 u12
  have how := fU_ow hG.2.2.2.2 hc h0 u12
  have hW := (h.2.2.2.2.2.2.2.1 u h0 u12).1 h1
  unfold gW1 at hW
  obtain ⟨e0, e1, e9, e10, e11, epl, ew, -⟩ := hW
  obtain ⟨es, e30, ep, esi, ecn⟩ := ew hs
  have y2 := es 2 (by decide) (by decide)
  have y3 := es 3 (by decide) (by decide)
  have y4 := es 4 (by decide) (by decide)
  have y5 := es 5 (by decide) (by decide)
  have y6 := es 6 (by decide) (by decide)
  have y7 := es 7 (by decide) (by decide)
  have y8 := es 8 (by decide) (by decide)
  have z10 := h.2.2.1.2.2.2.2
  have z14 := h.2.2.2.1.2.2.2.1
  have hfc : c ≤ 80000000 := hc
  have hf1 := hG.2.2.2.2.2.2
  have hf1b : 0 ≤ F 1 f 0 1 := by
    rw [← hG.2.2.2.2.2.1]
    have g := sm_at (S := uG F f) (a := 0) (n := 12) (fun y a b => by
      have z := hG.2.2.2.2.1 y a (by omega)
      unfold uG
      omega) u h0 (by omega)
    have z := hG.2.2.2.2.1 u h0 u12
    have hu0 : 0 ≤ uG F f u := by
      unfold uG
      omega
    omega
  obtain ⟨F', eF⟩ : ∃ F' : XM, F' = cal f u F := ⟨_, rfl⟩
  rw [← eF]
  have e : cal f u F = uCall (xup F 1 f 0 1 (F 1 f 0 1 + F 14 f u 2)) f u (F 1 f 0 0) := by unfold cal; rw [if_pos ⟨hs, hm⟩]
  have ht : ∀ t : Nat, ¬ t = 14 → ¬ t = 1 → F' t = F t := fun t a b => by rw [eF]; exact cal_tag a b
  have hh1 : ∀ s : Int, ¬ s = 1 → F' 1 f 0 s = F 1 f 0 s := fun s hs' => by rw [eF]; exact cal_1 hs'
  have h11 : F' 1 f 0 1 = F 1 f 0 1 + F 14 f u 2 := by
    rw [eF, e]
    unfold uCall
    simp only [xup_app, Nat.reduceEqDiff, false_and, if_false, and_self, if_true]
  have hn : ∀ u' s : Int, ¬ u' = u → F' 14 f u' s = F 14 f u' s := fun u' s hu' => by
    rw [eF, e]
    unfold uCall
    simp only [xup_app, Nat.reduceEqDiff, hu', false_and, and_false, if_false]
  have hv : ∀ s : Int, F' 14 f u s = if s = 8 then (if F 14 f u 8 = -1 then F 1 f 0 0 else F 14 f u 8) else if s = 6 then F 14 f u 6 + F 14 f u 3 else if s = 7 then F 14 f u 7 + (F 14 f u 2 - F 14 f u 3) else if s = 4 then F 14 f u 4 + F 14 f u 5 else F 14 f u s := fun s => by
    rw [eF, e]
    unfold uCall
    simp only [xup_app, Nat.reduceEqDiff, Int.reduceEq, false_and, and_false, if_false, and_self, true_and]
    by_cases q8 : s = 8
    · subst q8
      simp
    · by_cases q6 : s = 6
      · subst q6
        simp
      · by_cases q7 : s = 7
        · subst q7
          simp
        · simp [q8, q6, q7]
  obtain ⟨z', ez⟩ : ∃ z' : Int → Int, z' = zCal z u := ⟨_, rfl⟩
  rw [← ez]
  have hz : ∀ n : Int, ¬ n = 14 → ¬ n = 73 + 12 * u + 4 → ¬ n = 73 + 12 * u + 6 → ¬ n = 73 + 12 * u + 7 → ¬ n = 73 + 12 * u + 8 → z' n = z n := fun n a b c d e => by
    rw [ez]
    unfold zCal
    rw [sup_ne a, sup_ne b, sup_ne d, sup_ne c, sup_ne e]
  have w14 : z' 14 = z 14 + z (73 + 12 * u + 2) := by rw [ez]; exact sup_eq
  have w4 : z' (73 + 12 * u + 4) = z (73 + 12 * u + 4) + z (73 + 12 * u + 5) := by
    rw [ez]
    unfold zCal
    rw [sup_ne (by omega), sup_eq]
  have w7 : z' (73 + 12 * u + 7) = z (73 + 12 * u + 7) + (z (73 + 12 * u + 2) - z (73 + 12 * u + 3)) := by
    rw [ez]
    unfold zCal
    rw [sup_ne (by omega), sup_ne (by omega), sup_eq]
  have w6 : z' (73 + 12 * u + 6) = z (73 + 12 * u + 6) + z (73 + 12 * u + 3) := by
    rw [ez]
    unfold zCal
    rw [sup_ne (by omega), sup_ne (by omega), sup_ne (by omega), sup_eq]
  have w8 : z' (73 + 12 * u + 8) = if z (73 + 12 * u + 6) + z (73 + 12 * u + 7) = 0 then z 10 else z (73 + 12 * u + 8) := by
    rw [ez]
    unfold zCal
    rw [sup_ne (by omega), sup_ne (by omega), sup_ne (by omega), sup_ne (by omega), sup_eq]
  have hc8 : (if F 14 f u 8 = -1 then F 1 f 0 0 else F 14 f u 8) = (if z (73 + 12 * u + 6) + z (73 + 12 * u + 7) = 0 then z 10 else z (73 + 12 * u + 8)) := by
    rw [y6, y7, y8, z10]
    by_cases g : F 14 f u 8 = -1
    · rw [if_pos g, if_pos (esi.mp g)]
    · rw [if_neg g, if_neg (fun q => g (esi.mpr q))]
  have hc8b : 0 ≤ (if F 14 f u 8 = -1 then F 1 f 0 0 else F 14 f u 8) ∧ (if F 14 f u 8 = -1 then F 1 f 0 0 else F 14 f u 8) ≤ 30000 := by split <;> omega
  refine GZ_U h ht hh1 hn (fun n a b => hz n (by omega) (by omega) (by omega) (by omega) (by omega)) h0 u12 ?_ ?_ ?_
  · rw [ez]
    unfold zCal
    refine sup_in (sup_in (sup_in (sup_in (sup_in h.1 (fun _ => ?_)) (fun _ => ?_)) (fun _ => ?_)) (fun _ => ?_)) (fun _ => ?_)
    · rw [← hc8]
      exact ⟨by omega, by omega⟩
    · exact ⟨by omega, by omega⟩
    · exact ⟨by omega, by omega⟩
    · exact ⟨by omega, by omega⟩
    · exact ⟨by omega, by omega⟩
  · exact gT_u h.2.2.2.1 ht hh1 hn h0 h1 (hz 11 (by decide) (by omega) (by omega) (by omega) (by omega)) (by rw [hz 12 (by decide) (by omega) (by omega) (by omega) (by omega), hv 9]; simp) (hz 13 (by decide) (by omega) (by omega) (by omega) (by omega)) (by rw [w14, h11]; omega) (by rw [hz 15 (by decide) (by omega) (by omega) (by omega) (by omega), hv 11]; simp) (by rw [hz 16 (by decide) (by omega) (by omega) (by omega) (by omega), hv 10]; simp)
  · unfold gU1 gW1
    rw [hh1 10 (by decide), hh1 3 (by decide), hv 0, hv 1, hv 2, hv 3, hv 5, hv 6, hv 7, hv 8, hv 9, hv 10, hv 11]
    simp only [Int.reduceEq, if_true, if_false]
    refine ⟨fun _ => ⟨?_, ?_, ?_, ?_, ?_, epl, fun _ => ⟨fun s g0 g1 => ?_, e30, ep, ⟨fun g => by omega, fun g => by omega⟩, ecn⟩, fun g => absurd hs g⟩, fun g => by omega⟩
    · rw [hz _ (by omega) (by omega) (by omega) (by omega) (by omega)]
      exact e0
    · rw [hz _ (by omega) (by omega) (by omega) (by omega) (by omega)]
      exact e1
    · rw [hz _ (by omega) (by omega) (by omega) (by omega) (by omega)]
      exact e9
    · rw [hz _ (by omega) (by omega) (by omega) (by omega) (by omega)]
      exact e10
    · rw [hz _ (by omega) (by omega) (by omega) (by omega) (by omega)]
      exact e11
    · rw [hv s]
      rcases (show s = 2 ∨ s = 3 ∨ s = 4 ∨ s = 5 ∨ s = 6 ∨ s = 7 ∨ s = 8 by omega) with q | q | q | q | q | q | q <;> subst q
      · rw [hz _ (by omega) (by omega) (by omega) (by omega) (by omega)]
        exact y2
      · rw [hz _ (by omega) (by omega) (by omega) (by omega) (by omega)]
        exact y3
      · rw [w4, y4, y5]
        rfl
      · rw [hz _ (by omega) (by omega) (by omega) (by omega) (by omega)]
        exact y5
      · rw [w6, y6, y3]
        rfl
      · rw [w7, y7, y2, y3]
        rfl
      · rw [w8, ← hc8]
        rfl
/-- a unit is fined -/
def zFin (z : Int → Int) (u m : Int) : Int → Int := sup (sup z (73 + 12 * u + 10) (z (73 + 12 * u + 10) + m)) 16 (z 16 + m)
def pnV (F : XM) (f u : Int) : Int := if F 2 f 0 1 < F 1 f 0 0 - F 14 f u 8 then min ((F 14 f u 6 + F 14 f u 7) * F 2 f 0 2) (100000000 - F 14 f u 10) else 0
theorem GZ_pun {A c b : Int} {F : XM} {f u : Int} {z : Int → Int} (h : GZ A F f z) (hG : fI c b F f) (hc : c ≤ 80000000) (h0 : 0 ≤ u) (h1 : u < F 1 f 0 10) (hs : F 14 f u 0 = 0) (ho : 0 < F 14 f u 6 + F 14 f u 7) : GZ A (pun f u F) f (zFin z u (pnV F f u)) := by
  have c10 := hG.1.2.2.2.1
  have c0 := hG.1.2.2.2.2.1
  have u12 : u < 12 := by omega
  have hU := hG.2.2.2.2.1 u h0 u12
  have how := fU_ow hG.2.2.2.2 hc h0 u12
  have hpr := hG.1.2.2.2.2.2.2.2.1
  have hW := (h.2.2.2.2.2.2.2.1 u h0 u12).1 h1
  unfold gW1 at hW
  obtain ⟨e0, e1, e9, e10, e11, epl, ew, -⟩ := hW
  obtain ⟨es, e30, ep, esi, ecn⟩ := ew hs
  have hsi : ¬ F 14 f u 8 = -1 := fun q => by have := esi.mp q; omega
  have hmul : 0 ≤ (F 14 f u 6 + F 14 f u 7) * F 2 f 0 2 := Int.mul_nonneg (by omega) (by omega)
  have hmn : min 100000000 (F 14 f u 10 + (F 14 f u 6 + F 14 f u 7) * F 2 f 0 2) = F 14 f u 10 + min ((F 14 f u 6 + F 14 f u 7) * F 2 f 0 2) (100000000 - F 14 f u 10) := by omega
  obtain ⟨F', eF⟩ : ∃ F' : XM, F' = pun f u F := ⟨_, rfl⟩
  rw [← eF]
  have e : pun f u F = if F 2 f 0 1 < F 1 f 0 0 - F 14 f u 8 then xup F 14 f u 10 (F 14 f u 10 + min ((F 14 f u 6 + F 14 f u 7) * F 2 f 0 2) (100000000 - F 14 f u 10)) else F := by
    unfold pun
    rw [hmn]
    by_cases g : F 2 f 0 1 < F 1 f 0 0 - F 14 f u 8
    · rw [if_pos ⟨hsi, g⟩, if_pos g]
    · rw [if_neg (fun q => g q.2), if_neg g]
  have ht : ∀ t : Nat, ¬ t = 14 → F' t = F t := fun t a => by rw [eF]; exact pun_tag a
  have hv : ∀ u' s : Int, F' 14 f u' s = if u' = u ∧ s = 10 then F 14 f u 10 + pnV F f u else F 14 f u' s := fun u' s => by
    rw [eF, e]
    unfold pnV
    by_cases g : F 2 f 0 1 < F 1 f 0 0 - F 14 f u 8
    · rw [if_pos g, if_pos g]
      simp only [xup_app, true_and]
    · rw [if_neg g, if_neg g]
      by_cases q : u' = u ∧ s = 10
      · rw [if_pos q, q.1, q.2, Int.add_zero]
      · rw [if_neg q]
  have hm0 : 0 ≤ pnV F f u ∧ F 14 f u 10 + pnV F f u ≤ 100000000 := by
    unfold pnV
    split <;> omega
  obtain ⟨z', ez⟩ : ∃ z' : Int → Int, z' = zFin z u (pnV F f u) := ⟨_, rfl⟩
  rw [← ez]
  have hz : ∀ n : Int, ¬ n = 16 → ¬ n = 73 + 12 * u + 10 → z' n = z n := fun n a b => by
    rw [ez]
    unfold zFin
    rw [sup_ne a, sup_ne b]
  have w16 : z' 16 = z 16 + pnV F f u := by rw [ez]; exact sup_eq
  have w10 : z' (73 + 12 * u + 10) = z (73 + 12 * u + 10) + pnV F f u := by
    rw [ez]
    unfold zFin
    rw [sup_ne (by omega), sup_eq]
  have hT : gT F' f z' := gT_u h.2.2.2.1 (fun t a _ => ht t a) (fun s _ => by rw [ht 1 (by decide)]) (fun u' s hu' => by rw [hv, if_neg (fun q => hu' q.1)]) h0 h1 (hz 11 (by decide) (by omega)) (by rw [hz 12 (by decide) (by omega), hv, if_neg (fun q => absurd q.2 (by decide))]; omega) (hz 13 (by decide) (by omega)) (by rw [hz 14 (by decide) (by omega), ht 1 (by decide)]; omega) (by rw [hz 15 (by decide) (by omega), hv, if_neg (fun q => absurd q.2 (by decide))]; omega) (by rw [w16, hv, if_pos ⟨rfl, rfl⟩]; omega)
  refine GZ_U h (fun t a _ => ht t a) (fun s _ => by rw [ht 1 (by decide)]) (fun u' s hu' => by rw [hv, if_neg (fun q => hu' q.1)]) (fun n a b => hz n (by omega) (by omega)) h0 u12 ?_ hT ?_
  · have hs16 : 0 ≤ tX0_penalties F' f ∧ tX0_penalties F' f ≤ 1200000000 := by
      unfold tX0_penalties
      rw [sf_sm]
      have q := sm_bd (S := npenalties F' f) (a := 0) (b := 100000000) (n := (F' 1 f 0 10).toNat) (fun x g0 g1 => by
        rw [ht 1 (by decide)] at g1
        have q := (hG.2.2.2.2.1 x g0 (by omega)).2.2.2.2.2.2.2.2
        unfold npenalties
        rw [hv]
        by_cases g : x = u ∧ (10 : Int) = 10
        · rw [if_pos g]
          omega
        · rw [if_neg g]
          exact q)
      rw [ht 1 (by decide)] at q ⊢
      have : (F 1 f 0 10).toNat ≤ 12 := by omega
      have : ((F 1 f 0 10).toNat : Int) * 100000000 ≤ 12 * 100000000 := Int.mul_le_mul_of_nonneg_right (by omega) (by decide)
      omega
    have hq := hT.2.2.2.2.2
    intro n hn
    by_cases g16 : n = 16
    · rw [g16, hq]
      exact ⟨by omega, by omega⟩
    · by_cases g10 : n = 73 + 12 * u + 10
      · rw [g10, w10, e10]
        exact ⟨by omega, by omega⟩
      · rw [hz n g16 g10]
        exact h.1 n hn
  · unfold gU1 gW1
    rw [ht 1 (by decide), hv u 0, hv u 1, hv u 2, hv u 3, hv u 5, hv u 6, hv u 7, hv u 8, hv u 9, hv u 10, hv u 11]
    simp only [true_and, Int.reduceEq, if_true, if_false]
    refine ⟨fun _ => ⟨?_, ?_, ?_, ?_, ?_, epl, fun _ => ⟨fun s g0 g1 => ?_, e30, ep, esi, ecn⟩, fun g => absurd hs g⟩, fun g => by omega⟩
    · rw [hz _ (by omega) (by omega)]
      exact e0
    · rw [hz _ (by omega) (by omega)]
      exact e1
    · rw [hz _ (by omega) (by omega)]
      exact e9
    · rw [w10, e10]
    · rw [hz _ (by omega) (by omega)]
      exact e11
    · rw [hv u s, if_neg (fun q => by omega), hz _ (by omega) (by omega)]
      exact es s g0 g1
end XR8

