section XLb
theorem LQ_no {cd : List Int} {Q : XPo} {N : XM} {c b k : Int} (hk : c ∈ cd ∧ cdL cd c = k) (h : Q [xI k] N) : LQ cd Q [xI c, xI b] N := by
  obtain ⟨hm, rfl⟩ := hk
  exact ⟨hm, h⟩
theorem LQ_yes {cd : List Int} {Q : XPo} {N : XM} {v : Int} (h : Q [xI 0] (xup N 26 0 0 0 (w32 v))) : LQ cd Q [xI v] N := h
theorem uc_addPlace {M : XM} {Q : XPo} {x : Int} {y : Int} (h : KI M ∧ XInR x ∧ XInR y ∧ (if 0 ≤ x ∧ x ≤ 99 then (if 0 ≤ y ∧ y ≤ 99 then (if ¬ 8 ≤ M 1 0 0 3 then Q [xI (M 1 0 0 3)] (fNewP (fKeep M) 0 x y) else Q [xI 2, xI 0] M) else Q [xI 1, xI 0] M) else Q [xI 1, xI 0] M)) : tEX7_addPlace [xR 0 0 0, xI x, xI y] M Q := @id ((0 = 0 ∧ xval 0 0 0) ∧ KI M ∧ XInR x ∧ XInR y ∧ (if 0 ≤ x ∧ x ≤ 99 then (if 0 ≤ y ∧ y ≤ 99 then (if ¬ 8 ≤ M 1 0 0 3 then Q [xI (M 1 0 0 3)] (fNewP (fKeep M) 0 x y) else Q [xI 2, xI 0] M) else Q [xI 1, xI 0] M) else Q [xI 1, xI 0] M)) ⟨⟨rfl, xvz_0⟩, h⟩
theorem ug_addPlace {F M : XM} {f : Int} {Q : XPo} {x : Int} {y : Int} (hB : RB F f M) (rx : XInR x) (ry : XInR y) (h : tX8_addPlace F f x y Q M) : sX8_addPlace [xR 20 0 0, xI x, xI y] M Q := @id ((20 = 20 ∧ xval 20 0 0) ∧ ∃ (F : XM) (f : Int), RB F f M ∧ XInR x ∧ XInR y ∧ tX8_addPlace F f x y Q M) ⟨⟨rfl, xvz_20⟩, F, f, hB, rx, ry, h⟩
theorem lc_addPlace {M : XM} {Z : Int → XPo} (hZ : ∀ (k : Int) (rv : List XV) (N : XM), 0 ≤ k → k ≤ 3 → LE k rv N → Z k rv N) (h : RR M) {x : Int} {y : Int} (rx : XInR x) (ry : XInR y) : tEX7_addPlace [xR 0 0 0, xI x, xI y] M (LQ [1, 2] (LK (fun N => sX8_addPlace [xR 20 0 0, xI x, xI y] N) Z)) := by
  obtain ⟨F, hF⟩ : ∃ F : XM, F = fKeep M := ⟨_, rfl⟩
  have hn := h.1.2.1.1
  have hB : ∀ N : XM, N 20 = M 20 → N 21 = M 21 → RB F 0 N := fun N a b => by rw [hF]; exact RB_k2 h a b
  have hI := (hB M rfl rfl).2.1.1
  have hm := (hB M rfl rfl).2.1.2
  obtain ⟨b3, b6, b8, b10, b0, -⟩ := hI.1
  have hk := hI.2.2.1
  have e1 : ∀ k s : Int, M 1 0 k s = F 1 0 k s := fun k s => by rw [hF, fKeep_0 hn 1 (by decide)]
  have e2 : ∀ k s : Int, M 2 0 k s = F 2 0 k s := fun k s => by rw [hF, fKeep_0 hn 2 (by decide)]
  have e8 : ∀ k s : Int, M 8 0 k s = F 8 0 k s := fun k s => by rw [hF, fKeep_0 hn 8 (by decide)]
  have e9 : ∀ k s : Int, M 9 0 k s = F 9 0 k s := fun k s => by rw [hF, fKeep_0 hn 9 (by decide)]
  have e12 : ∀ k s : Int, M 12 0 k s = F 12 0 k s := fun k s => by rw [hF, fKeep_0 hn 12 (by decide)]
  have e13 : ∀ k s : Int, M 13 0 k s = F 13 0 k s := fun k s => by rw [hF, fKeep_0 hn 13 (by decide)]
  have e14 : ∀ k s : Int, M 14 0 k s = F 14 0 k s := fun k s => by rw [hF, fKeep_0 hn 14 (by decide)]
  have eK : ∀ k d : Int, kEn M 0 k d = kEn F 0 k d := fun k d => by rw [hF]; exact kEn_keep hn k d
  have eA : ∀ j : Int, mAll M 0 j = mAll F 0 j := fun j => by rw [hF]; exact mAll_keep hn j
  have eD : ∀ a b : Int, dMin M 0 a b = dMin F 0 a b := fun a b => by rw [hF]; exact (dMin_keep hn a b).symm
  refine uc_addPlace ⟨h.1, rx, ry, ?_⟩
  simp only [← hF, eD, eK, eA, e1, e2, e8, e9, e12, e13, e14]
  by_cases c0 : 0 ≤ x ∧ x ≤ 99
  case neg =>
    rw [if_neg c0]
    exact LQ_no (k := 1) (by decide) ⟨1, rfl, by decide, ug_addPlace (hB M rfl rfl) rx ry (by unfold tX8_addPlace; rw [if_neg c0]; exact hZ _ _ _ (by decide) (by decide) (LE_no h 1 (by decide)))⟩
  rw [if_pos c0]
  by_cases c1 : 0 ≤ y ∧ y ≤ 99
  case neg =>
    rw [if_neg c1]
    exact LQ_no (k := 1) (by decide) ⟨1, rfl, by decide, ug_addPlace (hB M rfl rfl) rx ry (by unfold tX8_addPlace; rw [if_pos c0, if_neg c1]; exact hZ _ _ _ (by decide) (by decide) (LE_no h 1 (by decide)))⟩
  rw [if_pos c1]
  by_cases c2 : ¬ 8 ≤ F 1 0 0 3
  case neg =>
    rw [if_neg c2]
    exact LQ_no (k := 2) (by decide) ⟨2, rfl, by decide, ug_addPlace (hB M rfl rfl) rx ry (by unfold tX8_addPlace; rw [if_pos c0, if_pos c1, if_neg c2]; exact hZ _ _ _ (by decide) (by decide) (LE_no h 2 (by decide)))⟩
  rw [if_pos c2]
  have hi : ∀ t : Nat, 20 ≤ t → (fNewP F 0 x y : XM) t = M t := fun t ht => by unfold fNewP; simp only [xup_tag (show ¬ t = 1 by omega), xup_tag (show ¬ t = 3 by omega), xup_tag (show ¬ t = 4 by omega)]; rw [hF]; exact fKeep_hi M (by omega)
  exact LQ_yes ⟨0, rfl, by decide, ug_addPlace (hB _ ((xup_tag (by decide)).trans (hi 20 (by decide))) ((xup_tag (by decide)).trans (hi 21 (by decide)))) rx ry (by
    unfold tX8_addPlace
    rw [if_pos c0, if_pos c1, if_pos c2]
    intro M2 hs
    subst hF
    exact hZ 0 _ _ (by decide) (by decide) (LE_op hs (RR_r26 (RR_newP h (by omega) c0 c1 (op_26 hs)))))⟩
theorem uc_addKitchen {M : XM} {Q : XPo} {p : Int} (h : KI M ∧ XInR p ∧ (if 0 ≤ p ∧ p < M 1 0 0 3 then (if ¬ 3 ≤ M 1 0 0 6 then Q [xI (M 1 0 0 6)] (fNewK (fKeep M) 0 p) else Q [xI 2, xI 0] M) else Q [xI 3, xI 0] M)) : tEX7_addKitchen [xR 0 0 0, xI p] M Q := @id ((0 = 0 ∧ xval 0 0 0) ∧ KI M ∧ XInR p ∧ (if 0 ≤ p ∧ p < M 1 0 0 3 then (if ¬ 3 ≤ M 1 0 0 6 then Q [xI (M 1 0 0 6)] (fNewK (fKeep M) 0 p) else Q [xI 2, xI 0] M) else Q [xI 3, xI 0] M)) ⟨⟨rfl, xvz_0⟩, h⟩
theorem ug_addKitchen {F M : XM} {f : Int} {Q : XPo} {p : Int} (hB : RB F f M) (rp : XInR p) (h : tX8_addKitchen F f p Q M) : sX8_addKitchen [xR 20 0 0, xI p] M Q := @id ((20 = 20 ∧ xval 20 0 0) ∧ ∃ (F : XM) (f : Int), RB F f M ∧ XInR p ∧ tX8_addKitchen F f p Q M) ⟨⟨rfl, xvz_20⟩, F, f, hB, rp, h⟩
theorem lc_addKitchen {M : XM} {Z : Int → XPo} (hZ : ∀ (k : Int) (rv : List XV) (N : XM), 0 ≤ k → k ≤ 3 → LE k rv N → Z k rv N) (h : RR M) {p : Int} (rp : XInR p) : tEX7_addKitchen [xR 0 0 0, xI p] M (LQ [3, 2] (LK (fun N => sX8_addKitchen [xR 20 0 0, xI p] N) Z)) := by
  obtain ⟨F, hF⟩ : ∃ F : XM, F = fKeep M := ⟨_, rfl⟩
  have hn := h.1.2.1.1
  have hB : ∀ N : XM, N 20 = M 20 → N 21 = M 21 → RB F 0 N := fun N a b => by rw [hF]; exact RB_k2 h a b
  have hI := (hB M rfl rfl).2.1.1
  have hm := (hB M rfl rfl).2.1.2
  obtain ⟨b3, b6, b8, b10, b0, -⟩ := hI.1
  have hk := hI.2.2.1
  have e1 : ∀ k s : Int, M 1 0 k s = F 1 0 k s := fun k s => by rw [hF, fKeep_0 hn 1 (by decide)]
  have e2 : ∀ k s : Int, M 2 0 k s = F 2 0 k s := fun k s => by rw [hF, fKeep_0 hn 2 (by decide)]
  have e8 : ∀ k s : Int, M 8 0 k s = F 8 0 k s := fun k s => by rw [hF, fKeep_0 hn 8 (by decide)]
  have e9 : ∀ k s : Int, M 9 0 k s = F 9 0 k s := fun k s => by rw [hF, fKeep_0 hn 9 (by decide)]
  have e12 : ∀ k s : Int, M 12 0 k s = F 12 0 k s := fun k s => by rw [hF, fKeep_0 hn 12 (by decide)]
  have e13 : ∀ k s : Int, M 13 0 k s = F 13 0 k s := fun k s => by rw [hF, fKeep_0 hn 13 (by decide)]
  have e14 : ∀ k s : Int, M 14 0 k s = F 14 0 k s := fun k s => by rw [hF, fKeep_0 hn 14 (by decide)]
  have eK : ∀ k d : Int, kEn M 0 k d = kEn F 0 k d := fun k d => by rw [hF]; exact kEn_keep hn k d
  have eA : ∀ j : Int, mAll M 0 j = mAll F 0 j := fun j => by rw [hF]; exact mAll_keep hn j
  have eD : ∀ a b : Int, dMin M 0 a b = dMin F 0 a b := fun a b => by rw [hF]; exact (dMin_keep hn a b).symm
  refine uc_addKitchen ⟨h.1, rp, ?_⟩
  simp only [← hF, eD, eK, eA, e1, e2, e8, e9, e12, e13, e14]
  by_cases c0 : 0 ≤ p ∧ p < F 1 0 0 3
  case neg =>
    rw [if_neg c0]
    exact LQ_no (k := 1) (by decide) ⟨1, rfl, by decide, ug_addKitchen (hB M rfl rfl) rp (by unfold tX8_addKitchen; rw [if_neg c0]; exact hZ _ _ _ (by decide) (by decide) (LE_no h 1 (by decide)))⟩
  rw [if_pos c0]
  by_cases c1 : ¬ 3 ≤ F 1 0 0 6
  case neg =>
    rw [if_neg c1]
    exact LQ_no (k := 2) (by decide) ⟨2, rfl, by decide, ug_addKitchen (hB M rfl rfl) rp (by unfold tX8_addKitchen; rw [if_pos c0, if_neg c1]; exact hZ _ _ _ (by decide) (by decide) (LE_no h 2 (by decide)))⟩
  rw [if_pos c1]
  have hi : ∀ t : Nat, 20 ≤ t → (fNewK F 0 p : XM) t = M t := fun t ht => by unfold fNewK; simp only [xup_tag (show ¬ t = 1 by omega), xup_tag (show ¬ t = 8 by omega)]; rw [hF]; exact fKeep_hi M (by omega)
  exact LQ_yes ⟨0, rfl, by decide, ug_addKitchen (hB _ ((xup_tag (by decide)).trans (hi 20 (by decide))) ((xup_tag (by decide)).trans (hi 21 (by decide)))) rp (by
    unfold tX8_addKitchen
    rw [if_pos c0, if_pos c1]
    intro M2 hs
    subst hF
    exact hZ 0 _ _ (by decide) (by decide) (LE_op hs (RR_r26 (RR_newK h (by omega) (by omega) (op_26 hs)))))⟩
theorem uc_addLorry {M : XM} {Q : XPo} {p : Int} (h : KI M ∧ XInR p ∧ (if 0 ≤ p ∧ p < M 1 0 0 3 then (if ¬ 4 ≤ M 1 0 0 8 then Q [xI (M 1 0 0 8)] (fNewL (fKeep M) 0 p) else Q [xI 2, xI 0] M) else Q [xI 3, xI 0] M)) : tEX7_addLorry [xR 0 0 0, xI p] M Q := @id ((0 = 0 ∧ xval 0 0 0) ∧ KI M ∧ XInR p ∧ (if 0 ≤ p ∧ p < M 1 0 0 3 then (if ¬ 4 ≤ M 1 0 0 8 then Q [xI (M 1 0 0 8)] (fNewL (fKeep M) 0 p) else Q [xI 2, xI 0] M) else Q [xI 3, xI 0] M)) ⟨⟨rfl, xvz_0⟩, h⟩
theorem ug_addLorry {F M : XM} {f : Int} {Q : XPo} {p : Int} (hB : RB F f M) (rp : XInR p) (h : tX8_addLorry F f p Q M) : sX8_addLorry [xR 20 0 0, xI p] M Q := @id ((20 = 20 ∧ xval 20 0 0) ∧ ∃ (F : XM) (f : Int), RB F f M ∧ XInR p ∧ tX8_addLorry F f p Q M) ⟨⟨rfl, xvz_20⟩, F, f, hB, rp, h⟩
theorem lc_addLorry {M : XM} {Z : Int → XPo} (hZ : ∀ (k : Int) (rv : List XV) (N : XM), 0 ≤ k → k ≤ 3 → LE k rv N → Z k rv N) (h : RR M) {p : Int} (rp : XInR p) : tEX7_addLorry [xR 0 0 0, xI p] M (LQ [3, 2] (LK (fun N => sX8_addLorry [xR 20 0 0, xI p] N) Z)) := by
  obtain ⟨F, hF⟩ : ∃ F : XM, F = fKeep M := ⟨_, rfl⟩
  have hn := h.1.2.1.1
  have hB : ∀ N : XM, N 20 = M 20 → N 21 = M 21 → RB F 0 N := fun N a b => by rw [hF]; exact RB_k2 h a b
  have hI := (hB M rfl rfl).2.1.1
  have hm := (hB M rfl rfl).2.1.2
  obtain ⟨b3, b6, b8, b10, b0, -⟩ := hI.1
  have hk := hI.2.2.1
  have e1 : ∀ k s : Int, M 1 0 k s = F 1 0 k s := fun k s => by rw [hF, fKeep_0 hn 1 (by decide)]
  have e2 : ∀ k s : Int, M 2 0 k s = F 2 0 k s := fun k s => by rw [hF, fKeep_0 hn 2 (by decide)]
  have e8 : ∀ k s : Int, M 8 0 k s = F 8 0 k s := fun k s => by rw [hF, fKeep_0 hn 8 (by decide)]
  have e9 : ∀ k s : Int, M 9 0 k s = F 9 0 k s := fun k s => by rw [hF, fKeep_0 hn 9 (by decide)]
  have e12 : ∀ k s : Int, M 12 0 k s = F 12 0 k s := fun k s => by rw [hF, fKeep_0 hn 12 (by decide)]
  have e13 : ∀ k s : Int, M 13 0 k s = F 13 0 k s := fun k s => by rw [hF, fKeep_0 hn 13 (by decide)]
  have e14 : ∀ k s : Int, M 14 0 k s = F 14 0 k s := fun k s => by rw [hF, fKeep_0 hn 14 (by decide)]
  have eK : ∀ k d : Int, kEn M 0 k d = kEn F 0 k d := fun k d => by rw [hF]; exact kEn_keep hn k d
  have eA : ∀ j : Int, mAll M 0 j = mAll F 0 j := fun j => by rw [hF]; exact mAll_keep hn j
  have eD : ∀ a b : Int, dMin M 0 a b = dMin F 0 a b := fun a b => by rw [hF]; exact (dMin_keep hn a b).symm
  refine uc_addLorry ⟨h.1, rp, ?_⟩
  simp only [← hF, eD, eK, eA, e1, e2, e8, e9, e12, e13, e14]
  by_cases c0 : 0 ≤ p ∧ p < F 1 0 0 3
  case neg =>
    rw [if_neg c0]
    exact LQ_no (k := 1) (by decide) ⟨1, rfl, by decide, ug_addLorry (hB M rfl rfl) rp (by unfold tX8_addLorry; rw [if_neg c0]; exact hZ _ _ _ (by decide) (by decide) (LE_no h 1 (by decide)))⟩
  rw [if_pos c0]
  by_cases c1 : ¬ 4 ≤ F 1 0 0 8
  case neg =>
    rw [if_neg c1]
    exact LQ_no (k := 2) (by decide) ⟨2, rfl, by decide, ug_addLorry (hB M rfl rfl) rp (by unfold tX8_addLorry; rw [if_pos c0, if_neg c1]; exact hZ _ _ _ (by decide) (by decide) (LE_no h 2 (by decide)))⟩
  rw [if_pos c1]
  have hi : ∀ t : Nat, 20 ≤ t → (fNewL F 0 p : XM) t = M t := fun t ht => by unfold fNewL; simp only [xup_tag (show ¬ t = 1 by omega), xup_tag (show ¬ t = 13 by omega)]; rw [hF]; exact fKeep_hi M (by omega)
  exact LQ_yes ⟨0, rfl, by decide, ug_addLorry (hB _ ((xup_tag (by decide)).trans (hi 20 (by decide))) ((xup_tag (by decide)).trans (hi 21 (by decide)))) rp (by
    unfold tX8_addLorry
    rw [if_pos c0, if_pos c1]
    intro M2 hs
    subst hF
    exact hZ 0 _ _ (by decide) (by decide) (LE_op hs (RR_r26 (RR_newL h (by omega) (by omega) (op_26 hs)))))⟩
theorem uc_set {M : XM} {Q : XPo} {q : Int} {v : Int} (h : KI M ∧ XInR q ∧ XInR v ∧ (if 0 ≤ q ∧ q < 6 then (if sLeast q ≤ v ∧ v ≤ sMost q then Q [xI (M 2 0 0 q)] (xup (fKeep M) 2 0 0 q v) else Q [xI 1, xI 0] M) else Q [xI 3, xI 0] M)) : tEX7_set [xR 0 0 0, xI q, xI v] M Q := @id ((0 = 0 ∧ xval 0 0 0) ∧ KI M ∧ XInR q ∧ XInR v ∧ (if 0 ≤ q ∧ q < 6 then (if sLeast q ≤ v ∧ v ≤ sMost q then Q [xI (M 2 0 0 q)] (xup (fKeep M) 2 0 0 q v) else Q [xI 1, xI 0] M) else Q [xI 3, xI 0] M)) ⟨⟨rfl, xvz_0⟩, h⟩
theorem ug_set {F M : XM} {f : Int} {Q : XPo} {q : Int} {v : Int} (hB : RB F f M) (rq : XInR q) (rv : XInR v) (h : tX8_set F f q v Q M) : sX8_set [xR 20 0 0, xI q, xI v] M Q := @id ((20 = 20 ∧ xval 20 0 0) ∧ ∃ (F : XM) (f : Int), RB F f M ∧ XInR q ∧ XInR v ∧ tX8_set F f q v Q M) ⟨⟨rfl, xvz_20⟩, F, f, hB, rq, rv, h⟩
theorem lc_set {M : XM} {Z : Int → XPo} (hZ : ∀ (k : Int) (rv : List XV) (N : XM), 0 ≤ k → k ≤ 3 → LE k rv N → Z k rv N) (h : RR M) {q : Int} {v : Int} (rq : XInR q) (rv : XInR v) : tEX7_set [xR 0 0 0, xI q, xI v] M (LQ [3, 1] (LK (fun N => sX8_set [xR 20 0 0, xI q, xI v] N) Z)) := by
  obtain ⟨F, hF⟩ : ∃ F : XM, F = fKeep M := ⟨_, rfl⟩
  have hn := h.1.2.1.1
  have hB : ∀ N : XM, N 20 = M 20 → N 21 = M 21 → RB F 0 N := fun N a b => by rw [hF]; exact RB_k2 h a b
  have hI := (hB M rfl rfl).2.1.1
  have hm := (hB M rfl rfl).2.1.2
  obtain ⟨b3, b6, b8, b10, b0, -⟩ := hI.1
  have hk := hI.2.2.1
  have e1 : ∀ k s : Int, M 1 0 k s = F 1 0 k s := fun k s => by rw [hF, fKeep_0 hn 1 (by decide)]
  have e2 : ∀ k s : Int, M 2 0 k s = F 2 0 k s := fun k s => by rw [hF, fKeep_0 hn 2 (by decide)]
  have e8 : ∀ k s : Int, M 8 0 k s = F 8 0 k s := fun k s => by rw [hF, fKeep_0 hn 8 (by decide)]
  have e9 : ∀ k s : Int, M 9 0 k s = F 9 0 k s := fun k s => by rw [hF, fKeep_0 hn 9 (by decide)]
  have e12 : ∀ k s : Int, M 12 0 k s = F 12 0 k s := fun k s => by rw [hF, fKeep_0 hn 12 (by decide)]
  have e13 : ∀ k s : Int, M 13 0 k s = F 13 0 k s := fun k s => by rw [hF, fKeep_0 hn 13 (by decide)]
  have e14 : ∀ k s : Int, M 14 0 k s = F 14 0 k s := fun k s => by rw [hF, fKeep_0 hn 14 (by decide)]
  have eK : ∀ k d : Int, kEn M 0 k d = kEn F 0 k d := fun k d => by rw [hF]; exact kEn_keep hn k d
  have eA : ∀ j : Int, mAll M 0 j = mAll F 0 j := fun j => by rw [hF]; exact mAll_keep hn j
  have eD : ∀ a b : Int, dMin M 0 a b = dMin F 0 a b := fun a b => by rw [hF]; exact (dMin_keep hn a b).symm
  refine uc_set ⟨h.1, rq, rv, ?_⟩
  simp only [← hF, eD, eK, eA, e1, e2, e8, e9, e12, e13, e14]
  by_cases c0 : 0 ≤ q ∧ q < 6
  case neg =>
    rw [if_neg c0]
    exact LQ_no (k := 1) (by decide) ⟨1, rfl, by decide, ug_set (hB M rfl rfl) rq rv (by unfold tX8_set; rw [if_neg c0]; exact hZ _ _ _ (by decide) (by decide) (LE_no h 1 (by decide)))⟩
  rw [if_pos c0]
  by_cases c1 : sLeast q ≤ v ∧ v ≤ sMost q
  case neg =>
    rw [if_neg c1]
    exact LQ_no (k := 2) (by decide) ⟨2, rfl, by decide, ug_set (hB M rfl rfl) rq rv (by unfold tX8_set; rw [if_pos c0, if_neg c1]; exact hZ _ _ _ (by decide) (by decide) (LE_no h 2 (by decide)))⟩
  rw [if_pos c1]
  have hi : ∀ t : Nat, 20 ≤ t → (xup F 2 0 0 q v : XM) t = M t := fun t ht => by simp only [xup_tag (show ¬ t = 2 by omega)]; rw [hF]; exact fKeep_hi M (by omega)
  exact LQ_yes ⟨0, rfl, by decide, ug_set (hB _ ((xup_tag (by decide)).trans (hi 20 (by decide))) ((xup_tag (by decide)).trans (hi 21 (by decide)))) rq rv (by
    unfold tX8_set
    rw [if_pos c0, if_pos c1]
    intro M2 hs
    subst hF
    exact hZ 0 _ _ (by decide) (by decide) (LE_op hs (RR_r26 (RR_set h c0 c1 (op_26 hs)))))⟩
theorem uc_stock {M : XM} {Q : XPo} {k : Int} {w : Int} {n : Int} (h : KI M ∧ XInR k ∧ XInR w ∧ XInR n ∧ (if 0 ≤ k ∧ k < M 1 0 0 6 then (if 0 ≤ w ∧ w ≤ 2 then (if 1 ≤ n ∧ n ≤ 500 then (if ¬ 999 < M 9 0 k w + n then Q [xI (M 9 0 k w + n)] (xup (fKeep M) 9 0 k w (M 9 0 k w + n)) else Q [xI 2, xI 0] M) else Q [xI 1, xI 0] M) else Q [xI 1, xI 0] M) else Q [xI 3, xI 0] M)) : tEX7_stock [xR 0 0 0, xI k, xI w, xI n] M Q := @id ((0 = 0 ∧ xval 0 0 0) ∧ KI M ∧ XInR k ∧ XInR w ∧ XInR n ∧ (if 0 ≤ k ∧ k < M 1 0 0 6 then (if 0 ≤ w ∧ w ≤ 2 then (if 1 ≤ n ∧ n ≤ 500 then (if ¬ 999 < M 9 0 k w + n then Q [xI (M 9 0 k w + n)] (xup (fKeep M) 9 0 k w (M 9 0 k w + n)) else Q [xI 2, xI 0] M) else Q [xI 1, xI 0] M) else Q [xI 1, xI 0] M) else Q [xI 3, xI 0] M)) ⟨⟨rfl, xvz_0⟩, h⟩
theorem ug_stock {F M : XM} {f : Int} {Q : XPo} {k : Int} {w : Int} {n : Int} (hB : RB F f M) (rk : XInR k) (rw : XInR w) (rn : XInR n) (h : tX8_stock F f k w n Q M) : sX8_stock [xR 20 0 0, xI k, xI w, xI n] M Q := @id ((20 = 20 ∧ xval 20 0 0) ∧ ∃ (F : XM) (f : Int), RB F f M ∧ XInR k ∧ XInR w ∧ XInR n ∧ tX8_stock F f k w n Q M) ⟨⟨rfl, xvz_20⟩, F, f, hB, rk, rw, rn, h⟩
theorem lc_stock {M : XM} {Z : Int → XPo} (hZ : ∀ (k : Int) (rv : List XV) (N : XM), 0 ≤ k → k ≤ 3 → LE k rv N → Z k rv N) (h : RR M) {k : Int} {w : Int} {n : Int} (rk : XInR k) (rw : XInR w) (rn : XInR n) : tEX7_stock [xR 0 0 0, xI k, xI w, xI n] M (LQ [3, 1, 2] (LK (fun N => sX8_stock [xR 20 0 0, xI k, xI w, xI n] N) Z)) := by
  obtain ⟨F, hF⟩ : ∃ F : XM, F = fKeep M := ⟨_, rfl⟩
  have hn := h.1.2.1.1
  have hB : ∀ N : XM, N 20 = M 20 → N 21 = M 21 → RB F 0 N := fun N a b => by rw [hF]; exact RB_k2 h a b
  have hI := (hB M rfl rfl).2.1.1
  have hm := (hB M rfl rfl).2.1.2
  obtain ⟨b3, b6, b8, b10, b0, -⟩ := hI.1
  have hk := hI.2.2.1
  have e1 : ∀ k s : Int, M 1 0 k s = F 1 0 k s := fun k s => by rw [hF, fKeep_0 hn 1 (by decide)]
  have e2 : ∀ k s : Int, M 2 0 k s = F 2 0 k s := fun k s => by rw [hF, fKeep_0 hn 2 (by decide)]
  have e8 : ∀ k s : Int, M 8 0 k s = F 8 0 k s := fun k s => by rw [hF, fKeep_0 hn 8 (by decide)]
  have e9 : ∀ k s : Int, M 9 0 k s = F 9 0 k s := fun k s => by rw [hF, fKeep_0 hn 9 (by decide)]
  have e12 : ∀ k s : Int, M 12 0 k s = F 12 0 k s := fun k s => by rw [hF, fKeep_0 hn 12 (by decide)]
  have e13 : ∀ k s : Int, M 13 0 k s = F 13 0 k s := fun k s => by rw [hF, fKeep_0 hn 13 (by decide)]
  have e14 : ∀ k s : Int, M 14 0 k s = F 14 0 k s := fun k s => by rw [hF, fKeep_0 hn 14 (by decide)]
  have eK : ∀ k d : Int, kEn M 0 k d = kEn F 0 k d := fun k d => by rw [hF]; exact kEn_keep hn k d
  have eA : ∀ j : Int, mAll M 0 j = mAll F 0 j := fun j => by rw [hF]; exact mAll_keep hn j
  have eD : ∀ a b : Int, dMin M 0 a b = dMin F 0 a b := fun a b => by rw [hF]; exact (dMin_keep hn a b).symm
  refine uc_stock ⟨h.1, rk, rw, rn, ?_⟩
  simp only [← hF, eD, eK, eA, e1, e2, e8, e9, e12, e13, e14]
  by_cases c0 : 0 ≤ k ∧ k < F 1 0 0 6
  case neg =>
    rw [if_neg c0]
    exact LQ_no (k := 1) (by decide) ⟨1, rfl, by decide, ug_stock (hB M rfl rfl) rk rw rn (by unfold tX8_stock; rw [if_neg c0]; exact hZ _ _ _ (by decide) (by decide) (LE_no h 1 (by decide)))⟩
  rw [if_pos c0]
  by_cases c1 : 0 ≤ w ∧ w ≤ 2
  case neg =>
    rw [if_neg c1]
    exact LQ_no (k := 2) (by decide) ⟨2, rfl, by decide, ug_stock (hB M rfl rfl) rk rw rn (by unfold tX8_stock; rw [if_pos c0, if_neg c1]; exact hZ _ _ _ (by decide) (by decide) (LE_no h 2 (by decide)))⟩
  rw [if_pos c1]
  by_cases c2 : 1 ≤ n ∧ n ≤ 500
  case neg =>
    rw [if_neg c2]
    exact LQ_no (k := 2) (by decide) ⟨2, rfl, by decide, ug_stock (hB M rfl rfl) rk rw rn (by unfold tX8_stock; rw [if_pos c0, if_pos c1, if_neg c2]; exact hZ _ _ _ (by decide) (by decide) (LE_no h 2 (by decide)))⟩
  rw [if_pos c2]
  by_cases c3 : ¬ 999 < F 9 0 k w + n
  case neg =>
    rw [if_neg c3]
    exact LQ_no (k := 3) (by decide) ⟨3, rfl, by decide, ug_stock (hB M rfl rfl) rk rw rn (by unfold tX8_stock; rw [if_pos c0, if_pos c1, if_pos c2, if_neg c3]; exact hZ _ _ _ (by decide) (by decide) (LE_no h 3 (by decide)))⟩
  rw [if_pos c3]
  have hi : ∀ t : Nat, 20 ≤ t → (xup F 9 0 k w (F 9 0 k w + n) : XM) t = M t := fun t ht => by simp only [xup_tag (show ¬ t = 9 by omega)]; rw [hF]; exact fKeep_hi M (by omega)
  exact LQ_yes ⟨0, rfl, by decide, ug_stock (hB _ ((xup_tag (by decide)).trans (hi 20 (by decide))) ((xup_tag (by decide)).trans (hi 21 (by decide)))) rk rw rn (by
    unfold tX8_stock
    rw [if_pos c0, if_pos c1, if_pos c2, if_pos c3]
    intro M2 hs
    subst hF
    exact hZ 0 _ _ (by decide) (by decide) (LE_op hs (RR_r26 (RR_stock h (by have q := (hk k (by omega) (by omega)).2.1 w c1.1 (by omega); omega) (op_26 hs)))))⟩
theorem uc_cook {M : XM} {Q : XPo} {k : Int} {d : Int} {n : Int} (h : KI M ∧ XInR k ∧ XInR d ∧ XInR n ∧ (if 0 ≤ k ∧ k < M 1 0 0 6 then (if 0 ≤ d ∧ d ≤ 2 then (if 1 ≤ n ∧ n ≤ 300 then (if M 8 0 k 3 = 0 ∧ ¬ kEn M 0 k d < n then Q [xI ((n + M 2 0 0 4 - 1) / M 2 0 0 4)] (kFill (fKeep M) 0 k d n) else Q [xI 2, xI 0] M) else Q [xI 1, xI 0] M) else Q [xI 1, xI 0] M) else Q [xI 3, xI 0] M)) : tEX7_cook [xR 0 0 0, xI k, xI d, xI n] M Q := @id ((0 = 0 ∧ xval 0 0 0) ∧ KI M ∧ XInR k ∧ XInR d ∧ XInR n ∧ (if 0 ≤ k ∧ k < M 1 0 0 6 then (if 0 ≤ d ∧ d ≤ 2 then (if 1 ≤ n ∧ n ≤ 300 then (if M 8 0 k 3 = 0 ∧ ¬ kEn M 0 k d < n then Q [xI ((n + M 2 0 0 4 - 1) / M 2 0 0 4)] (kFill (fKeep M) 0 k d n) else Q [xI 2, xI 0] M) else Q [xI 1, xI 0] M) else Q [xI 1, xI 0] M) else Q [xI 3, xI 0] M)) ⟨⟨rfl, xvz_0⟩, h⟩
theorem ug_cook {F M : XM} {f : Int} {Q : XPo} {k : Int} {d : Int} {n : Int} (hB : RB F f M) (rk : XInR k) (rd : XInR d) (rn : XInR n) (h : tX8_cook F f k d n Q M) : sX8_cook [xR 20 0 0, xI k, xI d, xI n] M Q := @id ((20 = 20 ∧ xval 20 0 0) ∧ ∃ (F : XM) (f : Int), RB F f M ∧ XInR k ∧ XInR d ∧ XInR n ∧ tX8_cook F f k d n Q M) ⟨⟨rfl, xvz_20⟩, F, f, hB, rk, rd, rn, h⟩
theorem lc_cook {M : XM} {Z : Int → XPo} (hZ : ∀ (k : Int) (rv : List XV) (N : XM), 0 ≤ k → k ≤ 3 → LE k rv N → Z k rv N) (h : RR M) {k : Int} {d : Int} {n : Int} (rk : XInR k) (rd : XInR d) (rn : XInR n) : tEX7_cook [xR 0 0 0, xI k, xI d, xI n] M (LQ [3, 1, 2] (LK (fun N => sX8_cook [xR 20 0 0, xI k, xI d, xI n] N) Z)) := by
  obtain ⟨F, hF⟩ : ∃ F : XM, F = fKeep M := ⟨_, rfl⟩
  have hn := h.1.2.1.1
  have hB : ∀ N : XM, N 20 = M 20 → N 21 = M 21 → RB F 0 N := fun N a b => by rw [hF]; exact RB_k2 h a b
  have hI := (hB M rfl rfl).2.1.1
  have hm := (hB M rfl rfl).2.1.2
  obtain ⟨b3, b6, b8, b10, b0, -⟩ := hI.1
  have hk := hI.2.2.1
  have e1 : ∀ k s : Int, M 1 0 k s = F 1 0 k s := fun k s => by rw [hF, fKeep_0 hn 1 (by decide)]
  have e2 : ∀ k s : Int, M 2 0 k s = F 2 0 k s := fun k s => by rw [hF, fKeep_0 hn 2 (by decide)]
  have e8 : ∀ k s : Int, M 8 0 k s = F 8 0 k s := fun k s => by rw [hF, fKeep_0 hn 8 (by decide)]
  have e9 : ∀ k s : Int, M 9 0 k s = F 9 0 k s := fun k s => by rw [hF, fKeep_0 hn 9 (by decide)]
  have e12 : ∀ k s : Int, M 12 0 k s = F 12 0 k s := fun k s => by rw [hF, fKeep_0 hn 12 (by decide)]
  have e13 : ∀ k s : Int, M 13 0 k s = F 13 0 k s := fun k s => by rw [hF, fKeep_0 hn 13 (by decide)]
  have e14 : ∀ k s : Int, M 14 0 k s = F 14 0 k s := fun k s => by rw [hF, fKeep_0 hn 14 (by decide)]
  have eK : ∀ k d : Int, kEn M 0 k d = kEn F 0 k d := fun k d => by rw [hF]; exact kEn_keep hn k d
  have eA : ∀ j : Int, mAll M 0 j = mAll F 0 j := fun j => by rw [hF]; exact mAll_keep hn j
  have eD : ∀ a b : Int, dMin M 0 a b = dMin F 0 a b := fun a b => by rw [hF]; exact (dMin_keep hn a b).symm
  refine uc_cook ⟨h.1, rk, rd, rn, ?_⟩
  simp only [← hF, eD, eK, eA, e1, e2, e8, e9, e12, e13, e14]
  by_cases c0 : 0 ≤ k ∧ k < F 1 0 0 6
  case neg =>
    rw [if_neg c0]
    exact LQ_no (k := 1) (by decide) ⟨1, rfl, by decide, ug_cook (hB M rfl rfl) rk rd rn (by unfold tX8_cook; rw [if_neg c0]; exact hZ _ _ _ (by decide) (by decide) (LE_no h 1 (by decide)))⟩
  rw [if_pos c0]
  by_cases c1 : 0 ≤ d ∧ d ≤ 2
  case neg =>
    rw [if_neg c1]
    exact LQ_no (k := 2) (by decide) ⟨2, rfl, by decide, ug_cook (hB M rfl rfl) rk rd rn (by unfold tX8_cook; rw [if_pos c0, if_neg c1]; exact hZ _ _ _ (by decide) (by decide) (LE_no h 2 (by decide)))⟩
  rw [if_pos c1]
  by_cases c2 : 1 ≤ n ∧ n ≤ 300
  case neg =>
    rw [if_neg c2]
    exact LQ_no (k := 2) (by decide) ⟨2, rfl, by decide, ug_cook (hB M rfl rfl) rk rd rn (by unfold tX8_cook; rw [if_pos c0, if_pos c1, if_neg c2]; exact hZ _ _ _ (by decide) (by decide) (LE_no h 2 (by decide)))⟩
  rw [if_pos c2]
  by_cases c3 : F 8 0 k 3 = 0 ∧ ¬ kEn F 0 k d < n
  case neg =>
    rw [if_neg c3]
    exact LQ_no (k := 3) (by decide) ⟨3, rfl, by decide, ug_cook (hB M rfl rfl) rk rd rn (by unfold tX8_cook; rw [if_pos c0, if_pos c1, if_pos c2, if_neg c3]; exact hZ _ _ _ (by decide) (by decide) (LE_no h 3 (by decide)))⟩
  rw [if_pos c3]
  have hi : ∀ t : Nat, 20 ≤ t → (kFill F 0 k d n : XM) t = M t := fun t ht => by unfold kFill; simp only [xup_tag (show ¬ t = 8 by omega), xup_tag (show ¬ t = 9 by omega)]; rw [hF]; exact fKeep_hi M (by omega)
  exact LQ_yes ⟨0, rfl, by decide, ug_cook (hB _ ((xup_tag (by decide)).trans (hi 20 (by decide))) ((xup_tag (by decide)).trans (hi 21 (by decide)))) rk rd rn (by
    unfold tX8_cook
    rw [if_pos c0, if_pos c1, if_pos c2, if_pos c3]
    intro M2 hs
    subst hF
    exact hZ 0 _ _ (by decide) (by decide) (LE_op hs (RR_r26 (RR_fill h (by omega) c1 c2 (by omega) (op_26 hs)))))⟩
theorem uc_load {M : XM} {Q : XPo} {l : Int} {k : Int} {d : Int} {n : Int} (h : KI M ∧ XInR l ∧ XInR k ∧ XInR d ∧ XInR n ∧ (if 0 ≤ l ∧ l < M 1 0 0 8 then (if 0 ≤ k ∧ k < M 1 0 0 6 then (if 0 ≤ d ∧ d ≤ 2 then (if 1 ≤ n ∧ n ≤ 500 then (if M 13 0 l 0 = M 8 0 k 0 then (if ¬ M 12 0 k d < n then (if ¬ M 2 0 0 5 < mAll M 0 (l + 3) + n then Q [xI (mAll (car (fKeep M) 0 k (l + 3) d n) 0 (l + 3))] (car (fKeep M) 0 k (l + 3) d n) else Q [xI 2, xI 0] M) else Q [xI 2, xI 0] M) else Q [xI 2, xI 0] M) else Q [xI 1, xI 0] M) else Q [xI 1, xI 0] M) else Q [xI 3, xI 0] M) else Q [xI 3, xI 0] M)) : tEX7_load [xR 0 0 0, xI l, xI k, xI d, xI n] M Q := @id ((0 = 0 ∧ xval 0 0 0) ∧ KI M ∧ XInR l ∧ XInR k ∧ XInR d ∧ XInR n ∧ (if 0 ≤ l ∧ l < M 1 0 0 8 then (if 0 ≤ k ∧ k < M 1 0 0 6 then (if 0 ≤ d ∧ d ≤ 2 then (if 1 ≤ n ∧ n ≤ 500 then (if M 13 0 l 0 = M 8 0 k 0 then (if ¬ M 12 0 k d < n then (if ¬ M 2 0 0 5 < mAll M 0 (l + 3) + n then Q [xI (mAll (car (fKeep M) 0 k (l + 3) d n) 0 (l + 3))] (car (fKeep M) 0 k (l + 3) d n) else Q [xI 2, xI 0] M) else Q [xI 2, xI 0] M) else Q [xI 2, xI 0] M) else Q [xI 1, xI 0] M) else Q [xI 1, xI 0] M) else Q [xI 3, xI 0] M) else Q [xI 3, xI 0] M)) ⟨⟨rfl, xvz_0⟩, h⟩
theorem ug_load {F M : XM} {f : Int} {Q : XPo} {l : Int} {k : Int} {d : Int} {n : Int} (hB : RB F f M) (rl : XInR l) (rk : XInR k) (rd : XInR d) (rn : XInR n) (h : tX8_load F f l k d n Q M) : sX8_load [xR 20 0 0, xI l, xI k, xI d, xI n] M Q := @id ((20 = 20 ∧ xval 20 0 0) ∧ ∃ (F : XM) (f : Int), RB F f M ∧ XInR l ∧ XInR k ∧ XInR d ∧ XInR n ∧ tX8_load F f l k d n Q M) ⟨⟨rfl, xvz_20⟩, F, f, hB, rl, rk, rd, rn, h⟩
theorem lc_load {M : XM} {Z : Int → XPo} (hZ : ∀ (k : Int) (rv : List XV) (N : XM), 0 ≤ k → k ≤ 3 → LE k rv N → Z k rv N) (h : RR M) {l : Int} {k : Int} {d : Int} {n : Int} (rl : XInR l) (rk : XInR k) (rd : XInR d) (rn : XInR n) : tEX7_load [xR 0 0 0, xI l, xI k, xI d, xI n] M (LQ [3, 1, 2] (LK (fun N => sX8_load [xR 20 0 0, xI l, xI k, xI d, xI n] N) Z)) := by
  obtain ⟨F, hF⟩ : ∃ F : XM, F = fKeep M := ⟨_, rfl⟩
  have hn := h.1.2.1.1
  have hB : ∀ N : XM, N 20 = M 20 → N 21 = M 21 → RB F 0 N := fun N a b => by rw [hF]; exact RB_k2 h a b
  have hI := (hB M rfl rfl).2.1.1
  have hm := (hB M rfl rfl).2.1.2
  obtain ⟨b3, b6, b8, b10, b0, -⟩ := hI.1
  have hk := hI.2.2.1
  have e1 : ∀ k s : Int, M 1 0 k s = F 1 0 k s := fun k s => by rw [hF, fKeep_0 hn 1 (by decide)]
  have e2 : ∀ k s : Int, M 2 0 k s = F 2 0 k s := fun k s => by rw [hF, fKeep_0 hn 2 (by decide)]
  have e8 : ∀ k s : Int, M 8 0 k s = F 8 0 k s := fun k s => by rw [hF, fKeep_0 hn 8 (by decide)]
  have e9 : ∀ k s : Int, M 9 0 k s = F 9 0 k s := fun k s => by rw [hF, fKeep_0 hn 9 (by decide)]
  have e12 : ∀ k s : Int, M 12 0 k s = F 12 0 k s := fun k s => by rw [hF, fKeep_0 hn 12 (by decide)]
  have e13 : ∀ k s : Int, M 13 0 k s = F 13 0 k s := fun k s => by rw [hF, fKeep_0 hn 13 (by decide)]
  have e14 : ∀ k s : Int, M 14 0 k s = F 14 0 k s := fun k s => by rw [hF, fKeep_0 hn 14 (by decide)]
  have eK : ∀ k d : Int, kEn M 0 k d = kEn F 0 k d := fun k d => by rw [hF]; exact kEn_keep hn k d
  have eA : ∀ j : Int, mAll M 0 j = mAll F 0 j := fun j => by rw [hF]; exact mAll_keep hn j
  have eD : ∀ a b : Int, dMin M 0 a b = dMin F 0 a b := fun a b => by rw [hF]; exact (dMin_keep hn a b).symm
  refine uc_load ⟨h.1, rl, rk, rd, rn, ?_⟩
  simp only [← hF, eD, eK, eA, e1, e2, e8, e9, e12, e13, e14]
  by_cases c0 : 0 ≤ l ∧ l < F 1 0 0 8
  case neg =>
    rw [if_neg c0]
    exact LQ_no (k := 1) (by decide) ⟨1, rfl, by decide, ug_load (hB M rfl rfl) rl rk rd rn (by unfold tX8_load; rw [if_neg c0]; exact hZ _ _ _ (by decide) (by decide) (LE_no h 1 (by decide)))⟩
  rw [if_pos c0]
  by_cases c1 : 0 ≤ k ∧ k < F 1 0 0 6
  case neg =>
    rw [if_neg c1]
    exact LQ_no (k := 1) (by decide) ⟨1, rfl, by decide, ug_load (hB M rfl rfl) rl rk rd rn (by unfold tX8_load; rw [if_pos c0, if_neg c1]; exact hZ _ _ _ (by decide) (by decide) (LE_no h 1 (by decide)))⟩
  rw [if_pos c1]
  by_cases c2 : 0 ≤ d ∧ d ≤ 2
  case neg =>
    rw [if_neg c2]
    exact LQ_no (k := 2) (by decide) ⟨2, rfl, by decide, ug_load (hB M rfl rfl) rl rk rd rn (by unfold tX8_load; rw [if_pos c0, if_pos c1, if_neg c2]; exact hZ _ _ _ (by decide) (by decide) (LE_no h 2 (by decide)))⟩
  rw [if_pos c2]
  by_cases c3 : 1 ≤ n ∧ n ≤ 500
  case neg =>
    rw [if_neg c3]
    exact LQ_no (k := 2) (by decide) ⟨2, rfl, by decide, ug_load (hB M rfl rfl) rl rk rd rn (by unfold tX8_load; rw [if_pos c0, if_pos c1, if_pos c2, if_neg c3]; exact hZ _ _ _ (by decide) (by decide) (LE_no h 2 (by decide)))⟩
  rw [if_pos c3]
  by_cases c4 : F 13 0 l 0 = F 8 0 k 0
  case neg =>
    rw [if_neg c4]
    exact LQ_no (k := 3) (by decide) ⟨3, rfl, by decide, ug_load (hB M rfl rfl) rl rk rd rn (by unfold tX8_load; rw [if_pos c0, if_pos c1, if_pos c2, if_pos c3, if_neg c4]; exact hZ _ _ _ (by decide) (by decide) (LE_no h 3 (by decide)))⟩
  rw [if_pos c4]
  by_cases c5 : ¬ F 12 0 k d < n
  case neg =>
    rw [if_neg c5]
    exact LQ_no (k := 3) (by decide) ⟨3, rfl, by decide, ug_load (hB M rfl rfl) rl rk rd rn (by unfold tX8_load; rw [if_pos c0, if_pos c1, if_pos c2, if_pos c3, if_pos c4, if_neg c5]; exact hZ _ _ _ (by decide) (by decide) (LE_no h 3 (by decide)))⟩
  rw [if_pos c5]
  by_cases c6 : ¬ F 2 0 0 5 < mAll F 0 (l + 3) + n
  case neg =>
    rw [if_neg c6]
    exact LQ_no (k := 3) (by decide) ⟨3, rfl, by decide, ug_load (hB M rfl rfl) rl rk rd rn (by unfold tX8_load; rw [if_pos c0, if_pos c1, if_pos c2, if_pos c3, if_pos c4, if_pos c5, if_neg c6]; exact hZ _ _ _ (by decide) (by decide) (LE_no h 3 (by decide)))⟩
  rw [if_pos c6]
  have hi : ∀ t : Nat, 20 ≤ t → (car F 0 k (l + 3) d n : XM) t = M t := fun t ht => by rw [car_tag (by omega) (by omega)]; rw [hF]; exact fKeep_hi M (by omega)
  exact LQ_yes ⟨0, rfl, by decide, ug_load (hB _ ((xup_tag (by decide)).trans (hi 20 (by decide))) ((xup_tag (by decide)).trans (hi 21 (by decide)))) rl rk rd rn (by
    unfold tX8_load
    rw [if_pos c0, if_pos c1, if_pos c2, if_pos c3, if_pos c4, if_pos c5, if_pos c6]
    intro M2 hs
    subst hF
    exact hZ 0 _ _ (by decide) (by decide) (LE_op hs (RR_r26 (RR_car h (by omega) (by omega) (by omega) c2 (by omega) (op_26 hs)))))⟩
theorem uc_unload {M : XM} {Q : XPo} {l : Int} {k : Int} (h : KI M ∧ XInR l ∧ XInR k ∧ (if 0 ≤ l ∧ l < M 1 0 0 8 then (if 0 ≤ k ∧ k < M 1 0 0 6 then (if M 13 0 l 0 = M 8 0 k 0 then Q [xI (mAll (fKeep M) 0 (l + 3))] (car (car (car (fKeep M) 0 (l + 3) k 0 (mAll (fKeep M) 0 (l + 3))) 0 (l + 3) k 1 (mAll (fKeep M) 0 (l + 3))) 0 (l + 3) k 2 (mAll (fKeep M) 0 (l + 3))) else Q [xI 2, xI 0] M) else Q [xI 3, xI 0] M) else Q [xI 3, xI 0] M)) : tEX7_unload [xR 0 0 0, xI l, xI k] M Q := @id ((0 = 0 ∧ xval 0 0 0) ∧ KI M ∧ XInR l ∧ XInR k ∧ (if 0 ≤ l ∧ l < M 1 0 0 8 then (if 0 ≤ k ∧ k < M 1 0 0 6 then (if M 13 0 l 0 = M 8 0 k 0 then Q [xI (mAll (fKeep M) 0 (l + 3))] (car (car (car (fKeep M) 0 (l + 3) k 0 (mAll (fKeep M) 0 (l + 3))) 0 (l + 3) k 1 (mAll (fKeep M) 0 (l + 3))) 0 (l + 3) k 2 (mAll (fKeep M) 0 (l + 3))) else Q [xI 2, xI 0] M) else Q [xI 3, xI 0] M) else Q [xI 3, xI 0] M)) ⟨⟨rfl, xvz_0⟩, h⟩
theorem ug_unload {F M : XM} {f : Int} {Q : XPo} {l : Int} {k : Int} (hB : RB F f M) (rl : XInR l) (rk : XInR k) (h : tX8_unload F f l k Q M) : sX8_unload [xR 20 0 0, xI l, xI k] M Q := @id ((20 = 20 ∧ xval 20 0 0) ∧ ∃ (F : XM) (f : Int), RB F f M ∧ XInR l ∧ XInR k ∧ tX8_unload F f l k Q M) ⟨⟨rfl, xvz_20⟩, F, f, hB, rl, rk, h⟩
theorem lc_unload {M : XM} {Z : Int → XPo} (hZ : ∀ (k : Int) (rv : List XV) (N : XM), 0 ≤ k → k ≤ 3 → LE k rv N → Z k rv N) (h : RR M) {l : Int} {k : Int} (rl : XInR l) (rk : XInR k) : tEX7_unload [xR 0 0 0, xI l, xI k] M (LQ [3, 2] (LK (fun N => sX8_unload [xR 20 0 0, xI l, xI k] N) Z)) := by
  obtain ⟨F, hF⟩ : ∃ F : XM, F = fKeep M := ⟨_, rfl⟩
  have hn := h.1.2.1.1
  have hB : ∀ N : XM, N 20 = M 20 → N 21 = M 21 → RB F 0 N := fun N a b => by rw [hF]; exact RB_k2 h a b
  have hI := (hB M rfl rfl).2.1.1
  have hm := (hB M rfl rfl).2.1.2
  obtain ⟨b3, b6, b8, b10, b0, -⟩ := hI.1
  have hk := hI.2.2.1
  have e1 : ∀ k s : Int, M 1 0 k s = F 1 0 k s := fun k s => by rw [hF, fKeep_0 hn 1 (by decide)]
  have e2 : ∀ k s : Int, M 2 0 k s = F 2 0 k s := fun k s => by rw [hF, fKeep_0 hn 2 (by decide)]
  have e8 : ∀ k s : Int, M 8 0 k s = F 8 0 k s := fun k s => by rw [hF, fKeep_0 hn 8 (by decide)]
  have e9 : ∀ k s : Int, M 9 0 k s = F 9 0 k s := fun k s => by rw [hF, fKeep_0 hn 9 (by decide)]
  have e12 : ∀ k s : Int, M 12 0 k s = F 12 0 k s := fun k s => by rw [hF, fKeep_0 hn 12 (by decide)]
  have e13 : ∀ k s : Int, M 13 0 k s = F 13 0 k s := fun k s => by rw [hF, fKeep_0 hn 13 (by decide)]
  have e14 : ∀ k s : Int, M 14 0 k s = F 14 0 k s := fun k s => by rw [hF, fKeep_0 hn 14 (by decide)]
  have eK : ∀ k d : Int, kEn M 0 k d = kEn F 0 k d := fun k d => by rw [hF]; exact kEn_keep hn k d
  have eA : ∀ j : Int, mAll M 0 j = mAll F 0 j := fun j => by rw [hF]; exact mAll_keep hn j
  have eD : ∀ a b : Int, dMin M 0 a b = dMin F 0 a b := fun a b => by rw [hF]; exact (dMin_keep hn a b).symm
  refine uc_unload ⟨h.1, rl, rk, ?_⟩
  simp only [← hF, eD, eK, eA, e1, e2, e8, e9, e12, e13, e14]
  by_cases c0 : 0 ≤ l ∧ l < F 1 0 0 8
  case neg =>
    rw [if_neg c0]
    exact LQ_no (k := 1) (by decide) ⟨1, rfl, by decide, ug_unload (hB M rfl rfl) rl rk (by unfold tX8_unload; rw [if_neg c0]; exact hZ _ _ _ (by decide) (by decide) (LE_no h 1 (by decide)))⟩
  rw [if_pos c0]
  by_cases c1 : 0 ≤ k ∧ k < F 1 0 0 6
  case neg =>
    rw [if_neg c1]
    exact LQ_no (k := 1) (by decide) ⟨1, rfl, by decide, ug_unload (hB M rfl rfl) rl rk (by unfold tX8_unload; rw [if_pos c0, if_neg c1]; exact hZ _ _ _ (by decide) (by decide) (LE_no h 1 (by decide)))⟩
  rw [if_pos c1]
  by_cases c2 : F 13 0 l 0 = F 8 0 k 0
  case neg =>
    rw [if_neg c2]
    exact LQ_no (k := 2) (by decide) ⟨2, rfl, by decide, ug_unload (hB M rfl rfl) rl rk (by unfold tX8_unload; rw [if_pos c0, if_pos c1, if_neg c2]; exact hZ _ _ _ (by decide) (by decide) (LE_no h 2 (by decide)))⟩
  rw [if_pos c2]
  have hi : ∀ t : Nat, 20 ≤ t → (car (car (car F 0 (l + 3) k 0 (mAll F 0 (l + 3))) 0 (l + 3) k 1 (mAll F 0 (l + 3))) 0 (l + 3) k 2 (mAll F 0 (l + 3)) : XM) t = M t := fun t ht => by rw [car_tag (by omega) (by omega), car_tag (by omega) (by omega), car_tag (by omega) (by omega)]; rw [hF]; exact fKeep_hi M (by omega)
  have hw : 0 ≤ mAll F 0 (l + 3) := (mAll_in (fS_at hI.2.1 (by decide) (j := l + 3) (by omega) (by omega)).1 (fS_at hI.2.1 (by decide) (j := l + 3) (by omega) (by omega)).2).2.1
  exact LQ_yes ⟨0, rfl, by decide, ug_unload (hB _ ((xup_tag (by decide)).trans (hi 20 (by decide))) ((xup_tag (by decide)).trans (hi 21 (by decide)))) rl rk (by
    unfold tX8_unload
    rw [if_pos c0, if_pos c1, if_pos c2]
    intro M2 hs
    subst hF
    exact hZ 0 _ _ (by decide) (by decide) (LE_op hs (RR_r26 (RR_unload h (by omega) (by omega) (by omega) hw (op_26 hs)))))⟩
theorem uc_drive {M : XM} {Q : XPo} {l : Int} {p : Int} (h : KI M ∧ XInR l ∧ XInR p ∧ (if 0 ≤ l ∧ l < M 1 0 0 8 then (if 0 ≤ p ∧ p < M 1 0 0 3 then (if ¬ M 13 0 l 0 = -1 ∧ ¬ M 13 0 l 0 = p then Q [xI (dMin M 0 (M 13 0 l 0) p)] (xup (xup (xup (fKeep M) 13 0 l 2 (dMin M 0 (M 13 0 l 0) p)) 13 0 l 0 (-1)) 13 0 l 1 p) else Q [xI 2, xI 0] M) else Q [xI 3, xI 0] M) else Q [xI 3, xI 0] M)) : tEX7_drive [xR 0 0 0, xI l, xI p] M Q := @id ((0 = 0 ∧ xval 0 0 0) ∧ KI M ∧ XInR l ∧ XInR p ∧ (if 0 ≤ l ∧ l < M 1 0 0 8 then (if 0 ≤ p ∧ p < M 1 0 0 3 then (if ¬ M 13 0 l 0 = -1 ∧ ¬ M 13 0 l 0 = p then Q [xI (dMin M 0 (M 13 0 l 0) p)] (xup (xup (xup (fKeep M) 13 0 l 2 (dMin M 0 (M 13 0 l 0) p)) 13 0 l 0 (-1)) 13 0 l 1 p) else Q [xI 2, xI 0] M) else Q [xI 3, xI 0] M) else Q [xI 3, xI 0] M)) ⟨⟨rfl, xvz_0⟩, h⟩
theorem ug_drive {F M : XM} {f : Int} {Q : XPo} {l : Int} {p : Int} (hB : RB F f M) (rl : XInR l) (rp : XInR p) (h : tX8_drive F f l p Q M) : sX8_drive [xR 20 0 0, xI l, xI p] M Q := @id ((20 = 20 ∧ xval 20 0 0) ∧ ∃ (F : XM) (f : Int), RB F f M ∧ XInR l ∧ XInR p ∧ tX8_drive F f l p Q M) ⟨⟨rfl, xvz_20⟩, F, f, hB, rl, rp, h⟩
theorem lc_drive {M : XM} {Z : Int → XPo} (hZ : ∀ (k : Int) (rv : List XV) (N : XM), 0 ≤ k → k ≤ 3 → LE k rv N → Z k rv N) (h : RR M) {l : Int} {p : Int} (rl : XInR l) (rp : XInR p) : tEX7_drive [xR 0 0 0, xI l, xI p] M (LQ [3, 2] (LK (fun N => sX8_drive [xR 20 0 0, xI l, xI p] N) Z)) := by
  obtain ⟨F, hF⟩ : ∃ F : XM, F = fKeep M := ⟨_, rfl⟩
  have hn := h.1.2.1.1
  have hB : ∀ N : XM, N 20 = M 20 → N 21 = M 21 → RB F 0 N := fun N a b => by rw [hF]; exact RB_k2 h a b
  have hI := (hB M rfl rfl).2.1.1
  have hm := (hB M rfl rfl).2.1.2
  obtain ⟨b3, b6, b8, b10, b0, -⟩ := hI.1
  have hk := hI.2.2.1
  have e1 : ∀ k s : Int, M 1 0 k s = F 1 0 k s := fun k s => by rw [hF, fKeep_0 hn 1 (by decide)]
  have e2 : ∀ k s : Int, M 2 0 k s = F 2 0 k s := fun k s => by rw [hF, fKeep_0 hn 2 (by decide)]
  have e8 : ∀ k s : Int, M 8 0 k s = F 8 0 k s := fun k s => by rw [hF, fKeep_0 hn 8 (by decide)]
  have e9 : ∀ k s : Int, M 9 0 k s = F 9 0 k s := fun k s => by rw [hF, fKeep_0 hn 9 (by decide)]
  have e12 : ∀ k s : Int, M 12 0 k s = F 12 0 k s := fun k s => by rw [hF, fKeep_0 hn 12 (by decide)]
  have e13 : ∀ k s : Int, M 13 0 k s = F 13 0 k s := fun k s => by rw [hF, fKeep_0 hn 13 (by decide)]
  have e14 : ∀ k s : Int, M 14 0 k s = F 14 0 k s := fun k s => by rw [hF, fKeep_0 hn 14 (by decide)]
  have eK : ∀ k d : Int, kEn M 0 k d = kEn F 0 k d := fun k d => by rw [hF]; exact kEn_keep hn k d
  have eA : ∀ j : Int, mAll M 0 j = mAll F 0 j := fun j => by rw [hF]; exact mAll_keep hn j
  have eD : ∀ a b : Int, dMin M 0 a b = dMin F 0 a b := fun a b => by rw [hF]; exact (dMin_keep hn a b).symm
  refine uc_drive ⟨h.1, rl, rp, ?_⟩
  simp only [← hF, eD, eK, eA, e1, e2, e8, e9, e12, e13, e14]
  by_cases c0 : 0 ≤ l ∧ l < F 1 0 0 8
  case neg =>
    rw [if_neg c0]
    exact LQ_no (k := 1) (by decide) ⟨1, rfl, by decide, ug_drive (hB M rfl rfl) rl rp (by unfold tX8_drive; rw [if_neg c0]; exact hZ _ _ _ (by decide) (by decide) (LE_no h 1 (by decide)))⟩
  rw [if_pos c0]
  by_cases c1 : 0 ≤ p ∧ p < F 1 0 0 3
  case neg =>
    rw [if_neg c1]
    exact LQ_no (k := 1) (by decide) ⟨1, rfl, by decide, ug_drive (hB M rfl rfl) rl rp (by unfold tX8_drive; rw [if_pos c0, if_neg c1]; exact hZ _ _ _ (by decide) (by decide) (LE_no h 1 (by decide)))⟩
  rw [if_pos c1]
  by_cases c2 : ¬ F 13 0 l 0 = -1 ∧ ¬ F 13 0 l 0 = p
  case neg =>
    rw [if_neg c2]
    exact LQ_no (k := 2) (by decide) ⟨2, rfl, by decide, ug_drive (hB M rfl rfl) rl rp (by unfold tX8_drive; rw [if_pos c0, if_pos c1, if_neg c2]; exact hZ _ _ _ (by decide) (by decide) (LE_no h 2 (by decide)))⟩
  rw [if_pos c2]
  have hi : ∀ t : Nat, 20 ≤ t → (xup (xup (xup F 13 0 l 2 (dMin F 0 (F 13 0 l 0) p)) 13 0 l 0 (-1)) 13 0 l 1 p : XM) t = M t := fun t ht => by simp only [xup_tag (show ¬ t = 13 by omega)]; rw [hF]; exact fKeep_hi M (by omega)
  have hd := dMin_1 (hB M rfl rfl).1 c0 (by omega) c1 c2.1 c2.2
  have hd2 := (dMin_in (a := F 13 0 l 0) (b := p) hI.1).2
  exact LQ_yes ⟨0, rfl, by decide, ug_drive (hB _ ((xup_tag (by decide)).trans (hi 20 (by decide))) ((xup_tag (by decide)).trans (hi 21 (by decide)))) rl rp (by
    unfold tX8_drive
    rw [if_pos c0, if_pos c1, if_pos c2]
    intro M2 hs
    subst hF
    exact hZ 0 _ _ (by decide) (by decide) (LE_op hs (RR_r26 (RR_drive h (by omega) (by omega) (op_26 hs)))))⟩
theorem uc_addUnit {M : XM} {Q : XPo} {p : Int} {n : Int} {g : Int} {c : Int} {v : Int} (h : KI M ∧ XInR p ∧ XInR n ∧ XInR g ∧ XInR c ∧ XInR v ∧ (if 0 ≤ p ∧ p < M 1 0 0 3 then (if 1 ≤ n ∧ n ≤ 300 then (if 0 ≤ g ∧ g ≤ n then (if 1 ≤ c ∧ c ≤ 600 then (if 30 ≤ v ∧ v ≤ 600 then (if ¬ 12 ≤ M 1 0 0 10 then Q [xI (M 1 0 0 10)] (fNewU (fKeep M) 0 p n g (M 1 0 0 0 + c) v) else Q [xI 2, xI 0] M) else Q [xI 1, xI 0] M) else Q [xI 1, xI 0] M) else Q [xI 1, xI 0] M) else Q [xI 1, xI 0] M) else Q [xI 3, xI 0] M)) : tEX7_addUnit [xR 0 0 0, xI p, xI n, xI g, xI c, xI v] M Q := @id ((0 = 0 ∧ xval 0 0 0) ∧ KI M ∧ XInR p ∧ XInR n ∧ XInR g ∧ XInR c ∧ XInR v ∧ (if 0 ≤ p ∧ p < M 1 0 0 3 then (if 1 ≤ n ∧ n ≤ 300 then (if 0 ≤ g ∧ g ≤ n then (if 1 ≤ c ∧ c ≤ 600 then (if 30 ≤ v ∧ v ≤ 600 then (if ¬ 12 ≤ M 1 0 0 10 then Q [xI (M 1 0 0 10)] (fNewU (fKeep M) 0 p n g (M 1 0 0 0 + c) v) else Q [xI 2, xI 0] M) else Q [xI 1, xI 0] M) else Q [xI 1, xI 0] M) else Q [xI 1, xI 0] M) else Q [xI 1, xI 0] M) else Q [xI 3, xI 0] M)) ⟨⟨rfl, xvz_0⟩, h⟩
theorem ug_addUnit {F M : XM} {f : Int} {Q : XPo} {p : Int} {n : Int} {g : Int} {c : Int} {v : Int} (hB : RB F f M) (rp : XInR p) (rn : XInR n) (rg : XInR g) (rc : XInR c) (rv : XInR v) (h : tX8_addUnit F f p n g c v Q M) : sX8_addUnit [xR 20 0 0, xI p, xI n, xI g, xI c, xI v] M Q := @id ((20 = 20 ∧ xval 20 0 0) ∧ ∃ (F : XM) (f : Int), RB F f M ∧ XInR p ∧ XInR n ∧ XInR g ∧ XInR c ∧ XInR v ∧ tX8_addUnit F f p n g c v Q M) ⟨⟨rfl, xvz_20⟩, F, f, hB, rp, rn, rg, rc, rv, h⟩
theorem lc_addUnit {M : XM} {Z : Int → XPo} (hZ : ∀ (k : Int) (rv : List XV) (N : XM), 0 ≤ k → k ≤ 3 → LE k rv N → Z k rv N) (h : RR M) {p : Int} {n : Int} {g : Int} {c : Int} {v : Int} (rp : XInR p) (rn : XInR n) (rg : XInR g) (rc : XInR c) (rv : XInR v) : tEX7_addUnit [xR 0 0 0, xI p, xI n, xI g, xI c, xI v] M (LQ [3, 1, 2] (LK (fun N => sX8_addUnit [xR 20 0 0, xI p, xI n, xI g, xI c, xI v] N) Z)) := by
  obtain ⟨F, hF⟩ : ∃ F : XM, F = fKeep M := ⟨_, rfl⟩
  have hn := h.1.2.1.1
  have hB : ∀ N : XM, N 20 = M 20 → N 21 = M 21 → RB F 0 N := fun N a b => by rw [hF]; exact RB_k2 h a b
  have hI := (hB M rfl rfl).2.1.1
  have hm := (hB M rfl rfl).2.1.2
  obtain ⟨b3, b6, b8, b10, b0, -⟩ := hI.1
  have hk := hI.2.2.1
  have e1 : ∀ k s : Int, M 1 0 k s = F 1 0 k s := fun k s => by rw [hF, fKeep_0 hn 1 (by decide)]
  have e2 : ∀ k s : Int, M 2 0 k s = F 2 0 k s := fun k s => by rw [hF, fKeep_0 hn 2 (by decide)]
  have e8 : ∀ k s : Int, M 8 0 k s = F 8 0 k s := fun k s => by rw [hF, fKeep_0 hn 8 (by decide)]
  have e9 : ∀ k s : Int, M 9 0 k s = F 9 0 k s := fun k s => by rw [hF, fKeep_0 hn 9 (by decide)]
  have e12 : ∀ k s : Int, M 12 0 k s = F 12 0 k s := fun k s => by rw [hF, fKeep_0 hn 12 (by decide)]
  have e13 : ∀ k s : Int, M 13 0 k s = F 13 0 k s := fun k s => by rw [hF, fKeep_0 hn 13 (by decide)]
  have e14 : ∀ k s : Int, M 14 0 k s = F 14 0 k s := fun k s => by rw [hF, fKeep_0 hn 14 (by decide)]
  have eK : ∀ k d : Int, kEn M 0 k d = kEn F 0 k d := fun k d => by rw [hF]; exact kEn_keep hn k d
  have eA : ∀ j : Int, mAll M 0 j = mAll F 0 j := fun j => by rw [hF]; exact mAll_keep hn j
  have eD : ∀ a b : Int, dMin M 0 a b = dMin F 0 a b := fun a b => by rw [hF]; exact (dMin_keep hn a b).symm
  refine uc_addUnit ⟨h.1, rp, rn, rg, rc, rv, ?_⟩
  simp only [← hF, eD, eK, eA, e1, e2, e8, e9, e12, e13, e14]
  by_cases c0 : 0 ≤ p ∧ p < F 1 0 0 3
  case neg =>
    rw [if_neg c0]
    exact LQ_no (k := 1) (by decide) ⟨1, rfl, by decide, ug_addUnit (hB M rfl rfl) rp rn rg rc rv (by unfold tX8_addUnit; rw [if_neg c0]; exact hZ _ _ _ (by decide) (by decide) (LE_no h 1 (by decide)))⟩
  rw [if_pos c0]
  by_cases c1 : 1 ≤ n ∧ n ≤ 300
  case neg =>
    rw [if_neg c1]
    exact LQ_no (k := 2) (by decide) ⟨2, rfl, by decide, ug_addUnit (hB M rfl rfl) rp rn rg rc rv (by unfold tX8_addUnit; rw [if_pos c0, if_neg c1]; exact hZ _ _ _ (by decide) (by decide) (LE_no h 2 (by decide)))⟩
  rw [if_pos c1]
  by_cases c2 : 0 ≤ g ∧ g ≤ n
  case neg =>
    rw [if_neg c2]
    exact LQ_no (k := 2) (by decide) ⟨2, rfl, by decide, ug_addUnit (hB M rfl rfl) rp rn rg rc rv (by unfold tX8_addUnit; rw [if_pos c0, if_pos c1, if_neg c2]; exact hZ _ _ _ (by decide) (by decide) (LE_no h 2 (by decide)))⟩
  rw [if_pos c2]
  by_cases c3 : 1 ≤ c ∧ c ≤ 600
  case neg =>
    rw [if_neg c3]
    exact LQ_no (k := 2) (by decide) ⟨2, rfl, by decide, ug_addUnit (hB M rfl rfl) rp rn rg rc rv (by unfold tX8_addUnit; rw [if_pos c0, if_pos c1, if_pos c2, if_neg c3]; exact hZ _ _ _ (by decide) (by decide) (LE_no h 2 (by decide)))⟩
  rw [if_pos c3]
  by_cases c4 : 30 ≤ v ∧ v ≤ 600
  case neg =>
    rw [if_neg c4]
    exact LQ_no (k := 2) (by decide) ⟨2, rfl, by decide, ug_addUnit (hB M rfl rfl) rp rn rg rc rv (by unfold tX8_addUnit; rw [if_pos c0, if_pos c1, if_pos c2, if_pos c3, if_neg c4]; exact hZ _ _ _ (by decide) (by decide) (LE_no h 2 (by decide)))⟩
  rw [if_pos c4]
  by_cases c5 : ¬ 12 ≤ F 1 0 0 10
  case neg =>
    rw [if_neg c5]
    exact LQ_no (k := 3) (by decide) ⟨3, rfl, by decide, ug_addUnit (hB M rfl rfl) rp rn rg rc rv (by unfold tX8_addUnit; rw [if_pos c0, if_pos c1, if_pos c2, if_pos c3, if_pos c4, if_neg c5]; exact hZ _ _ _ (by decide) (by decide) (LE_no h 3 (by decide)))⟩
  rw [if_pos c5]
  have hi : ∀ t : Nat, 20 ≤ t → (fNewU F 0 p n g (F 1 0 0 0 + c) v : XM) t = M t := fun t ht => by unfold fNewU; simp only [xup_tag (show ¬ t = 1 by omega), xup_tag (show ¬ t = 14 by omega)]; rw [hF]; exact fKeep_hi M (by omega)
  exact LQ_yes ⟨0, rfl, by decide, ug_addUnit (hB _ ((xup_tag (by decide)).trans (hi 20 (by decide))) ((xup_tag (by decide)).trans (hi 21 (by decide)))) rp rn rg rc rv (by
    unfold tX8_addUnit
    rw [if_pos c0, if_pos c1, if_pos c2, if_pos c3, if_pos c4, if_pos c5]
    intro M2 hs
    subst hF
    exact hZ 0 _ _ (by decide) (by decide) (LE_op hs (RR_r26 (RR_newU h (by omega) (by omega) (by omega) c2 (by omega) (by omega) (op_26 hs)))))⟩
theorem uc_split {M : XM} {Q : XPo} {u : Int} {n : Int} {g : Int} (h : KI M ∧ XInR u ∧ XInR n ∧ XInR g ∧ (if 0 ≤ u ∧ u < M 1 0 0 10 then (if 1 ≤ n ∧ n ≤ 299 then (if 0 ≤ g ∧ g ≤ n then (if M 14 0 u 0 = 0 ∧ ¬ 12 ≤ M 1 0 0 10 then (if ¬ M 14 0 u 2 ≤ n ∧ ¬ M 14 0 u 3 < g then (if ¬ M 14 0 u 2 - M 14 0 u 3 < n - g then Q [xI (M 1 0 0 10)] (fNewU (xup (xup (fKeep M) 14 0 u 2 (M 14 0 u 2 - n)) 14 0 u 3 (M 14 0 u 3 - g)) 0 (M 14 0 u 1) n g (M 14 0 u 4) (M 14 0 u 5)) else Q [xI 2, xI 0] M) else Q [xI 2, xI 0] M) else Q [xI 2, xI 0] M) else Q [xI 1, xI 0] M) else Q [xI 1, xI 0] M) else Q [xI 3, xI 0] M)) : tEX7_split [xR 0 0 0, xI u, xI n, xI g] M Q := @id ((0 = 0 ∧ xval 0 0 0) ∧ KI M ∧ XInR u ∧ XInR n ∧ XInR g ∧ (if 0 ≤ u ∧ u < M 1 0 0 10 then (if 1 ≤ n ∧ n ≤ 299 then (if 0 ≤ g ∧ g ≤ n then (if M 14 0 u 0 = 0 ∧ ¬ 12 ≤ M 1 0 0 10 then (if ¬ M 14 0 u 2 ≤ n ∧ ¬ M 14 0 u 3 < g then (if ¬ M 14 0 u 2 - M 14 0 u 3 < n - g then Q [xI (M 1 0 0 10)] (fNewU (xup (xup (fKeep M) 14 0 u 2 (M 14 0 u 2 - n)) 14 0 u 3 (M 14 0 u 3 - g)) 0 (M 14 0 u 1) n g (M 14 0 u 4) (M 14 0 u 5)) else Q [xI 2, xI 0] M) else Q [xI 2, xI 0] M) else Q [xI 2, xI 0] M) else Q [xI 1, xI 0] M) else Q [xI 1, xI 0] M) else Q [xI 3, xI 0] M)) ⟨⟨rfl, xvz_0⟩, h⟩
theorem ug_split {F M : XM} {f : Int} {Q : XPo} {u : Int} {n : Int} {g : Int} (hB : RB F f M) (ru : XInR u) (rn : XInR n) (rg : XInR g) (h : tX8_split F f u n g Q M) : sX8_split [xR 20 0 0, xI u, xI n, xI g] M Q := @id ((20 = 20 ∧ xval 20 0 0) ∧ ∃ (F : XM) (f : Int), RB F f M ∧ XInR u ∧ XInR n ∧ XInR g ∧ tX8_split F f u n g Q M) ⟨⟨rfl, xvz_20⟩, F, f, hB, ru, rn, rg, h⟩
theorem lc_split {M : XM} {Z : Int → XPo} (hZ : ∀ (k : Int) (rv : List XV) (N : XM), 0 ≤ k → k ≤ 3 → LE k rv N → Z k rv N) (h : RR M) {u : Int} {n : Int} {g : Int} (ru : XInR u) (rn : XInR n) (rg : XInR g) : tEX7_split [xR 0 0 0, xI u, xI n, xI g] M (LQ [3, 1, 2] (LK (fun N => sX8_split [xR 20 0 0, xI u, xI n, xI g] N) Z)) := by
  obtain ⟨F, hF⟩ : ∃ F : XM, F = fKeep M := ⟨_, rfl⟩
  have hn := h.1.2.1.1
  have hB : ∀ N : XM, N 20 = M 20 → N 21 = M 21 → RB F 0 N := fun N a b => by rw [hF]; exact RB_k2 h a b
  have hI := (hB M rfl rfl).2.1.1
  have hm := (hB M rfl rfl).2.1.2
  obtain ⟨b3, b6, b8, b10, b0, -⟩ := hI.1
  have hk := hI.2.2.1
  have e1 : ∀ k s : Int, M 1 0 k s = F 1 0 k s := fun k s => by rw [hF, fKeep_0 hn 1 (by decide)]
  have e2 : ∀ k s : Int, M 2 0 k s = F 2 0 k s := fun k s => by rw [hF, fKeep_0 hn 2 (by decide)]
  have e8 : ∀ k s : Int, M 8 0 k s = F 8 0 k s := fun k s => by rw [hF, fKeep_0 hn 8 (by decide)]
  have e9 : ∀ k s : Int, M 9 0 k s = F 9 0 k s := fun k s => by rw [hF, fKeep_0 hn 9 (by decide)]
  have e12 : ∀ k s : Int, M 12 0 k s = F 12 0 k s := fun k s => by rw [hF, fKeep_0 hn 12 (by decide)]
  have e13 : ∀ k s : Int, M 13 0 k s = F 13 0 k s := fun k s => by rw [hF, fKeep_0 hn 13 (by decide)]
  have e14 : ∀ k s : Int, M 14 0 k s = F 14 0 k s := fun k s => by rw [hF, fKeep_0 hn 14 (by decide)]
  have eK : ∀ k d : Int, kEn M 0 k d = kEn F 0 k d := fun k d => by rw [hF]; exact kEn_keep hn k d
  have eA : ∀ j : Int, mAll M 0 j = mAll F 0 j := fun j => by rw [hF]; exact mAll_keep hn j
  have eD : ∀ a b : Int, dMin M 0 a b = dMin F 0 a b := fun a b => by rw [hF]; exact (dMin_keep hn a b).symm
  refine uc_split ⟨h.1, ru, rn, rg, ?_⟩
  simp only [← hF, eD, eK, eA, e1, e2, e8, e9, e12, e13, e14]
  by_cases c0 : 0 ≤ u ∧ u < F 1 0 0 10
  case neg =>
    rw [if_neg c0]
    exact LQ_no (k := 1) (by decide) ⟨1, rfl, by decide, ug_split (hB M rfl rfl) ru rn rg (by unfold tX8_split; rw [if_neg c0]; exact hZ _ _ _ (by decide) (by decide) (LE_no h 1 (by decide)))⟩
  rw [if_pos c0]
  by_cases c1 : 1 ≤ n ∧ n ≤ 299
  case neg =>
    rw [if_neg c1]
    exact LQ_no (k := 2) (by decide) ⟨2, rfl, by decide, ug_split (hB M rfl rfl) ru rn rg (by unfold tX8_split; rw [if_pos c0, if_neg c1]; exact hZ _ _ _ (by decide) (by decide) (LE_no h 2 (by decide)))⟩
  rw [if_pos c1]
  by_cases c2 : 0 ≤ g ∧ g ≤ n
  case neg =>
    rw [if_neg c2]
    exact LQ_no (k := 2) (by decide) ⟨2, rfl, by decide, ug_split (hB M rfl rfl) ru rn rg (by unfold tX8_split; rw [if_pos c0, if_pos c1, if_neg c2]; exact hZ _ _ _ (by decide) (by decide) (LE_no h 2 (by decide)))⟩
  rw [if_pos c2]
  by_cases c3 : F 14 0 u 0 = 0 ∧ ¬ 12 ≤ F 1 0 0 10
  case neg =>
    rw [if_neg c3]
    exact LQ_no (k := 3) (by decide) ⟨3, rfl, by decide, ug_split (hB M rfl rfl) ru rn rg (by unfold tX8_split; rw [if_pos c0, if_pos c1, if_pos c2, if_neg c3]; exact hZ _ _ _ (by decide) (by decide) (LE_no h 3 (by decide)))⟩
  rw [if_pos c3]
  by_cases c4 : ¬ F 14 0 u 2 ≤ n ∧ ¬ F 14 0 u 3 < g
  case neg =>
    rw [if_neg c4]
    exact LQ_no (k := 3) (by decide) ⟨3, rfl, by decide, ug_split (hB M rfl rfl) ru rn rg (by unfold tX8_split; rw [if_pos c0, if_pos c1, if_pos c2, if_pos c3, if_neg c4]; exact hZ _ _ _ (by decide) (by decide) (LE_no h 3 (by decide)))⟩
  rw [if_pos c4]
  by_cases c5 : ¬ F 14 0 u 2 - F 14 0 u 3 < n - g
  case neg =>
    rw [if_neg c5]
    exact LQ_no (k := 3) (by decide) ⟨3, rfl, by decide, ug_split (hB M rfl rfl) ru rn rg (by unfold tX8_split; rw [if_pos c0, if_pos c1, if_pos c2, if_pos c3, if_pos c4, if_neg c5]; exact hZ _ _ _ (by decide) (by decide) (LE_no h 3 (by decide)))⟩
  rw [if_pos c5]
  have hi : ∀ t : Nat, 20 ≤ t → (fNewU (xup (xup F 14 0 u 2 (F 14 0 u 2 - n)) 14 0 u 3 (F 14 0 u 3 - g)) 0 (F 14 0 u 1) n g (F 14 0 u 4) (F 14 0 u 5) : XM) t = M t := fun t ht => by unfold fNewU; simp only [xup_tag (show ¬ t = 1 by omega), xup_tag (show ¬ t = 14 by omega)]; rw [hF]; exact fKeep_hi M (by omega)
  exact LQ_yes ⟨0, rfl, by decide, ug_split (hB _ ((xup_tag (by decide)).trans (hi 20 (by decide))) ((xup_tag (by decide)).trans (hi 21 (by decide)))) ru rn rg (by
    unfold tX8_split
    rw [if_pos c0, if_pos c1, if_pos c2, if_pos c3, if_pos c4, if_pos c5]
    intro M2 hs
    subst hF
    exact hZ 0 _ _ (by decide) (by decide) (LE_op hs (RR_r26 (RR_split h (by omega) (by omega) (by omega) c2 (by omega) (by omega) (by omega) (op_26 hs)))))⟩
theorem uc_join {M : XM} {Q : XPo} {u : Int} {w : Int} (h : KI M ∧ XInR u ∧ XInR w ∧ (if 0 ≤ u ∧ u < M 1 0 0 10 then (if 0 ≤ w ∧ w < M 1 0 0 10 then (if ¬ u = w then (if M 14 0 u 0 = 0 ∧ M 14 0 w 0 = 0 then (if M 14 0 u 1 = M 14 0 w 1 ∧ ¬ 300 < M 14 0 u 2 + M 14 0 w 2 then Q [xI (M 14 0 w 2 + M 14 0 u 2)] (uLeave (uTake (fKeep M) 0 w 0 u) 0 u 2) else Q [xI 2, xI 0] M) else Q [xI 2, xI 0] M) else Q [xI 1, xI 0] M) else Q [xI 3, xI 0] M) else Q [xI 3, xI 0] M)) : tEX7_join [xR 0 0 0, xI u, xI w] M Q := @id ((0 = 0 ∧ xval 0 0 0) ∧ KI M ∧ XInR u ∧ XInR w ∧ (if 0 ≤ u ∧ u < M 1 0 0 10 then (if 0 ≤ w ∧ w < M 1 0 0 10 then (if ¬ u = w then (if M 14 0 u 0 = 0 ∧ M 14 0 w 0 = 0 then (if M 14 0 u 1 = M 14 0 w 1 ∧ ¬ 300 < M 14 0 u 2 + M 14 0 w 2 then Q [xI (M 14 0 w 2 + M 14 0 u 2)] (uLeave (uTake (fKeep M) 0 w 0 u) 0 u 2) else Q [xI 2, xI 0] M) else Q [xI 2, xI 0] M) else Q [xI 1, xI 0] M) else Q [xI 3, xI 0] M) else Q [xI 3, xI 0] M)) ⟨⟨rfl, xvz_0⟩, h⟩
theorem ug_join {F M : XM} {f : Int} {Q : XPo} {u : Int} {w : Int} (hB : RB F f M) (ru : XInR u) (rw : XInR w) (h : tX8_join F f u w Q M) : sX8_join [xR 20 0 0, xI u, xI w] M Q := @id ((20 = 20 ∧ xval 20 0 0) ∧ ∃ (F : XM) (f : Int), RB F f M ∧ XInR u ∧ XInR w ∧ tX8_join F f u w Q M) ⟨⟨rfl, xvz_20⟩, F, f, hB, ru, rw, h⟩
theorem lc_join {M : XM} {Z : Int → XPo} (hZ : ∀ (k : Int) (rv : List XV) (N : XM), 0 ≤ k → k ≤ 3 → LE k rv N → Z k rv N) (h : RR M) {u : Int} {w : Int} (ru : XInR u) (rw : XInR w) : tEX7_join [xR 0 0 0, xI u, xI w] M (LQ [3, 1, 2] (LK (fun N => sX8_join [xR 20 0 0, xI u, xI w] N) Z)) := by
  obtain ⟨F, hF⟩ : ∃ F : XM, F = fKeep M := ⟨_, rfl⟩
  have hn := h.1.2.1.1
  have hB : ∀ N : XM, N 20 = M 20 → N 21 = M 21 → RB F 0 N := fun N a b => by rw [hF]; exact RB_k2 h a b
  have hI := (hB M rfl rfl).2.1.1
  have hm := (hB M rfl rfl).2.1.2
  obtain ⟨b3, b6, b8, b10, b0, -⟩ := hI.1
  have hk := hI.2.2.1
  have e1 : ∀ k s : Int, M 1 0 k s = F 1 0 k s := fun k s => by rw [hF, fKeep_0 hn 1 (by decide)]
  have e2 : ∀ k s : Int, M 2 0 k s = F 2 0 k s := fun k s => by rw [hF, fKeep_0 hn 2 (by decide)]
  have e8 : ∀ k s : Int, M 8 0 k s = F 8 0 k s := fun k s => by rw [hF, fKeep_0 hn 8 (by decide)]
  have e9 : ∀ k s : Int, M 9 0 k s = F 9 0 k s := fun k s => by rw [hF, fKeep_0 hn 9 (by decide)]
  have e12 : ∀ k s : Int, M 12 0 k s = F 12 0 k s := fun k s => by rw [hF, fKeep_0 hn 12 (by decide)]
  have e13 : ∀ k s : Int, M 13 0 k s = F 13 0 k s := fun k s => by rw [hF, fKeep_0 hn 13 (by decide)]
  have e14 : ∀ k s : Int, M 14 0 k s = F 14 0 k s := fun k s => by rw [hF, fKeep_0 hn 14 (by decide)]
  have eK : ∀ k d : Int, kEn M 0 k d = kEn F 0 k d := fun k d => by rw [hF]; exact kEn_keep hn k d
  have eA : ∀ j : Int, mAll M 0 j = mAll F 0 j := fun j => by rw [hF]; exact mAll_keep hn j
  have eD : ∀ a b : Int, dMin M 0 a b = dMin F 0 a b := fun a b => by rw [hF]; exact (dMin_keep hn a b).symm
  refine uc_join ⟨h.1, ru, rw, ?_⟩
  simp only [← hF, eD, eK, eA, e1, e2, e8, e9, e12, e13, e14]
  by_cases c0 : 0 ≤ u ∧ u < F 1 0 0 10
  case neg =>
    rw [if_neg c0]
    exact LQ_no (k := 1) (by decide) ⟨1, rfl, by decide, ug_join (hB M rfl rfl) ru rw (by unfold tX8_join; rw [if_neg c0]; exact hZ _ _ _ (by decide) (by decide) (LE_no h 1 (by decide)))⟩
  rw [if_pos c0]
  by_cases c1 : 0 ≤ w ∧ w < F 1 0 0 10
  case neg =>
    rw [if_neg c1]
    exact LQ_no (k := 1) (by decide) ⟨1, rfl, by decide, ug_join (hB M rfl rfl) ru rw (by unfold tX8_join; rw [if_pos c0, if_neg c1]; exact hZ _ _ _ (by decide) (by decide) (LE_no h 1 (by decide)))⟩
  rw [if_pos c1]
  by_cases c2 : ¬ u = w
  case neg =>
    rw [if_neg c2]
    exact LQ_no (k := 2) (by decide) ⟨2, rfl, by decide, ug_join (hB M rfl rfl) ru rw (by unfold tX8_join; rw [if_pos c0, if_pos c1, if_neg c2]; exact hZ _ _ _ (by decide) (by decide) (LE_no h 2 (by decide)))⟩
  rw [if_pos c2]
  by_cases c3 : F 14 0 u 0 = 0 ∧ F 14 0 w 0 = 0
  case neg =>
    rw [if_neg c3]
    exact LQ_no (k := 3) (by decide) ⟨3, rfl, by decide, ug_join (hB M rfl rfl) ru rw (by unfold tX8_join; rw [if_pos c0, if_pos c1, if_pos c2, if_neg c3]; exact hZ _ _ _ (by decide) (by decide) (LE_no h 3 (by decide)))⟩
  rw [if_pos c3]
  by_cases c4 : F 14 0 u 1 = F 14 0 w 1 ∧ ¬ 300 < F 14 0 u 2 + F 14 0 w 2
  case neg =>
    rw [if_neg c4]
    exact LQ_no (k := 3) (by decide) ⟨3, rfl, by decide, ug_join (hB M rfl rfl) ru rw (by unfold tX8_join; rw [if_pos c0, if_pos c1, if_pos c2, if_pos c3, if_neg c4]; exact hZ _ _ _ (by decide) (by decide) (LE_no h 3 (by decide)))⟩
  rw [if_pos c4]
  have hi : ∀ t : Nat, 20 ≤ t → (uLeave (uTake F 0 w 0 u) 0 u 2 : XM) t = M t := fun t ht => by unfold uLeave uTake; simp only [xup_tag (show ¬ t = 14 by omega)]; rw [hF]; exact fKeep_hi M (by omega)
  exact LQ_yes ⟨0, rfl, by decide, ug_join (hB _ ((xup_tag (by decide)).trans (hi 20 (by decide))) ((xup_tag (by decide)).trans (hi 21 (by decide)))) ru rw (by
    unfold tX8_join
    rw [if_pos c0, if_pos c1, if_pos c2, if_pos c3, if_pos c4]
    intro M2 hs
    subst hF
    exact hZ 0 _ _ (by decide) (by decide) (LE_op hs (RR_r26 (RR_join h (by omega) (by omega) c2 (by omega) (op_26 hs)))))⟩
theorem uc_move {M : XM} {Q : XPo} {u : Int} {p : Int} (h : KI M ∧ XInR u ∧ XInR p ∧ (if 0 ≤ u ∧ u < M 1 0 0 10 then (if 0 ≤ p ∧ p < M 1 0 0 3 then (if M 14 0 u 0 = 0 then Q [xI (M 14 0 u 1)] (xup (fKeep M) 14 0 u 1 p) else Q [xI 2, xI 0] M) else Q [xI 3, xI 0] M) else Q [xI 3, xI 0] M)) : tEX7_move [xR 0 0 0, xI u, xI p] M Q := @id ((0 = 0 ∧ xval 0 0 0) ∧ KI M ∧ XInR u ∧ XInR p ∧ (if 0 ≤ u ∧ u < M 1 0 0 10 then (if 0 ≤ p ∧ p < M 1 0 0 3 then (if M 14 0 u 0 = 0 then Q [xI (M 14 0 u 1)] (xup (fKeep M) 14 0 u 1 p) else Q [xI 2, xI 0] M) else Q [xI 3, xI 0] M) else Q [xI 3, xI 0] M)) ⟨⟨rfl, xvz_0⟩, h⟩
theorem ug_move {F M : XM} {f : Int} {Q : XPo} {u : Int} {p : Int} (hB : RB F f M) (ru : XInR u) (rp : XInR p) (h : tX8_move F f u p Q M) : sX8_move [xR 20 0 0, xI u, xI p] M Q := @id ((20 = 20 ∧ xval 20 0 0) ∧ ∃ (F : XM) (f : Int), RB F f M ∧ XInR u ∧ XInR p ∧ tX8_move F f u p Q M) ⟨⟨rfl, xvz_20⟩, F, f, hB, ru, rp, h⟩
theorem lc_move {M : XM} {Z : Int → XPo} (hZ : ∀ (k : Int) (rv : List XV) (N : XM), 0 ≤ k → k ≤ 3 → LE k rv N → Z k rv N) (h : RR M) {u : Int} {p : Int} (ru : XInR u) (rp : XInR p) : tEX7_move [xR 0 0 0, xI u, xI p] M (LQ [3, 2] (LK (fun N => sX8_move [xR 20 0 0, xI u, xI p] N) Z)) := by
  obtain ⟨F, hF⟩ : ∃ F : XM, F = fKeep M := ⟨_, rfl⟩
  have hn := h.1.2.1.1
  have hB : ∀ N : XM, N 20 = M 20 → N 21 = M 21 → RB F 0 N := fun N a b => by rw [hF]; exact RB_k2 h a b
  have hI := (hB M rfl rfl).2.1.1
  have hm := (hB M rfl rfl).2.1.2
  obtain ⟨b3, b6, b8, b10, b0, -⟩ := hI.1
  have hk := hI.2.2.1
  have e1 : ∀ k s : Int, M 1 0 k s = F 1 0 k s := fun k s => by rw [hF, fKeep_0 hn 1 (by decide)]
  have e2 : ∀ k s : Int, M 2 0 k s = F 2 0 k s := fun k s => by rw [hF, fKeep_0 hn 2 (by decide)]
  have e8 : ∀ k s : Int, M 8 0 k s = F 8 0 k s := fun k s => by rw [hF, fKeep_0 hn 8 (by decide)]
  have e9 : ∀ k s : Int, M 9 0 k s = F 9 0 k s := fun k s => by rw [hF, fKeep_0 hn 9 (by decide)]
  have e12 : ∀ k s : Int, M 12 0 k s = F 12 0 k s := fun k s => by rw [hF, fKeep_0 hn 12 (by decide)]
  have e13 : ∀ k s : Int, M 13 0 k s = F 13 0 k s := fun k s => by rw [hF, fKeep_0 hn 13 (by decide)]
  have e14 : ∀ k s : Int, M 14 0 k s = F 14 0 k s := fun k s => by rw [hF, fKeep_0 hn 14 (by decide)]
  have eK : ∀ k d : Int, kEn M 0 k d = kEn F 0 k d := fun k d => by rw [hF]; exact kEn_keep hn k d
  have eA : ∀ j : Int, mAll M 0 j = mAll F 0 j := fun j => by rw [hF]; exact mAll_keep hn j
  have eD : ∀ a b : Int, dMin M 0 a b = dMin F 0 a b := fun a b => by rw [hF]; exact (dMin_keep hn a b).symm
  refine uc_move ⟨h.1, ru, rp, ?_⟩
  simp only [← hF, eD, eK, eA, e1, e2, e8, e9, e12, e13, e14]
  by_cases c0 : 0 ≤ u ∧ u < F 1 0 0 10
  case neg =>
    rw [if_neg c0]
    exact LQ_no (k := 1) (by decide) ⟨1, rfl, by decide, ug_move (hB M rfl rfl) ru rp (by unfold tX8_move; rw [if_neg c0]; exact hZ _ _ _ (by decide) (by decide) (LE_no h 1 (by decide)))⟩
  rw [if_pos c0]
  by_cases c1 : 0 ≤ p ∧ p < F 1 0 0 3
  case neg =>
    rw [if_neg c1]
    exact LQ_no (k := 1) (by decide) ⟨1, rfl, by decide, ug_move (hB M rfl rfl) ru rp (by unfold tX8_move; rw [if_pos c0, if_neg c1]; exact hZ _ _ _ (by decide) (by decide) (LE_no h 1 (by decide)))⟩
  rw [if_pos c1]
  by_cases c2 : F 14 0 u 0 = 0
  case neg =>
    rw [if_neg c2]
    exact LQ_no (k := 2) (by decide) ⟨2, rfl, by decide, ug_move (hB M rfl rfl) ru rp (by unfold tX8_move; rw [if_pos c0, if_pos c1, if_neg c2]; exact hZ _ _ _ (by decide) (by decide) (LE_no h 2 (by decide)))⟩
  rw [if_pos c2]
  have hi : ∀ t : Nat, 20 ≤ t → (xup F 14 0 u 1 p : XM) t = M t := fun t ht => by simp only [xup_tag (show ¬ t = 14 by omega)]; rw [hF]; exact fKeep_hi M (by omega)
  exact LQ_yes ⟨0, rfl, by decide, ug_move (hB _ ((xup_tag (by decide)).trans (hi 20 (by decide))) ((xup_tag (by decide)).trans (hi 21 (by decide)))) ru rp (by
    unfold tX8_move
    rw [if_pos c0, if_pos c1, if_pos c2]
    intro M2 hs
    subst hF
    exact hZ 0 _ _ (by decide) (by decide) (LE_op hs (RR_r26 (RR_move h (by omega) (by omega) (op_26 hs)))))⟩
theorem uc_wrap {M : XM} {Q : XPo} {u : Int} (h : KI M ∧ XInR u ∧ (if 0 ≤ u ∧ u < M 1 0 0 10 then (if M 14 0 u 0 = 0 then Q [xI (M 14 0 u 6 + M 14 0 u 7)] (uLeave (xup (fKeep M) 14 0 u 11 (M 14 0 u 6 + M 14 0 u 7)) 0 u 1) else Q [xI 2, xI 0] M) else Q [xI 3, xI 0] M)) : tEX7_wrap [xR 0 0 0, xI u] M Q := @id ((0 = 0 ∧ xval 0 0 0) ∧ KI M ∧ XInR u ∧ (if 0 ≤ u ∧ u < M 1 0 0 10 then (if M 14 0 u 0 = 0 then Q [xI (M 14 0 u 6 + M 14 0 u 7)] (uLeave (xup (fKeep M) 14 0 u 11 (M 14 0 u 6 + M 14 0 u 7)) 0 u 1) else Q [xI 2, xI 0] M) else Q [xI 3, xI 0] M)) ⟨⟨rfl, xvz_0⟩, h⟩
theorem ug_wrap {F M : XM} {f : Int} {Q : XPo} {u : Int} (hB : RB F f M) (ru : XInR u) (h : tX8_wrap F f u Q M) : sX8_wrap [xR 20 0 0, xI u] M Q := @id ((20 = 20 ∧ xval 20 0 0) ∧ ∃ (F : XM) (f : Int), RB F f M ∧ XInR u ∧ tX8_wrap F f u Q M) ⟨⟨rfl, xvz_20⟩, F, f, hB, ru, h⟩
theorem lc_wrap {M : XM} {Z : Int → XPo} (hZ : ∀ (k : Int) (rv : List XV) (N : XM), 0 ≤ k → k ≤ 3 → LE k rv N → Z k rv N) (h : RR M) {u : Int} (ru : XInR u) : tEX7_wrap [xR 0 0 0, xI u] M (LQ [3, 2] (LK (fun N => sX8_wrap [xR 20 0 0, xI u] N) Z)) := by
  obtain ⟨F, hF⟩ : ∃ F : XM, F = fKeep M := ⟨_, rfl⟩
  have hn := h.1.2.1.1
  have hB : ∀ N : XM, N 20 = M 20 → N 21 = M 21 → RB F 0 N := fun N a b => by rw [hF]; exact RB_k2 h a b
  have hI := (hB M rfl rfl).2.1.1
  have hm := (hB M rfl rfl).2.1.2
  obtain ⟨b3, b6, b8, b10, b0, -⟩ := hI.1
  have hk := hI.2.2.1
  have e1 : ∀ k s : Int, M 1 0 k s = F 1 0 k s := fun k s => by rw [hF, fKeep_0 hn 1 (by decide)]
  have e2 : ∀ k s : Int, M 2 0 k s = F 2 0 k s := fun k s => by rw [hF, fKeep_0 hn 2 (by decide)]
  have e8 : ∀ k s : Int, M 8 0 k s = F 8 0 k s := fun k s => by rw [hF, fKeep_0 hn 8 (by decide)]
  have e9 : ∀ k s : Int, M 9 0 k s = F 9 0 k s := fun k s => by rw [hF, fKeep_0 hn 9 (by decide)]
  have e12 : ∀ k s : Int, M 12 0 k s = F 12 0 k s := fun k s => by rw [hF, fKeep_0 hn 12 (by decide)]
  have e13 : ∀ k s : Int, M 13 0 k s = F 13 0 k s := fun k s => by rw [hF, fKeep_0 hn 13 (by decide)]
  have e14 : ∀ k s : Int, M 14 0 k s = F 14 0 k s := fun k s => by rw [hF, fKeep_0 hn 14 (by decide)]
  have eK : ∀ k d : Int, kEn M 0 k d = kEn F 0 k d := fun k d => by rw [hF]; exact kEn_keep hn k d
  have eA : ∀ j : Int, mAll M 0 j = mAll F 0 j := fun j => by rw [hF]; exact mAll_keep hn j
  have eD : ∀ a b : Int, dMin M 0 a b = dMin F 0 a b := fun a b => by rw [hF]; exact (dMin_keep hn a b).symm
  refine uc_wrap ⟨h.1, ru, ?_⟩
  simp only [← hF, eD, eK, eA, e1, e2, e8, e9, e12, e13, e14]
  by_cases c0 : 0 ≤ u ∧ u < F 1 0 0 10
  case neg =>
    rw [if_neg c0]
    exact LQ_no (k := 1) (by decide) ⟨1, rfl, by decide, ug_wrap (hB M rfl rfl) ru (by unfold tX8_wrap; rw [if_neg c0]; exact hZ _ _ _ (by decide) (by decide) (LE_no h 1 (by decide)))⟩
  rw [if_pos c0]
  by_cases c1 : F 14 0 u 0 = 0
  case neg =>
    rw [if_neg c1]
    exact LQ_no (k := 2) (by decide) ⟨2, rfl, by decide, ug_wrap (hB M rfl rfl) ru (by unfold tX8_wrap; rw [if_pos c0, if_neg c1]; exact hZ _ _ _ (by decide) (by decide) (LE_no h 2 (by decide)))⟩
  rw [if_pos c1]
  have hi : ∀ t : Nat, 20 ≤ t → (uLeave (xup F 14 0 u 11 (F 14 0 u 6 + F 14 0 u 7)) 0 u 1 : XM) t = M t := fun t ht => by unfold uLeave; simp only [xup_tag (show ¬ t = 14 by omega)]; rw [hF]; exact fKeep_hi M (by omega)
  have h11 := ((((hB M rfl rfl).1.2.2.2.2.2.2.2.1 u c0.1 (by omega)).1 c0.2).2.2.2.2.2.2.1 c1).2.2.2.2
  exact LQ_yes ⟨0, rfl, by decide, ug_wrap (hB _ ((xup_tag (by decide)).trans (hi 20 (by decide))) ((xup_tag (by decide)).trans (hi 21 (by decide)))) ru (by
    unfold tX8_wrap
    rw [if_pos c0, if_pos c1]
    intro M2 hs
    subst hF
    exact hZ 0 _ _ (by decide) (by decide) (LE_op hs (RR_r26 (RR_wrap h (by omega) h11 (op_26 hs)))))⟩
theorem uc_pass {M : XM} {Q : XPo} {n : Int} (h : KI M ∧ XInR n ∧ (if 1 ≤ n ∧ n ≤ 200 then (if ¬ 20000 < M 1 0 0 0 + n then Q [xI (tX0_served (itP 0 n.toNat (fKeep M)) 0 - tX0_served (fKeep M) 0)] (itP 0 n.toNat (fKeep M)) else Q [xI 2, xI 0] M) else Q [xI 1, xI 0] M)) : tEX7_pass [xR 0 0 0, xI n] M Q := @id ((0 = 0 ∧ xval 0 0 0) ∧ KI M ∧ XInR n ∧ (if 1 ≤ n ∧ n ≤ 200 then (if ¬ 20000 < M 1 0 0 0 + n then Q [xI (tX0_served (itP 0 n.toNat (fKeep M)) 0 - tX0_served (fKeep M) 0)] (itP 0 n.toNat (fKeep M)) else Q [xI 2, xI 0] M) else Q [xI 1, xI 0] M)) ⟨⟨rfl, xvz_0⟩, h⟩
theorem ug_pass {F M : XM} {f : Int} {Q : XPo} {n : Int} (hB : RB F f M) (rn : XInR n) (h : tX8_pass F f n Q M) : sX8_pass [xR 20 0 0, xI n] M Q := @id ((20 = 20 ∧ xval 20 0 0) ∧ ∃ (F : XM) (f : Int), RB F f M ∧ XInR n ∧ tX8_pass F f n Q M) ⟨⟨rfl, xvz_20⟩, F, f, hB, rn, h⟩
theorem lc_pass {M : XM} {Z : Int → XPo} (hZ : ∀ (k : Int) (rv : List XV) (N : XM), 0 ≤ k → k ≤ 3 → LE k rv N → Z k rv N) (h : RR M) {n : Int} (rn : XInR n) : tEX7_pass [xR 0 0 0, xI n] M (LQ [1, 2] (LK (fun N => sX8_pass [xR 20 0 0, xI n] N) Z)) := by
  obtain ⟨F, hF⟩ : ∃ F : XM, F = fKeep M := ⟨_, rfl⟩
  have hn := h.1.2.1.1
  have hB : ∀ N : XM, N 20 = M 20 → N 21 = M 21 → RB F 0 N := fun N a b => by rw [hF]; exact RB_k2 h a b
  have hI := (hB M rfl rfl).2.1.1
  have hm := (hB M rfl rfl).2.1.2
  obtain ⟨b3, b6, b8, b10, b0, -⟩ := hI.1
  have hk := hI.2.2.1
  have e1 : ∀ k s : Int, M 1 0 k s = F 1 0 k s := fun k s => by rw [hF, fKeep_0 hn 1 (by decide)]
  have e2 : ∀ k s : Int, M 2 0 k s = F 2 0 k s := fun k s => by rw [hF, fKeep_0 hn 2 (by decide)]
  have e8 : ∀ k s : Int, M 8 0 k s = F 8 0 k s := fun k s => by rw [hF, fKeep_0 hn 8 (by decide)]
  have e9 : ∀ k s : Int, M 9 0 k s = F 9 0 k s := fun k s => by rw [hF, fKeep_0 hn 9 (by decide)]
  have e12 : ∀ k s : Int, M 12 0 k s = F 12 0 k s := fun k s => by rw [hF, fKeep_0 hn 12 (by decide)]
  have e13 : ∀ k s : Int, M 13 0 k s = F 13 0 k s := fun k s => by rw [hF, fKeep_0 hn 13 (by decide)]
  have e14 : ∀ k s : Int, M 14 0 k s = F 14 0 k s := fun k s => by rw [hF, fKeep_0 hn 14 (by decide)]
  have eK : ∀ k d : Int, kEn M 0 k d = kEn F 0 k d := fun k d => by rw [hF]; exact kEn_keep hn k d
  have eA : ∀ j : Int, mAll M 0 j = mAll F 0 j := fun j => by rw [hF]; exact mAll_keep hn j
  have eD : ∀ a b : Int, dMin M 0 a b = dMin F 0 a b := fun a b => by rw [hF]; exact (dMin_keep hn a b).symm
  refine uc_pass ⟨h.1, rn, ?_⟩
  simp only [← hF, eD, eK, eA, e1, e2, e8, e9, e12, e13, e14]
  by_cases c0 : 1 ≤ n ∧ n ≤ 200
  case neg =>
    rw [if_neg c0]
    exact LQ_no (k := 1) (by decide) ⟨1, rfl, by decide, ug_pass (hB M rfl rfl) rn (by unfold tX8_pass; rw [if_neg c0]; exact hZ _ _ _ (by decide) (by decide) (LE_no h 1 (by decide)))⟩
  rw [if_pos c0]
  by_cases c1 : ¬ 20000 < F 1 0 0 0 + n
  case neg =>
    rw [if_neg c1]
    exact LQ_no (k := 2) (by decide) ⟨2, rfl, by decide, ug_pass (hB M rfl rfl) rn (by unfold tX8_pass; rw [if_pos c0, if_neg c1]; exact hZ _ _ _ (by decide) (by decide) (LE_no h 2 (by decide)))⟩
  rw [if_pos c1]
  have hi : ∀ t : Nat, 20 ≤ t → (itP 0 n.toNat F : XM) t = M t := fun t ht => by rw [(itP_lo 0 n.toNat F).2 t (by omega) (by omega) (by omega) (by omega) (by omega) (by omega)]; rw [hF]; exact fKeep_hi M (by omega)
  exact LQ_yes ⟨0, rfl, by decide, ug_pass (hB _ ((xup_tag (by decide)).trans (hi 20 (by decide))) ((xup_tag (by decide)).trans (hi 21 (by decide)))) rn (by
    unfold tX8_pass
    rw [if_pos c0, if_pos c1]
    intro M2 hs
    subst hF
    exact hZ 0 _ _ (by decide) (by decide) (LE_op hs (RR_r26 (RR_pass h (by omega) (by rw [e1]; omega) (op_26 hs)))))⟩
theorem uc_place {M : XM} {Q : XPo} {p : Int} {w : Int} (h : KI M ∧ XInR p ∧ XInR w ∧ (if 0 ≤ p ∧ p < M 1 0 0 3 then (if 0 ≤ w ∧ w ≤ 6 then Q [xI (plF M p w)] (M) else Q [xI 1, xI 0] M) else Q [xI 3, xI 0] M)) : tEX7_place [xR 0 0 0, xI p, xI w] M Q := @id ((0 = 0 ∧ xval 0 0 0) ∧ KI M ∧ XInR p ∧ XInR w ∧ (if 0 ≤ p ∧ p < M 1 0 0 3 then (if 0 ≤ w ∧ w ≤ 6 then Q [xI (plF M p w)] (M) else Q [xI 1, xI 0] M) else Q [xI 3, xI 0] M)) ⟨⟨rfl, xvz_0⟩, h⟩
theorem ug_place {F M : XM} {f : Int} {Q : XPo} {p : Int} {w : Int} (hB : RB F f M) (rp : XInR p) (rw : XInR w) (h : tX8_place F f p w Q M) : sX8_place [xR 20 0 0, xI p, xI w] M Q := @id ((20 = 20 ∧ xval 20 0 0) ∧ ∃ (F : XM) (f : Int), RB F f M ∧ XInR p ∧ XInR w ∧ tX8_place F f p w Q M) ⟨⟨rfl, xvz_20⟩, F, f, hB, rp, rw, h⟩
theorem lc_place {M : XM} {Z : Int → XPo} (hZ : ∀ (k : Int) (rv : List XV) (N : XM), 0 ≤ k → k ≤ 3 → LE k rv N → Z k rv N) (h : RR M) {p : Int} {w : Int} (rp : XInR p) (rw : XInR w) : tEX7_place [xR 0 0 0, xI p, xI w] M (LQ [3, 1] (LK (fun N => sX8_place [xR 20 0 0, xI p, xI w] N) Z)) := by
  have hB : ∀ N : XM, N 20 = M 20 → N 21 = M 21 → RB M 0 N := fun N a b => RB_s2 h a b
  refine uc_place ⟨h.1, rp, rw, ?_⟩
  by_cases c0 : 0 ≤ p ∧ p < M 1 0 0 3
  case neg =>
    rw [if_neg c0]
    exact LQ_no (k := 1) (by decide) ⟨1, rfl, by decide, ug_place (hB M rfl rfl) rp rw (by unfold tX8_place; rw [if_neg c0]; exact hZ _ _ _ (by decide) (by decide) (LE_no h 1 (by decide)))⟩
  rw [if_pos c0]
  by_cases c1 : 0 ≤ w ∧ w ≤ 6
  case neg =>
    rw [if_neg c1]
    exact LQ_no (k := 2) (by decide) ⟨2, rfl, by decide, ug_place (hB M rfl rfl) rp rw (by unfold tX8_place; rw [if_pos c0, if_neg c1]; exact hZ _ _ _ (by decide) (by decide) (LE_no h 2 (by decide)))⟩
  rw [if_pos c1]
  exact LQ_yes ⟨0, rfl, by decide, ug_place (hB _ (xup_tag (by decide)) (xup_tag (by decide))) rp rw (by
    unfold tX8_place
    rw [if_pos c0, if_pos c1]
    exact hZ 0 _ _ (by decide) (by decide) (LE_rd h))⟩
theorem uc_unit {M : XM} {Q : XPo} {u : Int} {w : Int} (h : KI M ∧ XInR u ∧ XInR w ∧ (if 0 ≤ u ∧ u < M 1 0 0 10 then (if 0 ≤ w ∧ w ≤ 11 then Q [xI (uProp M 0 u w)] (M) else Q [xI 1, xI 0] M) else Q [xI 3, xI 0] M)) : tEX7_unit [xR 0 0 0, xI u, xI w] M Q := @id ((0 = 0 ∧ xval 0 0 0) ∧ KI M ∧ XInR u ∧ XInR w ∧ (if 0 ≤ u ∧ u < M 1 0 0 10 then (if 0 ≤ w ∧ w ≤ 11 then Q [xI (uProp M 0 u w)] (M) else Q [xI 1, xI 0] M) else Q [xI 3, xI 0] M)) ⟨⟨rfl, xvz_0⟩, h⟩
theorem ug_unit {F M : XM} {f : Int} {Q : XPo} {u : Int} {w : Int} (hB : RB F f M) (ru : XInR u) (rw : XInR w) (h : tX8_unit F f u w Q M) : sX8_unit [xR 20 0 0, xI u, xI w] M Q := @id ((20 = 20 ∧ xval 20 0 0) ∧ ∃ (F : XM) (f : Int), RB F f M ∧ XInR u ∧ XInR w ∧ tX8_unit F f u w Q M) ⟨⟨rfl, xvz_20⟩, F, f, hB, ru, rw, h⟩
theorem lc_unit {M : XM} {Z : Int → XPo} (hZ : ∀ (k : Int) (rv : List XV) (N : XM), 0 ≤ k → k ≤ 3 → LE k rv N → Z k rv N) (h : RR M) {u : Int} {w : Int} (ru : XInR u) (rw : XInR w) : tEX7_unit [xR 0 0 0, xI u, xI w] M (LQ [3, 1] (LK (fun N => sX8_unit [xR 20 0 0, xI u, xI w] N) Z)) := by
  have hB : ∀ N : XM, N 20 = M 20 → N 21 = M 21 → RB M 0 N := fun N a b => RB_s2 h a b
  refine uc_unit ⟨h.1, ru, rw, ?_⟩
  by_cases c0 : 0 ≤ u ∧ u < M 1 0 0 10
  case neg =>
    rw [if_neg c0]
    exact LQ_no (k := 1) (by decide) ⟨1, rfl, by decide, ug_unit (hB M rfl rfl) ru rw (by unfold tX8_unit; rw [if_neg c0]; exact hZ _ _ _ (by decide) (by decide) (LE_no h 1 (by decide)))⟩
  rw [if_pos c0]
  by_cases c1 : 0 ≤ w ∧ w ≤ 11
  case neg =>
    rw [if_neg c1]
    exact LQ_no (k := 2) (by decide) ⟨2, rfl, by decide, ug_unit (hB M rfl rfl) ru rw (by unfold tX8_unit; rw [if_pos c0, if_neg c1]; exact hZ _ _ _ (by decide) (by decide) (LE_no h 2 (by decide)))⟩
  rw [if_pos c1]
  exact LQ_yes ⟨0, rfl, by decide, ug_unit (hB _ (xup_tag (by decide)) (xup_tag (by decide))) ru rw (by
    unfold tX8_unit
    rw [if_pos c0, if_pos c1]
    exact hZ 0 _ _ (by decide) (by decide) (LE_rd h))⟩
theorem uc_kitchen {M : XM} {Q : XPo} {k : Int} {w : Int} (h : KI M ∧ XInR k ∧ XInR w ∧ (if 0 ≤ k ∧ k < M 1 0 0 6 then (if 0 ≤ w ∧ w ≤ 11 then Q [xI (kProp M 0 k w (M 1 0 0 0))] (M) else Q [xI 1, xI 0] M) else Q [xI 3, xI 0] M)) : tEX7_kitchen [xR 0 0 0, xI k, xI w] M Q := @id ((0 = 0 ∧ xval 0 0 0) ∧ KI M ∧ XInR k ∧ XInR w ∧ (if 0 ≤ k ∧ k < M 1 0 0 6 then (if 0 ≤ w ∧ w ≤ 11 then Q [xI (kProp M 0 k w (M 1 0 0 0))] (M) else Q [xI 1, xI 0] M) else Q [xI 3, xI 0] M)) ⟨⟨rfl, xvz_0⟩, h⟩
theorem ug_kitchen {F M : XM} {f : Int} {Q : XPo} {k : Int} {w : Int} (hB : RB F f M) (rk : XInR k) (rw : XInR w) (h : tX8_kitchen F f k w Q M) : sX8_kitchen [xR 20 0 0, xI k, xI w] M Q := @id ((20 = 20 ∧ xval 20 0 0) ∧ ∃ (F : XM) (f : Int), RB F f M ∧ XInR k ∧ XInR w ∧ tX8_kitchen F f k w Q M) ⟨⟨rfl, xvz_20⟩, F, f, hB, rk, rw, h⟩
theorem lc_kitchen {M : XM} {Z : Int → XPo} (hZ : ∀ (k : Int) (rv : List XV) (N : XM), 0 ≤ k → k ≤ 3 → LE k rv N → Z k rv N) (h : RR M) {k : Int} {w : Int} (rk : XInR k) (rw : XInR w) : tEX7_kitchen [xR 0 0 0, xI k, xI w] M (LQ [3, 1] (LK (fun N => sX8_kitchen [xR 20 0 0, xI k, xI w] N) Z)) := by
  have hB : ∀ N : XM, N 20 = M 20 → N 21 = M 21 → RB M 0 N := fun N a b => RB_s2 h a b
  refine uc_kitchen ⟨h.1, rk, rw, ?_⟩
  by_cases c0 : 0 ≤ k ∧ k < M 1 0 0 6
  case neg =>
    rw [if_neg c0]
    exact LQ_no (k := 1) (by decide) ⟨1, rfl, by decide, ug_kitchen (hB M rfl rfl) rk rw (by unfold tX8_kitchen; rw [if_neg c0]; exact hZ _ _ _ (by decide) (by decide) (LE_no h 1 (by decide)))⟩
  rw [if_pos c0]
  by_cases c1 : 0 ≤ w ∧ w ≤ 11
  case neg =>
    rw [if_neg c1]
    exact LQ_no (k := 2) (by decide) ⟨2, rfl, by decide, ug_kitchen (hB M rfl rfl) rk rw (by unfold tX8_kitchen; rw [if_pos c0, if_neg c1]; exact hZ _ _ _ (by decide) (by decide) (LE_no h 2 (by decide)))⟩
  rw [if_pos c1]
  exact LQ_yes ⟨0, rfl, by decide, ug_kitchen (hB _ (xup_tag (by decide)) (xup_tag (by decide))) rk rw (by
    unfold tX8_kitchen
    rw [if_pos c0, if_pos c1]
    exact hZ 0 _ _ (by decide) (by decide) (LE_rd h))⟩
theorem uc_lorry {M : XM} {Q : XPo} {l : Int} {w : Int} (h : KI M ∧ XInR l ∧ XInR w ∧ (if 0 ≤ l ∧ l < M 1 0 0 8 then (if 0 ≤ w ∧ w ≤ 8 then Q [xI (lProp M 0 l w (M 1 0 0 0))] (M) else Q [xI 1, xI 0] M) else Q [xI 3, xI 0] M)) : tEX7_lorry [xR 0 0 0, xI l, xI w] M Q := @id ((0 = 0 ∧ xval 0 0 0) ∧ KI M ∧ XInR l ∧ XInR w ∧ (if 0 ≤ l ∧ l < M 1 0 0 8 then (if 0 ≤ w ∧ w ≤ 8 then Q [xI (lProp M 0 l w (M 1 0 0 0))] (M) else Q [xI 1, xI 0] M) else Q [xI 3, xI 0] M)) ⟨⟨rfl, xvz_0⟩, h⟩
theorem ug_lorry {F M : XM} {f : Int} {Q : XPo} {l : Int} {w : Int} (hB : RB F f M) (rl : XInR l) (rw : XInR w) (h : tX8_lorry F f l w Q M) : sX8_lorry [xR 20 0 0, xI l, xI w] M Q := @id ((20 = 20 ∧ xval 20 0 0) ∧ ∃ (F : XM) (f : Int), RB F f M ∧ XInR l ∧ XInR w ∧ tX8_lorry F f l w Q M) ⟨⟨rfl, xvz_20⟩, F, f, hB, rl, rw, h⟩
theorem lc_lorry {M : XM} {Z : Int → XPo} (hZ : ∀ (k : Int) (rv : List XV) (N : XM), 0 ≤ k → k ≤ 3 → LE k rv N → Z k rv N) (h : RR M) {l : Int} {w : Int} (rl : XInR l) (rw : XInR w) : tEX7_lorry [xR 0 0 0, xI l, xI w] M (LQ [3, 1] (LK (fun N => sX8_lorry [xR 20 0 0, xI l, xI w] N) Z)) := by
  have hB : ∀ N : XM, N 20 = M 20 → N 21 = M 21 → RB M 0 N := fun N a b => RB_s2 h a b
  refine uc_lorry ⟨h.1, rl, rw, ?_⟩
  by_cases c0 : 0 ≤ l ∧ l < M 1 0 0 8
  case neg =>
    rw [if_neg c0]
    exact LQ_no (k := 1) (by decide) ⟨1, rfl, by decide, ug_lorry (hB M rfl rfl) rl rw (by unfold tX8_lorry; rw [if_neg c0]; exact hZ _ _ _ (by decide) (by decide) (LE_no h 1 (by decide)))⟩
  rw [if_pos c0]
  by_cases c1 : 0 ≤ w ∧ w ≤ 8
  case neg =>
    rw [if_neg c1]
    exact LQ_no (k := 2) (by decide) ⟨2, rfl, by decide, ug_lorry (hB M rfl rfl) rl rw (by unfold tX8_lorry; rw [if_pos c0, if_neg c1]; exact hZ _ _ _ (by decide) (by decide) (LE_no h 2 (by decide)))⟩
  rw [if_pos c1]
  exact LQ_yes ⟨0, rfl, by decide, ug_lorry (hB _ (xup_tag (by decide)) (xup_tag (by decide))) rl rw (by
    unfold tX8_lorry
    rw [if_pos c0, if_pos c1]
    exact hZ 0 _ _ (by decide) (by decide) (LE_rd h))⟩
theorem uc_count {M : XM} {Q : XPo} {w : Int} (h : KI M ∧ XInR w ∧ (if 0 ≤ w ∧ w ≤ 16 then Q [xI (ctF M w)] (M) else Q [xI 1, xI 0] M)) : tEX7_count [xR 0 0 0, xI w] M Q := @id ((0 = 0 ∧ xval 0 0 0) ∧ KI M ∧ XInR w ∧ (if 0 ≤ w ∧ w ≤ 16 then Q [xI (ctF M w)] (M) else Q [xI 1, xI 0] M)) ⟨⟨rfl, xvz_0⟩, h⟩
theorem ug_count {F M : XM} {f : Int} {Q : XPo} {w : Int} (hB : RB F f M) (rw : XInR w) (h : tX8_count F f w Q M) : sX8_count [xR 20 0 0, xI w] M Q := @id ((20 = 20 ∧ xval 20 0 0) ∧ ∃ (F : XM) (f : Int), RB F f M ∧ XInR w ∧ tX8_count F f w Q M) ⟨⟨rfl, xvz_20⟩, F, f, hB, rw, h⟩
theorem lc_count {M : XM} {Z : Int → XPo} (hZ : ∀ (k : Int) (rv : List XV) (N : XM), 0 ≤ k → k ≤ 3 → LE k rv N → Z k rv N) (h : RR M) {w : Int} (rw : XInR w) : tEX7_count [xR 0 0 0, xI w] M (LQ [1] (LK (fun N => sX8_count [xR 20 0 0, xI w] N) Z)) := by
  have hB : ∀ N : XM, N 20 = M 20 → N 21 = M 21 → RB M 0 N := fun N a b => RB_s2 h a b
  refine uc_count ⟨h.1, rw, ?_⟩
  by_cases c0 : 0 ≤ w ∧ w ≤ 16
  case neg =>
    rw [if_neg c0]
    exact LQ_no (k := 1) (by decide) ⟨1, rfl, by decide, ug_count (hB M rfl rfl) rw (by unfold tX8_count; rw [if_neg c0]; exact hZ _ _ _ (by decide) (by decide) (LE_no h 1 (by decide)))⟩
  rw [if_pos c0]
  exact LQ_yes ⟨0, rfl, by decide, ug_count (hB _ (xup_tag (by decide)) (xup_tag (by decide))) rw (by
    unfold tX8_count
    rw [if_pos c0]
    rw [show xup M 26 0 0 0 (w32 (ctF M w)) 20 0 0 1 = M 15 0 0 2 from by rw [xup_tag (by decide)]; exact h.2.2.1.1]
    exact hZ 0 _ _ (by decide) (by decide) (LE_rd h))⟩
theorem uc_setting {M : XM} {Q : XPo} {q : Int} (h : KI M ∧ XInR q ∧ (if 0 ≤ q ∧ q < 6 then Q [xI (M 2 0 0 q)] (M) else Q [xI 3, xI 0] M)) : tEX7_setting [xR 0 0 0, xI q] M Q := @id ((0 = 0 ∧ xval 0 0 0) ∧ KI M ∧ XInR q ∧ (if 0 ≤ q ∧ q < 6 then Q [xI (M 2 0 0 q)] (M) else Q [xI 3, xI 0] M)) ⟨⟨rfl, xvz_0⟩, h⟩
theorem ug_setting {F M : XM} {f : Int} {Q : XPo} {q : Int} (hB : RB F f M) (rq : XInR q) (h : tX8_setting F f q Q M) : sX8_setting [xR 20 0 0, xI q] M Q := @id ((20 = 20 ∧ xval 20 0 0) ∧ ∃ (F : XM) (f : Int), RB F f M ∧ XInR q ∧ tX8_setting F f q Q M) ⟨⟨rfl, xvz_20⟩, F, f, hB, rq, h⟩
theorem lc_setting {M : XM} {Z : Int → XPo} (hZ : ∀ (k : Int) (rv : List XV) (N : XM), 0 ≤ k → k ≤ 3 → LE k rv N → Z k rv N) (h : RR M) {q : Int} (rq : XInR q) : tEX7_setting [xR 0 0 0, xI q] M (LQ [3] (LK (fun N => sX8_setting [xR 20 0 0, xI q] N) Z)) := by
  have hB : ∀ N : XM, N 20 = M 20 → N 21 = M 21 → RB M 0 N := fun N a b => RB_s2 h a b
  refine uc_setting ⟨h.1, rq, ?_⟩
  by_cases c0 : 0 ≤ q ∧ q < 6
  case neg =>
    rw [if_neg c0]
    exact LQ_no (k := 1) (by decide) ⟨1, rfl, by decide, ug_setting (hB M rfl rfl) rq (by unfold tX8_setting; rw [if_neg c0]; exact hZ _ _ _ (by decide) (by decide) (LE_no h 1 (by decide)))⟩
  rw [if_pos c0]
  exact LQ_yes ⟨0, rfl, by decide, ug_setting (hB _ (xup_tag (by decide)) (xup_tag (by decide))) rq (by
    unfold tX8_setting
    rw [if_pos c0]
    exact hZ 0 _ _ (by decide) (by decide) (LE_rd h))⟩
theorem uc_callsIn {M : XM} {Q : XPo} {n : Int} {w : Int} (h : KI M ∧ XInR n ∧ XInR w ∧ (∀ u : Int, 0 ≤ u → u < M 1 0 0 10 → M 14 0 u 0 = 0 → 1 ≤ M 14 0 u 5) ∧ (if 1 ≤ n ∧ n ≤ 1000 then (if 0 ≤ w ∧ w ≤ 1 then Q [xI (ciF M n w)] (M) else Q [xI 1, xI 0] M) else Q [xI 1, xI 0] M)) : tEX7_callsIn [xR 0 0 0, xI n, xI w] M Q := @id ((0 = 0 ∧ xval 0 0 0) ∧ KI M ∧ XInR n ∧ XInR w ∧ (∀ u : Int, 0 ≤ u → u < M 1 0 0 10 → M 14 0 u 0 = 0 → 1 ≤ M 14 0 u 5) ∧ (if 1 ≤ n ∧ n ≤ 1000 then (if 0 ≤ w ∧ w ≤ 1 then Q [xI (ciF M n w)] (M) else Q [xI 1, xI 0] M) else Q [xI 1, xI 0] M)) ⟨⟨rfl, xvz_0⟩, h⟩
theorem ug_callsIn {F M : XM} {f : Int} {Q : XPo} {n : Int} {w : Int} (hB : RB F f M) (rn : XInR n) (rw : XInR w) (h : tX8_callsIn F f n w Q M) : sX8_callsIn [xR 20 0 0, xI n, xI w] M Q := @id ((20 = 20 ∧ xval 20 0 0) ∧ ∃ (F : XM) (f : Int), RB F f M ∧ XInR n ∧ XInR w ∧ tX8_callsIn F f n w Q M) ⟨⟨rfl, xvz_20⟩, F, f, hB, rn, rw, h⟩
theorem lc_callsIn {M : XM} {Z : Int → XPo} (hZ : ∀ (k : Int) (rv : List XV) (N : XM), 0 ≤ k → k ≤ 3 → LE k rv N → Z k rv N) (h : RR M) {n : Int} {w : Int} (rn : XInR n) (rw : XInR w) : tEX7_callsIn [xR 0 0 0, xI n, xI w] M (LQ [1] (LK (fun N => sX8_callsIn [xR 20 0 0, xI n, xI w] N) Z)) := by
  have hB : ∀ N : XM, N 20 = M 20 → N 21 = M 21 → RB M 0 N := fun N a b => RB_s2 h a b
  refine uc_callsIn ⟨h.1, rn, rw, RR_iv h, ?_⟩
  by_cases c0 : 1 ≤ n ∧ n ≤ 1000
  case neg =>
    rw [if_neg c0]
    exact LQ_no (k := 1) (by decide) ⟨1, rfl, by decide, ug_callsIn (hB M rfl rfl) rn rw (by unfold tX8_callsIn; rw [if_neg c0]; exact hZ _ _ _ (by decide) (by decide) (LE_no h 1 (by decide)))⟩
  rw [if_pos c0]
  by_cases c1 : 0 ≤ w ∧ w ≤ 1
  case neg =>
    rw [if_neg c1]
    exact LQ_no (k := 1) (by decide) ⟨1, rfl, by decide, ug_callsIn (hB M rfl rfl) rn rw (by unfold tX8_callsIn; rw [if_pos c0, if_neg c1]; exact hZ _ _ _ (by decide) (by decide) (LE_no h 1 (by decide)))⟩
  rw [if_pos c1]
  exact LQ_yes ⟨0, rfl, by decide, ug_callsIn (hB _ (xup_tag (by decide)) (xup_tag (by decide))) rn rw (by
    unfold tX8_callsIn
    rw [if_pos c0, if_pos c1]
    exact hZ 0 _ _ (by decide) (by decide) (LE_rd h))⟩
theorem uc_canCook {M : XM} {Q : XPo} {k : Int} {d : Int} (h : KI M ∧ XInR k ∧ XInR d ∧ (if 0 ≤ k ∧ k < M 1 0 0 6 then (if 0 ≤ d ∧ d ≤ 2 then Q [xI (kEn M 0 k d)] (M) else Q [xI 1, xI 0] M) else Q [xI 3, xI 0] M)) : tEX7_canCook [xR 0 0 0, xI k, xI d] M Q := @id ((0 = 0 ∧ xval 0 0 0) ∧ KI M ∧ XInR k ∧ XInR d ∧ (if 0 ≤ k ∧ k < M 1 0 0 6 then (if 0 ≤ d ∧ d ≤ 2 then Q [xI (kEn M 0 k d)] (M) else Q [xI 1, xI 0] M) else Q [xI 3, xI 0] M)) ⟨⟨rfl, xvz_0⟩, h⟩
theorem ug_canCook {F M : XM} {f : Int} {Q : XPo} {k : Int} {d : Int} (hB : RB F f M) (rk : XInR k) (rd : XInR d) (h : tX8_canCook F f k d Q M) : sX8_canCook [xR 20 0 0, xI k, xI d] M Q := @id ((20 = 20 ∧ xval 20 0 0) ∧ ∃ (F : XM) (f : Int), RB F f M ∧ XInR k ∧ XInR d ∧ tX8_canCook F f k d Q M) ⟨⟨rfl, xvz_20⟩, F, f, hB, rk, rd, h⟩
theorem lc_canCook {M : XM} {Z : Int → XPo} (hZ : ∀ (k : Int) (rv : List XV) (N : XM), 0 ≤ k → k ≤ 3 → LE k rv N → Z k rv N) (h : RR M) {k : Int} {d : Int} (rk : XInR k) (rd : XInR d) : tEX7_canCook [xR 0 0 0, xI k, xI d] M (LQ [3, 1] (LK (fun N => sX8_canCook [xR 20 0 0, xI k, xI d] N) Z)) := by
  have hB : ∀ N : XM, N 20 = M 20 → N 21 = M 21 → RB M 0 N := fun N a b => RB_s2 h a b
  refine uc_canCook ⟨h.1, rk, rd, ?_⟩
  by_cases c0 : 0 ≤ k ∧ k < M 1 0 0 6
  case neg =>
    rw [if_neg c0]
    exact LQ_no (k := 1) (by decide) ⟨1, rfl, by decide, ug_canCook (hB M rfl rfl) rk rd (by unfold tX8_canCook; rw [if_neg c0]; exact hZ _ _ _ (by decide) (by decide) (LE_no h 1 (by decide)))⟩
  rw [if_pos c0]
  by_cases c1 : 0 ≤ d ∧ d ≤ 2
  case neg =>
    rw [if_neg c1]
    exact LQ_no (k := 2) (by decide) ⟨2, rfl, by decide, ug_canCook (hB M rfl rfl) rk rd (by unfold tX8_canCook; rw [if_pos c0, if_neg c1]; exact hZ _ _ _ (by decide) (by decide) (LE_no h 2 (by decide)))⟩
  rw [if_pos c1]
  exact LQ_yes ⟨0, rfl, by decide, ug_canCook (hB _ (xup_tag (by decide)) (xup_tag (by decide))) rk rd (by
    unfold tX8_canCook
    rw [if_pos c0, if_pos c1]
    exact hZ 0 _ _ (by decide) (by decide) (LE_rd h))⟩
theorem uc_bestLorry {M : XM} {Q : XPo} {u : Int} (h : KI M ∧ XInR u ∧ (if 0 ≤ u ∧ u < M 1 0 0 10 then Q [xI (if M 14 0 u 0 = 0 then lfF M 0 u (M 1 0 0 8).toNat 0 (-1) 0 0 else -1)] (M) else Q [xI 3, xI 0] M)) : tEX7_bestLorry [xR 0 0 0, xI u] M Q := @id ((0 = 0 ∧ xval 0 0 0) ∧ KI M ∧ XInR u ∧ (if 0 ≤ u ∧ u < M 1 0 0 10 then Q [xI (if M 14 0 u 0 = 0 then lfF M 0 u (M 1 0 0 8).toNat 0 (-1) 0 0 else -1)] (M) else Q [xI 3, xI 0] M)) ⟨⟨rfl, xvz_0⟩, h⟩
theorem ug_bestLorry {F M : XM} {f : Int} {Q : XPo} {u : Int} (hB : RB F f M) (ru : XInR u) (h : tX8_bestLorry F f u Q M) : sX8_bestLorry [xR 20 0 0, xI u] M Q := @id ((20 = 20 ∧ xval 20 0 0) ∧ ∃ (F : XM) (f : Int), RB F f M ∧ XInR u ∧ tX8_bestLorry F f u Q M) ⟨⟨rfl, xvz_20⟩, F, f, hB, ru, h⟩
theorem lc_bestLorry {M : XM} {Z : Int → XPo} (hZ : ∀ (k : Int) (rv : List XV) (N : XM), 0 ≤ k → k ≤ 3 → LE k rv N → Z k rv N) (h : RR M) {u : Int} (ru : XInR u) : tEX7_bestLorry [xR 0 0 0, xI u] M (LQ [3] (LK (fun N => sX8_bestLorry [xR 20 0 0, xI u] N) Z)) := by
  have hB : ∀ N : XM, N 20 = M 20 → N 21 = M 21 → RB M 0 N := fun N a b => RB_s2 h a b
  refine uc_bestLorry ⟨h.1, ru, ?_⟩
  by_cases c0 : 0 ≤ u ∧ u < M 1 0 0 10
  case neg =>
    rw [if_neg c0]
    exact LQ_no (k := 1) (by decide) ⟨1, rfl, by decide, ug_bestLorry (hB M rfl rfl) ru (by unfold tX8_bestLorry; rw [if_neg c0]; exact hZ _ _ _ (by decide) (by decide) (LE_no h 1 (by decide)))⟩
  rw [if_pos c0]
  exact LQ_yes ⟨0, rfl, by decide, ug_bestLorry (hB _ (xup_tag (by decide)) (xup_tag (by decide))) ru (by
    unfold tX8_bestLorry
    rw [if_pos c0]
    exact hZ 0 _ _ (by decide) (by decide) (LE_rd h))⟩
theorem uc_ifPassed {M : XM} {Q : XPo} {n : Int} {w : Int} (h : KI M ∧ XInR n ∧ XInR w ∧ (if 1 ≤ n ∧ n ≤ 200 then (if 0 ≤ w ∧ w ≤ 3 then Q [xI (fcF (laF M n) w)] (laF M n) else Q [xI 1, xI 0] M) else Q [xI 1, xI 0] M)) : tEX7_ifPassed [xR 0 0 0, xI n, xI w] M Q := @id ((0 = 0 ∧ xval 0 0 0) ∧ KI M ∧ XInR n ∧ XInR w ∧ (if 1 ≤ n ∧ n ≤ 200 then (if 0 ≤ w ∧ w ≤ 3 then Q [xI (fcF (laF M n) w)] (laF M n) else Q [xI 1, xI 0] M) else Q [xI 1, xI 0] M)) ⟨⟨rfl, xvz_0⟩, h⟩
theorem ug_ifPassed {F M : XM} {f : Int} {Q : XPo} {n : Int} {w : Int} (hB : RB F f M) (rn : XInR n) (rw : XInR w) (h : tX8_ifPassed F f n w Q M) : sX8_ifPassed [xR 20 0 0, xI n, xI w] M Q := @id ((20 = 20 ∧ xval 20 0 0) ∧ ∃ (F : XM) (f : Int), RB F f M ∧ XInR n ∧ XInR w ∧ tX8_ifPassed F f n w Q M) ⟨⟨rfl, xvz_20⟩, F, f, hB, rn, rw, h⟩
theorem lc_ifPassed {M : XM} {Z : Int → XPo} (hZ : ∀ (k : Int) (rv : List XV) (N : XM), 0 ≤ k → k ≤ 3 → LE k rv N → Z k rv N) (h : RR M) {n : Int} {w : Int} (rn : XInR n) (rw : XInR w) : tEX7_ifPassed [xR 0 0 0, xI n, xI w] M (LQ [1] (LK (fun N => sX8_ifPassed [xR 20 0 0, xI n, xI w] N) Z)) := by
  have hB : ∀ N : XM, N 20 = M 20 → N 21 = M 21 → RB (rcp pF M 1 0) 1 N := fun N a b => RB_look h a b
  refine uc_ifPassed ⟨h.1, rn, rw, ?_⟩
  by_cases c0 : 1 ≤ n ∧ n ≤ 200
  case neg =>
    rw [if_neg c0]
    exact LQ_no (k := 1) (by decide) ⟨1, rfl, by decide, ug_ifPassed (hB M rfl rfl) rn rw (by unfold tX8_ifPassed; rw [if_neg c0]; exact hZ _ _ _ (by decide) (by decide) (LE_no h 1 (by decide)))⟩
  rw [if_pos c0]
  by_cases c1 : 0 ≤ w ∧ w ≤ 3
  case neg =>
    rw [if_neg c1]
    exact LQ_no (k := 1) (by decide) ⟨1, rfl, by decide, ug_ifPassed (hB M rfl rfl) rn rw (by unfold tX8_ifPassed; rw [if_pos c0, if_neg c1]; exact hZ _ _ _ (by decide) (by decide) (LE_no h 1 (by decide)))⟩
  rw [if_pos c1]
  have he := f1O_laF M n
  exact LQ_yes ⟨0, rfl, by decide, ug_ifPassed (hB _ ((xup_tag (by decide)).trans (he.2 20 (by decide))) ((xup_tag (by decide)).trans (he.2 21 (by decide)))) rn rw (by
    unfold tX8_ifPassed
    rw [if_pos c0, if_pos c1]
    intro M2 hs
    have q := look_RR h he hs
    rw [wdV_fcF (KI_fC h.1 (Or.inl rfl) (by decide)) c1]
    exact hZ 0 _ _ (by decide) (by decide) ⟨_, rfl, q.1, q.2.1, fun _ => q.2.2⟩)⟩
theorem uc_enoughGrace {M : XM} {Q : XPo} {n : Int} (h : KI M ∧ XInR n ∧ (if 1 ≤ n ∧ n ≤ 200 then Q [xI (egV M n)] (egM M n) else Q [xI 1, xI 0] M)) : tEX7_enoughGrace [xR 0 0 0, xI n] M Q := @id ((0 = 0 ∧ xval 0 0 0) ∧ KI M ∧ XInR n ∧ (if 1 ≤ n ∧ n ≤ 200 then Q [xI (egV M n)] (egM M n) else Q [xI 1, xI 0] M)) ⟨⟨rfl, xvz_0⟩, h⟩
theorem ug_enoughGrace {F M : XM} {f : Int} {Q : XPo} {n : Int} (hB : RB F f M) (rn : XInR n) (h : tX8_enoughGrace F f n Q M) : sX8_enoughGrace [xR 20 0 0, xI n] M Q := @id ((20 = 20 ∧ xval 20 0 0) ∧ ∃ (F : XM) (f : Int), RB F f M ∧ XInR n ∧ tX8_enoughGrace F f n Q M) ⟨⟨rfl, xvz_20⟩, F, f, hB, rn, h⟩
theorem lc_enoughGrace {M : XM} {Z : Int → XPo} (hZ : ∀ (k : Int) (rv : List XV) (N : XM), 0 ≤ k → k ≤ 3 → LE k rv N → Z k rv N) (h : RR M) {n : Int} (rn : XInR n) : tEX7_enoughGrace [xR 0 0 0, xI n] M (LQ [1] (LK (fun N => sX8_enoughGrace [xR 20 0 0, xI n] N) Z)) := by
  have hB : ∀ N : XM, N 20 = M 20 → N 21 = M 21 → RB (rcp pF M 1 0) 1 N := fun N a b => RB_look h a b
  refine uc_enoughGrace ⟨h.1, rn, ?_⟩
  by_cases c0 : 1 ≤ n ∧ n ≤ 200
  case neg =>
    rw [if_neg c0]
    exact LQ_no (k := 1) (by decide) ⟨1, rfl, by decide, ug_enoughGrace (hB M rfl rfl) rn (by unfold tX8_enoughGrace; rw [if_neg c0]; exact hZ _ _ _ (by decide) (by decide) (LE_no h 1 (by decide)))⟩
  rw [if_pos c0]
  have he := f1O_egM M n
  exact LQ_yes ⟨0, rfl, by decide, ug_enoughGrace (hB _ ((xup_tag (by decide)).trans (he.2 20 (by decide))) ((xup_tag (by decide)).trans (he.2 21 (by decide)))) rn (by
    unfold tX8_enoughGrace
    rw [if_pos c0]
    intro M2 hs
    have q := look_RR h he hs
    rw [egV_grc (KI_fC h.1 (Or.inl rfl) (by decide))]
    exact hZ 0 _ _ (by decide) (by decide) ⟨_, rfl, q.1, q.2.1, fun _ => q.2.2⟩)⟩
end XLb

