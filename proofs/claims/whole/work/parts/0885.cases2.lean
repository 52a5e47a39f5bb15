section XLc
/-! the cases that are not of one form -/
def LI (ref : XM → XPo → Prop) (Z : Int → XPo) : XPo := fun rv N => ∃ a : Int, rv = [xI a] ∧ XInR a ∧ ref N (Z a)
def LJ (ref : XM → XPo → Prop) (Z : Int → XPo) : XPo := fun rv N => ∃ a : Int, rv = [xJ a] ∧ ref N (Z a)
def LF (ref : XM → XPo → Prop) (Z : UInt64 → XPo) : XPo := fun rv N => ∃ a : UInt64, rv = [xF a] ∧ shOK a ∧ ref N (Z a)
/-! the buffer -/
theorem uc_append {M : XM} {Q : XPo} {c : Int} (h : KI M ∧ XInR c ∧ (if 33 ≤ c ∧ c ≤ 126 then (if ¬ 60 ≤ M 0 0 0 5 then Q [xI (M 0 0 0 5 + 1)] (xup (xup M 17 0 0 (M 0 0 0 5) c) 0 0 0 5 (M 0 0 0 5 + 1)) else Q [xI 2, xI 0] M) else Q [xI 1, xI 0] M)) : tEX7_append [xR 0 0 0, xI c] M Q := @id ((0 = 0 ∧ xval 0 0 0) ∧ KI M ∧ XInR c ∧ (if 33 ≤ c ∧ c ≤ 126 then (if ¬ 60 ≤ M 0 0 0 5 then Q [xI (M 0 0 0 5 + 1)] (xup (xup M 17 0 0 (M 0 0 0 5) c) 0 0 0 5 (M 0 0 0 5 + 1)) else Q [xI 2, xI 0] M) else Q [xI 1, xI 0] M)) ⟨⟨rfl, xvz_0⟩, h⟩
theorem ug_append {M : XM} {Q : XPo} {c : Int} (rc : XInR c) (hl : 0 ≤ M 20 0 0 3 ∧ M 20 0 0 3 ≤ 60) (h : tX8_append c Q M) : sX8_append [xR 20 0 0, xI c] M Q := @id ((20 = 20 ∧ xval 20 0 0) ∧ XInR c ∧ (0 ≤ M 20 0 0 3 ∧ M 20 0 0 3 ≤ 60) ∧ tX8_append c Q M) ⟨⟨rfl, xvz_20⟩, rc, hl, h⟩
theorem lc_append {M : XM} {Z : Int → XPo} (hZ : ∀ (k : Int) (rv : List XV) (N : XM), 0 ≤ k → k ≤ 3 → LE k rv N → Z k rv N) (h : RR M) {c : Int} (rc : XInR c) : tEX7_append [xR 0 0 0, xI c] M (LQ [1, 2] (LK (fun N => sX8_append [xR 20 0 0, xI c] N) Z)) := by
  have hl := h.1.2.2.2.1
  have hb := h.1.2.2.2.2
  have hx := h.2.2.2.1
  have hy := h.2.2.2.2
  have hl2 : 0 ≤ M 20 0 0 3 ∧ M 20 0 0 3 ≤ 60 := by omega
  refine uc_append ⟨h.1, rc, ?_⟩
  by_cases c0 : 33 ≤ c ∧ c ≤ 126
  case neg =>
    rw [if_neg c0]
    exact LQ_no (k := 1) (by decide) ⟨1, rfl, by decide, ug_append rc hl2 (by unfold tX8_append; rw [if_neg c0]; exact hZ _ _ _ (by decide) (by decide) (LE_no h 1 (by decide)))⟩
  rw [if_pos c0]
  by_cases c1 : ¬ 60 ≤ M 0 0 0 5
  case neg =>
    rw [if_neg c1]
    exact LQ_no (k := 2) (by decide) ⟨2, rfl, by decide, ug_append rc hl2 (by unfold tX8_append; rw [if_pos c0, if_neg (by omega)]; exact hZ _ _ _ (by decide) (by decide) (LE_no h 2 (by decide)))⟩
  rw [if_pos c1]
  obtain ⟨L, eL⟩ : ∃ L : Int, L = M 0 0 0 5 := ⟨_, rfl⟩
  rw [← eL] at hl hx c1 ⊢
  obtain ⟨N, eN⟩ : ∃ N : XM, N = xup (xup (xup M 17 0 0 L c) 0 0 0 5 (L + 1)) 26 0 0 0 (w32 (L + 1)) := ⟨_, rfl⟩
  have n3 : N 20 0 0 3 = L := by rw [eN, xup_tag (by decide), xup_tag (by decide), xup_tag (by decide), hx]
  refine LQ_yes ⟨0, rfl, by decide, ?_⟩
  rw [← eN]
  refine ug_append rc (by rw [n3]; exact hl) ?_
  unfold tX8_append
  rw [n3, if_pos c0, if_pos c1]
  obtain ⟨O, eO⟩ : ∃ O : XM, O = xup (xup (xup N 20 0 0 5 0) 23 0 0 L c) 20 0 0 3 (L + 1) := ⟨_, rfl⟩
  rw [← eO]
  have o0 : O 0 0 0 5 = L + 1 := by
    rw [eO, eN]
    simp only [xup_app, Nat.reduceEqDiff, Int.reduceEq, true_and, and_true, false_and, and_false, and_self, if_true, if_false]
  have o17 : ∀ j : Int, O 17 0 0 j = if j = L then c else M 17 0 0 j := fun j => by
    rw [eO, eN]
    simp only [xup_app, Nat.reduceEqDiff, Int.reduceEq, true_and, and_true, false_and, and_false, and_self, if_true, if_false]
  have o23 : ∀ j : Int, O 23 0 0 j = if j = L then c else M 23 0 0 j := fun j => by
    rw [eO, eN]
    simp only [xup_app, Nat.reduceEqDiff, Int.reduceEq, true_and, and_true, false_and, and_false, and_self, if_true, if_false]
  have o3 : O 20 0 0 3 = L + 1 := by
    rw [eO]
    simp only [xup_app, Nat.reduceEqDiff, Int.reduceEq, true_and, and_true, false_and, and_false, and_self, if_true, if_false]
  have o5 : O 20 0 0 5 = 0 := by
    rw [eO]
    simp only [xup_app, Nat.reduceEqDiff, Int.reduceEq, true_and, and_true, false_and, and_false, and_self, if_true, if_false]
  have o1 : O 20 0 0 1 = M 20 0 0 1 := by
    rw [eO, eN]
    simp only [xup_app, Nat.reduceEqDiff, Int.reduceEq, true_and, and_true, false_and, and_false, and_self, if_true, if_false]
  have o26 : O 26 0 0 0 = w32 (L + 1) := by
    rw [eO, eN]
    simp only [xup_app, Nat.reduceEqDiff, Int.reduceEq, true_and, and_true, false_and, and_false, and_self, if_true, if_false]
  have oo : ∀ t : Nat, ¬ t = 0 → ¬ t = 17 → ¬ t = 20 → ¬ t = 23 → ¬ t = 26 → O t = M t := fun t a b d e f => by rw [eO, eN, xup_tag d, xup_tag e, xup_tag d, xup_tag f, xup_tag a, xup_tag b]
  have o21 := oo 21 (by decide) (by decide) (by decide) (by decide) (by decide)
  refine hZ 0 _ _ (by decide) (by decide) ⟨L + 1, rfl, RR_tx h (fun t i a b d => by rw [oo t b (by omega) (by omega) (by omega) (by omega)]) (oo 15 (by decide) (by decide) (by decide) (by decide) (by decide)) o1 (by rw [o21]; exact h.2.1.1) (fun q _ _ => by rw [o21]) (oo 22 (by decide) (by decide) (by decide) (by decide) (by decide)) (by rw [o0]; omega) (fun j a b => ?_) ⟨by rw [o3, o0], fun j a b => ?_⟩, o5, fun _ => o26⟩
  · rw [o17]
    split
    · omega
    · exact hb j a b
  · rw [o17, o23]
    split
    · rfl
    · exact hy j a b
theorem lc_clearBuffer {M : XM} {Z : Int → XPo} {Y : XPo} (hY : ∀ (rv : List XV) (N : XM), LI (fun N => sX8_clearBuffer [xR 20 0 0] N) Z rv N → Y rv N) (hZ : ∀ (a : Int) (N : XM), XInR a → RR N → Z a [xI a] N) (h : RR M) : sX7_clearBuffer [xR 0 0 0] M Y := by
  have hl := h.1.2.2.2.1
  have hb := h.1.2.2.2.2
  have hx := h.2.2.2.1
  have hy := h.2.2.2.2
  refine @id ((0 = 0 ∧ xval 0 0 0) ∧ Y [xI (M 0 0 0 5)] (xup M 0 0 0 5 0)) ⟨⟨rfl, xvz_0⟩, hY _ _ ⟨M 0 0 0 5, rfl, ⟨by omega, by omega⟩, ?_⟩⟩
  obtain ⟨N, eN⟩ : ∃ N : XM, N = xup M 0 0 0 5 0 := ⟨_, rfl⟩
  rw [← eN]
  have n3 : N 20 0 0 3 = M 0 0 0 5 := by rw [eN, xup_tag (by decide), hx]
  obtain ⟨O, eO⟩ : ∃ O : XM, O = xup (xup N 20 0 0 5 0) 20 0 0 3 0 := ⟨_, rfl⟩
  have o0 : O 0 0 0 5 = 0 := by
    rw [eO, eN]
    simp only [xup_app, Nat.reduceEqDiff, Int.reduceEq, true_and, and_true, false_and, and_false, and_self, if_true, if_false]
  have o3 : O 20 0 0 3 = 0 := by
    rw [eO]
    simp only [xup_app, Nat.reduceEqDiff, Int.reduceEq, true_and, and_true, false_and, and_false, and_self, if_true, if_false]
  have o1 : O 20 0 0 1 = M 20 0 0 1 := by
    rw [eO, eN]
    simp only [xup_app, Nat.reduceEqDiff, Int.reduceEq, true_and, and_true, false_and, and_false, and_self, if_true, if_false]
  have oo : ∀ t : Nat, ¬ t = 0 → ¬ t = 20 → O t = M t := fun t a d => by rw [eO, eN, xup_tag d, xup_tag d, xup_tag a]
  have o21 := oo 21 (by decide) (by decide)
  have hr : RR O := RR_tx h (fun t i a b d => by rw [oo t b (by omega)]) (oo 15 (by decide) (by decide)) o1 (by rw [o21]; exact h.2.1.1) (fun q _ _ => by rw [o21]) (oo 22 (by decide) (by decide)) (by rw [o0]; decide) (fun j a b => by rw [oo 17 (by decide) (by decide)]; exact hb j a b) ⟨by rw [o3, o0], fun j a b => by rw [oo 17 (by decide) (by decide), oo 23 (by decide) (by decide)]; exact hy j a b⟩
  refine @id ((20 = 20 ∧ xval 20 0 0) ∧ Z (M 0 0 0 5) [xI (N 20 0 0 3)] (xup (xup N 20 0 0 5 0) 20 0 0 3 0)) ⟨⟨rfl, xvz_20⟩, ?_⟩
  rw [n3, ← eO]
  exact hZ _ _ ⟨by omega, by omega⟩ hr
/-! the sheet -/
theorem shM_tag {M : XM} {t : Nat} (a : ¬ t = 18) (b : ¬ t = 19) : shM M t = M t := by
  unfold shM
  rw [feF_tag a b, rBeg_tag a b]
theorem rbM_tag {M : XM} {t : Nat} (a : ¬ t = 20) : rbM M t = M t := by
  unfold rbM
  rw [xup_tag a, xup_tag a, xup_tag a]
theorem rbM_20 {M : XM} {s : Int} (a : ¬ s = 9) (b : ¬ s = 10) (c : ¬ s = 11) : rbM M 20 0 0 s = M 20 0 0 s := by
  unfold rbM
  rw [xup_app, if_neg (fun q => c q.2.2.2), xup_app, if_neg (fun q => b q.2.2.2), xup_app, if_neg (fun q => a q.2.2.2)]
theorem rbM_9 {M : XM} : rbM M 20 0 0 9 = 0 := by
  unfold rbM
  simp only [xup_app, Nat.reduceEqDiff, Int.reduceEq, true_and, and_true, false_and, and_false, and_self, if_true, if_false]
theorem RR_buf {M : XM} (h : RR M) : bufOK M := ⟨h.1.2.2.2.1, h.1.2.2.2.2⟩
theorem RR_tOK {M N : XM} (h : RR M) (h3 : N 20 0 0 3 = M 20 0 0 3) (h23 : N 23 = M 23) : tOK N := by
  unfold tOK
  rw [h3, h23, h.2.2.2.1]
  exact ⟨h.1.2.2.2.1, fun j a b => by rw [h.2.2.2.2 j a b]; exact h.1.2.2.2.2 j a b⟩
theorem sh_x {M N : XM} (h : RR M) (h23 : N 23 = M 23) : ∀ j : Int, 0 ≤ j → j < 0 + ((M 0 0 0 5).toNat : Int) → rbM N 23 0 0 j = rBeg M 17 0 0 j := fun j a b => by
  have hl := h.1.2.2.2.1
  rw [rbM_tag (by decide), rBeg_tag (by decide) (by decide), h23]
  exact h.2.2.2.2 j a (by omega)
theorem sh_n {M N : XM} (h : RR M) (h3 : N 20 0 0 3 = M 20 0 0 3) : (N 20 0 0 3).toNat = (M 0 0 0 5).toNat := by rw [h3, h.2.2.2.1]
theorem sh_e {M N : XM} (h : RR M) (h3 : N 20 0 0 3 = M 20 0 0 3) (h23 : N 23 = M 23) : shE M = (reF (N 20 0 0 3).toNat 0 (rbM N)).1 := by
  rw [sh_n h h3]
  exact (RS_all _ 0 _ _ (RS_beg M N) (sh_x h h23)).1
theorem sh_r {M N : XM} (h : RR M) (h3 : N 20 0 0 3 = M 20 0 0 3) (h23 : N 23 = M 23) (he : shE M = M 0 0 0 5) : RS (shM M) (shN N) := by
  have hl := h.1.2.2.2.1
  have e := sh_e h h3 h23
  unfold shN
  rw [sh_n h h3] at e ⊢
  exact ((RS_all _ 0 _ _ (RS_beg M N) (sh_x h h23)).2 (by omega)).1
theorem shE_le (M : XM) : shE M ≤ 0 + ((M 0 0 0 5).toNat : Int) := by
  have := feF_in (M 0 0 0 5).toNat 0 (rBeg M)
  unfold shE
  omega
theorem lc_firstError {M : XM} {Z : Int → XPo} {Y : XPo} (hY : ∀ (rv : List XV) (N : XM), LI (fun N => sX8_firstError [xR 20 0 0] N) Z rv N → Y rv N) (hZ : ∀ (a : Int) (N : XM), XInR a → RR N → Z a [xI a] N) (h : RR M) : sX7_firstError [xR 0 0 0] M Y := by
  have hl := h.1.2.2.2.1
  have hE := feF_in (M 0 0 0 5).toNat 0 (rBeg M)
  refine @id ((0 = 0 ∧ xval 0 0 0) ∧ bufOK M ∧ Y [xI (shE M)] (shM M)) ⟨⟨rfl, xvz_0⟩, RR_buf h, hY _ _ ⟨shE M, rfl, by unfold shE; exact ⟨by omega, by omega⟩, ?_⟩⟩
  have t20 := shM_tag (M := M) (t := 20) (by decide) (by decide)
  have t23 := shM_tag (M := M) (t := 23) (by decide) (by decide)
  have h5 : xup (shM M) 20 0 0 5 0 20 0 0 3 = M 20 0 0 3 := by rw [u53, t20]
  have h523 : xup (shM M) 20 0 0 5 0 23 = M 23 := by rw [xup_tag (by decide), t23]
  have e := sh_e h h5 h523
  rw [u53] at e
  refine @id ((20 = 20 ∧ xval 20 0 0) ∧ tOK (shM M) ∧ Z (shE M) [xI (reF (shM M 20 0 0 3).toNat 0 (rbM (xup (shM M) 20 0 0 5 0))).1] (reF (shM M 20 0 0 3).toNat 0 (rbM (xup (shM M) 20 0 0 5 0))).2) ⟨⟨rfl, xvz_20⟩, RR_tOK h (by rw [t20]) t23, ?_⟩
  rw [← e]
  refine hZ _ _ (by unfold shE; exact ⟨by omega, by omega⟩) ?_
  have lo : ∀ t : Nat, ¬ t = 18 → ¬ t = 19 → ¬ t = 20 → ¬ t = 24 → (reF (shM M 20 0 0 3).toNat 0 (rbM (xup (shM M) 20 0 0 5 0))).2 t = M t := fun t a b c d => by rw [reF_tag c d, rbM_tag c, xup_tag c, shM_tag a b]
  refine RR_same h (fun t a => lo t (by omega) (by omega) (by omega) (by omega)) ?_ ?_ (lo 21 (by decide) (by decide) (by decide) (by decide)) (lo 22 (by decide) (by decide) (by decide) (by decide)) (lo 23 (by decide) (by decide) (by decide) (by decide))
  · rw [reF_20 (by decide) (by decide) (by decide), rbM_20 (by decide) (by decide) (by decide), u51, t20]
  · rw [reF_20 (by decide) (by decide) (by decide), rbM_20 (by decide) (by decide) (by decide), u53, t20]
theorem adL_tag {f : Int} {t : Nat} (a : ¬ t = 1) (b : ¬ t = 14) : ∀ (l : List Tu) (F : XM), (adL f l F).2 t = F t
  | [], _ => rfl
  | x :: ts, F => by
    simp only [adL]
    split
    · show (adL f ts (nuT F f x)).2 t = F t
      rw [adL_tag a b ts]
      exact fNewU_tag b a
    · rfl
theorem adL_i {t : Nat} {i : Int} (hi : ¬ i = 0) : ∀ (l : List Tu) (F : XM), (adL 0 l F).2 t i = F t i
  | [], _ => rfl
  | x :: ts, F => by
    simp only [adL]
    split
    · show (adL 0 ts (nuT F 0 x)).2 t i = F t i
      rw [adL_i hi ts]
      unfold nuT fNewU
      funext k s
      simp only [xup_app, hi, false_and, and_false, if_false]
    · rfl
theorem fH_nu {F : XM} {t : Tu} (h : fH F 0) (ht : tuOK t) (hm : maT F 0 t) : fH (nuT F 0 t) 0 := by
  obtain ⟨t1, t2, t3, t4, t5⟩ := ht
  obtain ⟨m1, m2, m3⟩ := hm
  have c3 := h.1.1.1
  have c0 := h.1.1.2.2.2.2.1
  have e : nuT F 0 t 1 0 0 0 = F 1 0 0 0 := by
    unfold nuT fNewU
    simp only [xup_app, Nat.reduceEqDiff, Int.reduceEq, false_and, and_false, if_false]
  unfold fH
  rw [e]
  exact ⟨fI_newU h.1 m3 (by omega) (by omega) ⟨t3.1, m2⟩ (by omega) (by omega), h.2⟩
theorem adL_H : ∀ (l : List Tu) (F : XM), fH F 0 → (∀ t ∈ l, tuOK t) → fH (adL 0 l F).2 0
  | [], _, h, _ => h
  | x :: ts, F, h, ht => by
    simp only [adL]
    split
    next hm => exact adL_H ts _ (fH_nu h (ht x List.mem_cons_self) hm) (fun t q => ht t (List.mem_cons_of_mem _ q))
    next => exact h
theorem fH_keep {M : XM} (h : KI M) : fH (fKeep M) 0 := by
  have a := h.1 0 (Or.inl rfl) (by decide)
  have hn := h.2.1.1
  unfold fH
  rw [fKeep_at hn 1 0 0 (by decide)]
  exact ⟨fKeep_I hn a.1, a.2⟩
/-- a sheet of both -/
theorem RR_sheet {M N M2 : XM} {l : List Tu} (h : RR M) (ht : ∀ t ∈ l, tuOK t) (hc : ∀ t : Nat, t < 18 → ¬ t = 0 → N t = (adL 0 l (fKeep M)).2 t) (h0 : N 0 0 0 5 = 0) (hh : ∀ t : Nat, 20 ≤ t → ¬ t = 26 → N t = M t) (hs : shS (adL 0 l (fKeep M)).2 0 N M2) : RR M2 := by
  obtain ⟨F', eF⟩ : ∃ F' : XM, F' = (adL 0 l (fKeep M)).2 := ⟨_, rfl⟩
  have hF : fH F' 0 := by rw [eF]; exact adL_H l _ (fH_keep h.1) ht
  have ft : ∀ t : Nat, ¬ t = 1 → ¬ t = 14 → F' t = fKeep M t := fun t a b => by rw [eF]; exact adL_tag a b l _
  have fi : ∀ (t : Nat) (i : Int), ¬ i = 0 → F' t i = fKeep M t i := fun t i a => by rw [eF]; exact adL_i a l _
  rw [← eF] at hs hc
  obtain ⟨s1, s2, s3, s5, sv, sz⟩ := hs
  obtain ⟨v1, v2, v3⟩ := sv
  rw [hh 20 (by decide) (by decide)] at s2 v1 v3
  rw [hh 21 (by decide) (by decide)] at v2
  rw [hh 22 (by decide) (by decide)] at v3
  obtain ⟨P, eP⟩ : ∃ P : XM, P = fun (t : Nat) (i k s : Int) => if t = 20 then (if i = 0 ∧ k = 0 ∧ s = 1 then M2 20 0 0 1 else if i = 0 ∧ k = 0 ∧ s = 5 then 0 else M 20 i k s) else if t = 21 ∨ t = 22 then M2 t i k s else F' t i k s := ⟨_, rfl⟩
  have p1 : P 20 0 0 1 = M2 20 0 0 1 := by rw [eP]; simp only [if_true, and_self]
  have p5 : P 20 0 0 5 = 0 := by rw [eP]; simp only [Int.reduceEq, and_false, if_true, if_false, and_self]
  have ps : ∀ s : Int, ¬ s = 1 → ¬ s = 5 → P 20 0 0 s = M 20 0 0 s := fun s a b => by rw [eP]; simp only [a, b, and_false, if_true, if_false]
  have p21 : P 21 = M2 21 := by rw [eP]; funext i k s; simp only [Nat.reduceEqDiff, true_or, if_true, if_false]
  have p22 : P 22 = M2 22 := by rw [eP]; funext i k s; simp only [Nat.reduceEqDiff, or_true, if_true, if_false]
  have po : ∀ t : Nat, ¬ t = 20 → ¬ t = 21 → ¬ t = 22 → P t = F' t := fun t a b c => by rw [eP]; funext i k s; simp only [a, b, c, or_self, if_false]
  have f20 : F' 20 = M 20 := (ft 20 (by decide) (by decide)).trans (fKeep_hi M (by decide))
  have f21 : F' 21 = M 21 := (ft 21 (by decide) (by decide)).trans (fKeep_hi M (by decide))
  have f22 : F' 22 = M 22 := (ft 22 (by decide) (by decide)).trans (fKeep_hi M (by decide))
  have hop : opS F' 0 F' P := by
    refine ⟨po, fun s a b _ _ => by rw [f20]; exact ps s a b, p5, ?_, by rw [p21]; exact sz⟩
    unfold svh
    rw [p1, p22, f20, f21, f22]
    exact ⟨v1, v2, v3⟩
  have hP : RR P := RR_op h fi (ft 15 (by decide) (by decide)) ((ft 0 (by decide) (by decide)).trans (keep_t pF_0 (by decide))) ((ft 17 (by decide) (by decide)).trans (keep_t pF_17 (by decide))) (fun t a => (ft t (by omega) (by omega)).trans (fKeep_hi M (by omega))) (fun _ _ _ _ => rfl) hF hF.1.1 hop
  have m : ∀ t : Nat, t < 18 → M2 t = N t := fun t a => s1 t (by omega) (by omega) (by omega) (by omega)
  have e17 : M2 17 = M 17 := ((m 17 (by decide)).trans (hc 17 (by decide) (by decide))).trans ((ft 17 (by decide) (by decide)).trans (keep_t pF_17 (by decide)))
  have e23 : M2 23 = M 23 := (s1 23 (by decide) (by decide) (by decide) (by decide)).trans (hh 23 (by decide) (by decide))
  have e0 : M2 0 0 0 5 = 0 := by rw [m 0 (by decide)]; exact h0
  refine RR_tx hP (fun t i a b _ => by rw [m t (by omega), hc t (by omega) b, po t (by omega) (by omega) (by omega)]) ?_ p1.symm sz.1 (fun q _ _ => by rw [p21]) p22.symm (by rw [e0]; decide) (fun j a b => by rw [e17]; exact h.1.2.2.2.2 j a b) ⟨by rw [s3, e0], fun j a b => by rw [e17, e23]; exact h.2.2.2.2 j a b⟩
  rw [m 15 (by decide), hc 15 (by decide) (by decide), po 15 (by decide) (by decide) (by decide)]
theorem cF_keep (M : XM) : cF (rBeg (fKeep (shM M))) (fKeep M) := fun t a b => by
  rw [rBeg_tag a b]
  have e15 := shM_tag (M := M) (t := 15) (by decide) (by decide)
  unfold fKeep
  rw [e15]
  funext i k s
  simp only [xup_app]
  unfold rcp
  rw [shM_tag a b]
/-- what the class's sheet leaves -/
theorem shA_is {M : XM} (h : RR M) : (shA M).1 = (adL 0 (uL (M 0 0 0 5).toNat 0 (rBeg M)) (fKeep M)).1 ∧ cF (shA M).2 (adL 0 (uL (M 0 0 0 5).toNat 0 (rBeg M)) (fKeep M)).2 := by
  have hl := h.1.2.2.2.1
  have c := cF_keep M
  have e0 : rBeg (fKeep (shM M)) 0 = M 0 := (c 0 (by decide) (by decide)).trans (keep_t pF_0 (by decide))
  have e17 : rBeg (fKeep (shM M)) 17 = M 17 := (c 17 (by decide) (by decide)).trans (keep_t pF_17 (by decide))
  have q := auF_adL (M 0 0 0 5).toNat 0 0 (rBeg (fKeep (shM M))) (fKeep M) c (rI_beg _) (by rw [e0]; omega)
  have r : rEq (rBeg (fKeep (shM M))) (rBeg M) := by
    unfold rEq rBeg
    simp only [xup_app, Nat.reduceEqDiff, Int.reduceEq, true_and, and_true, false_and, and_false, and_self, if_true, if_false]
  rw [uL_eq _ 0 _ _ r (rI_beg _) (by rw [e17, rBeg_tag (by decide) (by decide)])] at q
  unfold shA
  rw [show (M 0 0 0 5 + 1).toNat = (M 0 0 0 5).toNat + 1 by omega]
  exact ⟨by rw [q.1]; omega, q.2⟩
theorem uc_addSheet {M : XM} {Q : XPo} (h : KI M ∧ (if ¬ shE M < M 0 0 0 5 ∧ (shM M 18 0 0 0 = 3 ∧ rWh (shM M)) then Q [xI (shA M).1] (xup (shA M).2 0 0 0 5 0) else Q [xI 1, xI 0] (shM M))) : tEX7_addSheet [xR 0 0 0] M Q := @id ((0 = 0 ∧ xval 0 0 0) ∧ KI M ∧ (if ¬ shE M < M 0 0 0 5 ∧ (shM M 18 0 0 0 = 3 ∧ rWh (shM M)) then Q [xI (shA M).1] (xup (shA M).2 0 0 0 5 0) else Q [xI 1, xI 0] (shM M))) ⟨⟨rfl, xvz_0⟩, h⟩
theorem ug_addSheet {M : XM} {Q : XPo} (ht : tOK M) (h1 : shW M → ∃ (F : XM) (f : Int) (l : List Tu), RB F f M ∧ (PS (enM (shN M) 0) 0 l ∧ (l.length : Int) = shN M 20 0 0 9 + 1 ∧ ∀ t ∈ l, tuOK t) ∧ ∀ M' : XM, shS (adL f l F).2 f M M' → Q [xI (adL f l F).1] M') (h0 : ¬ shW M → Q [xI 0] (xup (shN M) 20 0 0 5 1)) : sX8_addSheet [xR 20 0 0] M Q := @id ((20 = 20 ∧ xval 20 0 0) ∧ tOK M ∧ (shW M → ∃ (F : XM) (f : Int) (l : List Tu), RB F f M ∧ (PS (enM (shN M) 0) 0 l ∧ (l.length : Int) = shN M 20 0 0 9 + 1 ∧ ∀ t ∈ l, tuOK t) ∧ ∀ M' : XM, shS (adL f l F).2 f M M' → Q [xI (adL f l F).1] M') ∧ (¬ shW M → Q [xI 0] (xup (shN M) 20 0 0 5 1))) ⟨⟨rfl, xvz_20⟩, ht, h1, h0⟩
/-- both find the sheet whole, or both don't -/
theorem sh_w {M N : XM} (h : RR M) (h3 : N 20 0 0 3 = M 20 0 0 3) (h23 : N 23 = M 23) : (¬ shE M < M 0 0 0 5 ∧ (shM M 18 0 0 0 = 3 ∧ rWh (shM M))) ↔ shW N := by
  have e := sh_e h h3 h23
  have l := shE_le M
  have hl := h.1.2.2.2.1
  have hx : N 20 0 0 3 = M 0 0 0 5 := by rw [h3, h.2.2.2.1]
  unfold shW rWh
  constructor
  · rintro ⟨a, b, -, c⟩
    have r := sh_r h h3 h23 (by omega)
    rw [b] at c
    unfold LST at c
    simp only [Int.reduceEq, if_false] at c
    refine ⟨by omega, ?_⟩
    rcases r with r | r | r | r | r | r
    · omega
    · omega
    · omega
    · omega
    · omega
    · exact ⟨r.1, by rw [r.2.2.1]; exact c⟩
  · rintro ⟨a, b, c⟩
    have r := sh_r h h3 h23 (by omega)
    refine ⟨by omega, ?_⟩
    rcases r with r | r | r | r | r | r
    · omega
    · omega
    · omega
    · omega
    · omega
    · rw [r.2.1]
      unfold LST
      simp only [Int.reduceEq, Int.reduceLT, if_false, true_and]
      rw [← r.2.2.1]
      exact c
theorem lc_addSheet {M : XM} {Z : Int → XPo} (hZ : ∀ (k : Int) (rv : List XV) (N : XM), 0 ≤ k → k ≤ 3 → LE k rv N → Z k rv N) (h : RR M) : tEX7_addSheet [xR 0 0 0] M (LQ [1] (LK (fun N => sX8_addSheet [xR 20 0 0] N) Z)) := by
  have hl := h.1.2.2.2.1
  refine uc_addSheet ⟨h.1, ?_⟩
  by_cases c0 : ¬ shE M < M 0 0 0 5 ∧ (shM M 18 0 0 0 = 3 ∧ rWh (shM M))
  · rw [if_pos c0]
    have A := shA_is h
    obtain ⟨l, el⟩ : ∃ l : List Tu, l = uL (M 0 0 0 5).toNat 0 (rBeg M) := ⟨_, rfl⟩
    rw [← el] at A
    obtain ⟨a1, a2⟩ := A
    have at' : ∀ t : Nat, ¬ t = 1 → ¬ t = 14 → ¬ t = 18 → ¬ t = 19 → (shA M).2 t = fKeep M t := fun t p q r w => (a2 t r w).trans (adL_tag p q l _)
    refine LQ_yes ⟨0, rfl, by decide, ?_⟩
    obtain ⟨N, eN⟩ : ∃ N : XM, N = xup (xup (shA M).2 0 0 0 5 0) 26 0 0 0 (w32 (shA M).1) := ⟨_, rfl⟩
    rw [← eN]
    have hh : ∀ t : Nat, 20 ≤ t → ¬ t = 26 → N t = M t := fun t p q => by
      rw [eN, xup_tag q, xup_tag (by omega), at' t (by omega) (by omega) (by omega) (by omega)]
      exact fKeep_hi M (by omega)
    have h3 : N 20 0 0 3 = M 20 0 0 3 := by rw [hh 20 (by decide) (by decide)]
    have h23 : N 23 = M 23 := hh 23 (by decide) (by decide)
    have hw := (sh_w h h3 h23).mp c0
    have hn := sh_n h h3
    have hw2 := hw
    unfold shW shN at hw2
    rw [hn] at hw2
    have hx : N 20 0 0 3 = M 0 0 0 5 := by rw [h3, h.2.2.2.1]
    have hs := sheet_l (RS_beg M N) rbM_9 (sh_x h h23) (by omega) hw2.2.1 hw2.2.2
    rw [← el] at hs
    refine ug_addSheet (RR_tOK h h3 h23) (fun _ => ⟨fKeep M, 0, l, RB_k2 h (hh 20 (by decide) (by decide)) (hh 21 (by decide) (by decide)), ?_, fun M2 q => ?_⟩) (fun q => absurd hw q)
    · unfold shN
      rw [hn]
      exact hs
    · have hr := RR_sheet h hs.2.2 (fun t p r => by rw [eN, xup_tag (by omega), xup_tag r]; exact a2 t (by omega) (by omega)) (by rw [eN, xup_tag (by decide), xup_app, if_pos ⟨rfl, rfl, rfl, rfl⟩]) hh q
      refine hZ 0 _ _ (by decide) (by decide) ⟨_, rfl, hr, q.2.2.2.1, fun _ => ?_⟩
      rw [q.1 26 (by decide) (by decide) (by decide) (by decide), eN, xup_app, if_pos ⟨rfl, rfl, rfl, rfl⟩, a1]
  · rw [if_neg c0]
    have t20 := shM_tag (M := M) (t := 20) (by decide) (by decide)
    have t23 := shM_tag (M := M) (t := 23) (by decide) (by decide)
    have h3 : shM M 20 0 0 3 = M 20 0 0 3 := by rw [t20]
    have hw := fun q => c0 ((sh_w h h3 t23).mpr q)
    refine LQ_no (k := 1) (by decide) ⟨1, rfl, by decide, ug_addSheet (RR_tOK h h3 t23) (fun q => absurd q hw) (fun _ => ?_)⟩
    have lo : ∀ t : Nat, ¬ t = 18 → ¬ t = 19 → ¬ t = 20 → ¬ t = 24 → shN (shM M) t = M t := fun t a b c d => by rw [shN_tag c d, shM_tag a b]
    refine hZ _ _ _ (by decide) (by decide) (LE_no (RR_same h (fun t a => ?_) ?_ ?_ (lo 21 (by decide) (by decide) (by decide) (by decide)) (lo 22 (by decide) (by decide) (by decide) (by decide)) (lo 23 (by decide) (by decide) (by decide) (by decide))) 1 (by decide))
    · exact lo t (by omega) (by omega) (by omega) (by omega)
    · rw [shN_20 (by decide) (by decide) (by decide), t20]
    · rw [shN_20 (by decide) (by decide) (by decide), t20]
/-! undo -/
theorem uc_undo {M : XM} {Q : XPo} (h : KI M ∧ (if ¬ M 15 0 0 2 ≤ 0 then Q [xI (M 15 0 0 2 - 1)] (fRest M) else Q [xI 2, xI 0] M)) : tEX7_undo [xR 0 0 0] M Q := @id ((0 = 0 ∧ xval 0 0 0) ∧ KI M ∧ (if ¬ M 15 0 0 2 ≤ 0 then Q [xI (M 15 0 0 2 - 1)] (fRest M) else Q [xI 2, xI 0] M)) ⟨⟨rfl, xvz_0⟩, h⟩
theorem ug_undo {M : XM} {Q : XPo} (h : (0 ≤ M 20 0 0 1 ∧ M 20 0 0 1 ≤ 6) ∧ (M 20 0 0 1 = 0 → Q [xI 0] (xup M 20 0 0 5 1)) ∧ (0 < M 20 0 0 1 → ∀ M' : XM, und M M' → Q [xI (M 20 0 0 1 - 1)] M')) : sX8_undo [xR 20 0 0] M Q := @id ((20 = 20 ∧ xval 20 0 0) ∧ (0 ≤ M 20 0 0 1 ∧ M 20 0 0 1 ≤ 6) ∧ (M 20 0 0 1 = 0 → Q [xI 0] (xup M 20 0 0 5 1)) ∧ (0 < M 20 0 0 1 → ∀ M' : XM, und M M' → Q [xI (M 20 0 0 1 - 1)] M')) ⟨⟨rfl, xvz_20⟩, h⟩
theorem lc_undo {M : XM} {Z : Int → XPo} (hZ : ∀ (k : Int) (rv : List XV) (N : XM), 0 ≤ k → k ≤ 3 → LE k rv N → Z k rv N) (h : RR M) : tEX7_undo [xR 0 0 0] M (LQ [2] (LK (fun N => sX8_undo [xR 20 0 0] N) Z)) := by
  have hm := h.1.2.2.1
  have hs := h.2.2.1.1
  refine uc_undo ⟨h.1, ?_⟩
  by_cases c0 : ¬ M 15 0 0 2 ≤ 0
  · rw [if_pos c0]
    have f20 : fRest M 20 = M 20 := rest_t (fun k s => pF_hi (by decide) k s) (by decide)
    have e : xup (fRest M) 26 0 0 0 (w32 (M 15 0 0 2 - 1)) 20 0 0 1 = M 15 0 0 2 := by rw [xup_tag (by decide), f20, hs]
    refine LQ_yes ⟨0, rfl, by decide, ug_undo ?_⟩
    rw [e]
    exact ⟨hm, fun q => by omega, fun _ M2 q => hZ 0 _ _ (by decide) (by decide) ⟨_, rfl, RR_r26 (RR_undo h (by omega) (und_26 q)), (und_v q).1, fun _ => (und_v q).2⟩⟩
  · rw [if_neg c0]
    refine LQ_no (k := 1) (by decide) ⟨1, rfl, by decide, ug_undo ⟨by omega, fun _ => hZ _ _ _ (by decide) (by decide) (LE_no h 1 (by decide)), fun q => by omega⟩⟩
/-! the share -/
theorem lc_servedShare {M : XM} {Z : UInt64 → XPo} {Y : XPo} (hY : ∀ (rv : List XV) (N : XM), LF (fun N => sX8_servedShare [xR 20 0 0] N) Z rv N → Y rv N) (hZ : ∀ (a : UInt64) (N : XM), shOK a → RR N → Z a [xF a] N) (h : RR M) : sX7_servedShare [xR 0 0 0] M Y := by
  have hG := KI_G h.1
  have s := served_in hG
  have hT := h.2.1.2.2.2.1
  have e12 : M 21 0 0 12 = tX0_served M 0 := hT.2.1
  have e14 : M 21 0 0 14 = M 1 0 0 1 := hT.2.2.2.1
  refine @id ((0 = 0 ∧ xval 0 0 0) ∧ KI M ∧ Y [xF (shV (tX0_served M 0) (M 1 0 0 1))] M) ⟨⟨rfl, xvz_0⟩, h.1, hY _ _ ⟨_, rfl, shV_ok s.1 s.2.1 s.2.2, ?_⟩⟩
  refine @id ((20 = 20 ∧ xval 20 0 0) ∧ XInR (M 21 0 0 14) ∧ Z (shV (tX0_served M 0) (M 1 0 0 1)) [xF (shV (M 21 0 0 12) (M 21 0 0 14))] (xup M 20 0 0 5 0)) ⟨⟨rfl, xvz_20⟩, ?_, by rw [e12, e14]; exact hZ _ _ (shV_ok s.1 s.2.1 s.2.2) (RR_5 h 0)⟩
  rw [e14]
  exact ⟨by omega, by omega⟩
end XLc

