section XPs
/-- nothing but film i is changed, and of it only some -/
def xLo (M M' : XM) (i : Int) : Prop := (∀ (t : Nat) (i' : Int), ¬ i' = i → M' t i' = M t i') ∧ ∀ t : Nat, ¬ t = 1 → ¬ t = 8 → ¬ t = 11 → ¬ t = 12 → ¬ t = 13 → ¬ t = 14 → M' t = M t
theorem xLo_refl (M : XM) (i : Int) : xLo M M i := ⟨fun _ _ _ => rfl, fun _ _ _ _ _ _ _ => rfl⟩
theorem xLo_trans {M M' M'' : XM} {i : Int} (h : xLo M M' i) (h' : xLo M' M'' i) : xLo M M'' i :=
  ⟨fun t i' a => (h'.1 t i' a).trans (h.1 t i' a), fun t a b c d e f => (h'.2 t a b c d e f).trans (h.2 t a b c d e f)⟩
theorem xup_i {M : XM} {t : Nat} {i k s v : Int} {t' : Nat} {i' : Int} (h : ¬ i' = i) : xup M t i k s v t' i' = M t' i' := by
  funext k' s'
  simp only [xup_app, h, false_and, and_false, if_false]
theorem mset_i {M : XM} {i j : Int} {S : Int → Int} {t' : Nat} {i' : Int} (h : ¬ i' = i) : mset M i j S t' i' = M t' i' := by
  funext k' s'
  simp only [mset_app, h, false_and, and_false, if_false]
theorem xLo_xup {M : XM} {t : Nat} {i k s v : Int} (h : t = 1 ∨ t = 8 ∨ t = 11 ∨ t = 12 ∨ t = 13 ∨ t = 14) : xLo M (xup M t i k s v) i :=
  ⟨fun _ _ h => xup_i h, fun t' a b c d e f => xup_tag (by omega)⟩
theorem xLo_mset (M : XM) (i j : Int) (S : Int → Int) : xLo M (mset M i j S) i := ⟨fun _ _ h => mset_i h, fun _ _ _ c d _ _ => mset_tag c d⟩
theorem xLo_xit {f : Int → XM → XM} {i : Int} (h : ∀ (u : Int) (M : XM), xLo M (f u M) i) : ∀ (n : Nat) (u : Int) (M : XM), xLo M (xit f n u M) i
  | 0, _, M => xLo_refl M i
  | n + 1, u, M => xLo_trans (h u M) (xLo_xit h n (u + 1) (f u M))
theorem xLo_drive (M : XM) (i l : Int) : xLo M (lDrive M i l) i := by
  unfold lDrive
  split
  · exact xLo_refl M i
  · split
    · exact xLo_trans (xLo_xup (by decide)) (xLo_trans (xLo_xup (by decide)) (xLo_trans (xLo_xup (by decide)) (xLo_xup (by decide))))
    · exact xLo_xup (by decide)
theorem xLo_cook (M : XM) (i k m p : Int) : xLo M (kCook M i k m p) i := by
  unfold kCook mPut
  split
  · split
    · exact xLo_trans (xLo_mset _ _ _ _) (xLo_trans (xLo_xup (by decide)) (xLo_trans (xLo_xup (by decide)) (xLo_xup (by decide))))
    · exact xLo_trans (xLo_mset _ _ _ _) (xLo_trans (xLo_xup (by decide)) (xLo_xup (by decide)))
  · exact xLo_refl M i
theorem xLo_thK (M : XM) (i k : Int) : xLo M (thK i k M) i := xLo_trans (xLo_mset _ _ _ _) (xLo_xup (by decide))
theorem xLo_thLo (M : XM) (i k : Int) : xLo M (thLo i k M) i := xLo_trans (xLo_mset _ _ _ _) (xLo_xup (by decide))
theorem xLo_cal (M : XM) (i u : Int) : xLo M (cal i u M) i := by
  unfold cal uCall
  split
  · exact xLo_trans (xLo_xup (by decide)) (xLo_trans (xLo_xup (by decide)) (xLo_trans (xLo_xup (by decide)) (xLo_trans (xLo_xup (by decide)) (xLo_xup (by decide)))))
  · exact xLo_refl M i
theorem xLo_tmL {i p meat : Int} : ∀ (n : Nat) (l : Int) (M : XM) (w : Int), xLo M (tmL i p meat n l M w).1 i
  | 0, _, M, _ => xLo_refl M i
  | n + 1, l, M, w => by
    simp only [tmL]
    split
    · exact xLo_trans (xLo_trans (xLo_mset _ _ _ _) (xLo_xup (by decide))) (xLo_tmL n (l + 1) _ _)
    · exact xLo_tmL n (l + 1) M w
theorem xLo_tmK {i p meat : Int} : ∀ (n : Nat) (l : Int) (M : XM) (w : Int), xLo M (tmK i p meat n l M w).1 i
  | 0, _, M, _ => xLo_refl M i
  | n + 1, l, M, w => by
    simp only [tmK]
    split
    · exact xLo_trans (xLo_mset _ _ _ _) (xLo_tmK n (l + 1) _ _)
    · exact xLo_tmK n (l + 1) M w
theorem xLo_sv (s meat : Int) (M : XM) (i u : Int) : xLo M (sv s meat i u M) i := by
  unfold sv uServe uNote tM
  have h := xLo_trans (xLo_tmL (i := i) (p := M 14 i u 1) (meat := meat) (M 1 i 0 8).toNat 0 M (M 14 i u s)) (xLo_tmK (i := i) (p := M 14 i u 1) (meat := meat) (M 1 i 0 6).toNat 0 _ (tmL i (M 14 i u 1) meat (M 1 i 0 8).toNat 0 M (M 14 i u s)).2)
  split
  · exact xLo_trans h (xLo_trans (xLo_xup (by decide)) (xLo_trans (xLo_xup (by decide)) (xLo_xup (by decide))))
  · exact xLo_trans h (xLo_trans (xLo_xup (by decide)) (xLo_xup (by decide)))
theorem xLo_srv (M : XM) (i u : Int) : xLo M (srv i u M) i := by
  unfold srv
  split
  · exact xLo_trans (xLo_trans (xLo_sv _ _ _ _ _) (xLo_sv _ _ _ _ _)) (xLo_sv _ _ _ _ _)
  · exact xLo_refl M i
theorem xLo_pun (M : XM) (i u : Int) : xLo M (pun i u M) i := by
  unfold pun
  split
  · exact xLo_xup (by decide)
  · exact xLo_refl M i
theorem xLo_pass (M : XM) (i : Int) : xLo M (fPass M i) i := by
  unfold fPass
  refine xLo_trans ?_ (xLo_xit (fun u M => xLo_pun M i u) _ _ _)
  refine xLo_trans ?_ (xLo_xit (fun u M => xLo_srv M i u) _ _ _)
  refine xLo_trans ?_ (xLo_xit (fun u M => xLo_cal M i u) _ _ _)
  refine xLo_trans ?_ (xLo_trans (xLo_xit (fun u M => xLo_thK M i u) _ _ _) (xLo_xit (fun u M => xLo_thLo M i u) _ _ _))
  refine xLo_trans ?_ (xLo_xit (fun u M => xLo_cook M i u _ _) _ _ _)
  exact xLo_trans (xLo_xup (by decide)) (xLo_xit (fun u M => xLo_drive M i u) _ _ _)
/-- invariants through the phases -/
theorem fI_min {c b v : Int} {M : XM} {i : Int} (h0 : 0 ≤ v) (h1 : v ≤ 30000) (h : fI c b M i) : fI c b (xup M 1 i 0 0 v) i := by
  obtain ⟨hC, hS, hK, hL, hU⟩ := h
  have e : ∀ t : Nat, ¬ t = 1 → xup M 1 i 0 0 v t = M t := fun t h => xup_tag h
  refine ⟨?_, fS_congr (by rw [e 11 (by decide)]) (by rw [e 12 (by decide)]) hS, fK_congr (fun k s _ => by rw [e 8 (by decide)]) (by rw [e 9 (by decide)]) hK, fL_congr (fun l s _ => by rw [e 13 (by decide)]) hL, fU_congr (by rw [e 14 (by decide)]) (by simp only [xup_app, Int.reduceEq, and_false, if_false]) hU⟩
  unfold fC at hC ⊢
  rw [e 2 (by decide), e 3 (by decide), e 4 (by decide)]
  simp only [xup_app, true_and, Int.reduceEq, if_false, and_self, if_true]
  exact ⟨hC.1, hC.2.1, hC.2.2.1, hC.2.2.2.1, ⟨h0, h1⟩, hC.2.2.2.2.2⟩
theorem fI_pDrive {c b : Int} {M : XM} {i : Int} (h : fI c b M i) : fI c b (pDrive M i) i :=
  have hc := h.1.2.2.1
  xit_ind (P := fun M => fI c b M i) (lo := 0) (hi := 4) (fun _ _ h0 h1 hp => fI_drive h0 h1 hp) _ 0 M (by decide) (by omega) h
theorem fI_pCook_n {c : Int} {i : Int} : ∀ (n : Nat) (k b : Int) (M : XM), 0 ≤ k → k + n ≤ 3 → fI c b M i → fI c (b + 20 * n) (xit (fun k M => kCook M i k (M 1 i 0 0) (M 2 i 0 4)) n k M) i
  | 0, _, b, M, _, _, h => by
    simp only [xit]
    exact fI_mono h (Int.le_refl _) (by omega)
  | n + 1, k, b, M, h0, h1, h => by
    simp only [xit]
    exact fI_mono (fI_pCook_n n (k + 1) (b + 20) _ (by omega) (by omega) (fI_cook h0 (by omega) h)) (Int.le_refl _) (by omega)
theorem fI_pCook {c b : Int} {M : XM} {i : Int} (h : fI c b M i) : fI c (b + 60) (pCook M i) i :=
  have hc := h.1.2.1
  fI_mono (fI_pCook_n (M 1 i 0 6).toNat 0 b M (by decide) (by omega) h) (Int.le_refl _) (by omega)
theorem fI_pThrow {c b : Int} {M : XM} {i : Int} (h : fI c b M i) : fI c b (pThrow M i) i :=
  have hc := h.1.2.2.1
  have hc6 := h.1.2.1
  xit_ind (P := fun M => fI c b M i) (lo := 0) (hi := 4) (fun _ _ h0 h1 hp => fI_thLo h0 h1 hp) _ 0 _ (by decide) (by omega)
    (xit_ind (P := fun M => fI c b M i) (lo := 0) (hi := 3) (fun _ _ h0 h1 hp => fI_thK h0 h1 hp) _ 0 M (by decide) (by omega) h)
theorem fI_pCall_n {b : Int} {i : Int} : ∀ (n : Nat) (k c : Int) (M : XM), 0 ≤ k → k + n ≤ 12 → fI c b M i → fI (c + 300 * n) b (xit (cal i) n k M) i
  | 0, _, c, M, _, _, h => by
    simp only [xit]
    exact fI_mono h (by omega) (Int.le_refl _)
  | n + 1, k, c, M, h0, h1, h => by
    simp only [xit]
    exact fI_mono (fI_pCall_n n (k + 1) (c + 300) _ (by omega) (by omega) (fI_cal h0 (by omega) h)) (by omega) (Int.le_refl _)
theorem fI_pCall {c b : Int} {M : XM} {i : Int} (h : fI c b M i) : fI (c + 3600) b (pCall M i) i :=
  have hc := h.1.2.2.2.1
  fI_mono (fI_pCall_n (M 1 i 0 10).toNat 0 c M (by decide) (by omega) h) (by omega) (Int.le_refl _)
theorem fI_pServe {c b : Int} {M : XM} {i : Int} (h : fI c b M i) : fI c b (pServe M i) i :=
  have hc := h.1.2.2.2.1
  xit_ind (P := fun M => fI c b M i) (lo := 0) (hi := 12) (fun _ _ h0 h1 hp => fI_srv h0 h1 hp) _ 0 M (by decide) (by omega) h
theorem fI_pPunish {c b : Int} {M : XM} {i : Int} (h : fI c b M i) : fI c b (pPunish M i) i :=
  have hc := h.1.2.2.2.1
  xit_ind (P := fun M => fI c b M i) (lo := 0) (hi := 12) (fun _ _ h0 h1 hp => fI_pun h0 h1 hp) _ 0 M (by decide) (by omega) h
theorem fI_pass {c b : Int} {M : XM} {i : Int} (h : fI c b M i) (hm : M 1 i 0 0 < 30000) : fI (c + 3600) (b + 60) (fPass M i) i :=
  have hc := h.1.2.2.2.2.1
  fI_pPunish (fI_pServe (fI_pCall (fI_pThrow (fI_pCook (fI_pDrive (fI_min (by omega) (by omega) h))))))
/-- UnitKitchens$Film.passMinute()V -/
abbrev wX0_passMinute : List Cond := Cond.code yX0_passMinute cX0_passMinute 1 none :: xT
abbrev rX0_passMinute : Room := { frames := 5, cells := 0, slots := 0, locals := 121 }
def pX0_passMinute (Post : XPo) : List (Nat × XStp) := [(0, j_ald 0 1), (1, j_dup), (2, j_gI 1 0), (5, j_c 1 1), (6, j_add), (7, j_pI 1 0), (10, j_ald 0 1), (11, j_V0 1 sX0_driveLorries), (14, j_ald 0 1), (15, j_V0 1 sX0_cookPots), (18, j_ald 0 1), (19, j_V0 1 sX0_throwOldMeals), (22, j_ald 0 1), (23, j_V0 1 sX0_callUnits), (26, j_ald 0 1), (27, j_V0 1 sX0_serveUnits), (30, j_ald 0 1), (31, j_V0 1 sX0_punish), (34, j_ret0 Post)]
set_option maxRecDepth 100000 in
theorem aX0_passMinute (Post : XPo) : XAll rX0_passMinute cX0_passMinute 1 RX0 wX0_passMinute none Post (pX0_passMinute Post) := XAll.cons (xs_aload_n dX0_passMinute_0 rfl) (XAll.cons (xs_dup dX0_passMinute_1) (XAll.cons (fgX0_0 tw_192 dX0_passMinute_2) (XAll.cons (xs_iconst dX0_passMinute_5) (XAll.cons (xs_iadd dX0_passMinute_6) (XAll.cons (fpX0_0 tw_192 dX0_passMinute_7) (XAll.cons (xs_aload_n dX0_passMinute_10 rfl) (XAll.cons (xs_V0 kX0_driveLorries ⟨⟨rfl, rfl, by decide, by decide⟩, ⟨by decide, by decide, by decide +kernel⟩, ⟨tw_471, tw_472, tw_473, tw_2, tw_474⟩, 0, TX0, _, rfl, fun G ρ f i k => ⟨_, rfl⟩⟩ dX0_passMinute_11) (XAll.cons (xs_aload_n dX0_passMinute_14 rfl) (XAll.cons (xs_V0 kX0_cookPots ⟨⟨rfl, rfl, by decide, by decide⟩, ⟨by decide, by decide, by decide +kernel⟩, ⟨tw_479, tw_480, tw_481, tw_2, tw_482⟩, 0, TX0, _, rfl, fun G ρ f i k => ⟨_, rfl⟩⟩ dX0_passMinute_15) (XAll.cons (xs_aload_n dX0_passMinute_18 rfl) (XAll.cons (xs_V0 kX0_throwOldMeals ⟨⟨rfl, rfl, by decide, by decide⟩, ⟨by decide, by decide, by decide +kernel⟩, ⟨tw_495, tw_496, tw_497, tw_2, tw_498⟩, 0, TX0, _, rfl, fun G ρ f i k => ⟨_, rfl⟩⟩ dX0_passMinute_19) (XAll.cons (xs_aload_n dX0_passMinute_22 rfl) (XAll.cons (xs_V0 kX0_callUnits ⟨⟨rfl, rfl, by decide, by decide⟩, ⟨by decide, by decide, by decide +kernel⟩, ⟨tw_512, tw_513, tw_514, tw_2, tw_515⟩, 0, TX0, _, rfl, fun G ρ f i k => ⟨_, rfl⟩⟩ dX0_passMinute_23) (XAll.cons (xs_aload_n dX0_passMinute_26 rfl) (XAll.cons (xs_V0 kX0_serveUnits ⟨⟨rfl, rfl, by decide, by decide⟩, ⟨by decide, by decide, by decide +kernel⟩, ⟨tw_520, tw_521, tw_522, tw_2, tw_523⟩, 0, TX0, _, rfl, fun G ρ f i k => ⟨_, rfl⟩⟩ dX0_passMinute_27) (XAll.cons (xs_aload_n dX0_passMinute_30 rfl) (XAll.cons (xs_V0 kX0_punish ⟨⟨rfl, rfl, by decide, by decide⟩, ⟨by decide, by decide, by decide +kernel⟩, ⟨tw_553, tw_554, tw_555, tw_2, tw_556⟩, 0, TX0, _, rfl, fun G ρ f i k => ⟨_, rfl⟩⟩ dX0_passMinute_31) (XAll.cons (xs_vret rfl dX0_passMinute_34) (XAll.nil)))))))))))))))))))
theorem fX0_passMinute_0 (Post : XPo) (cut : List Nat) (WW : XK) (n : Nat) (L : XLs) (st : List XV) (M : XM) : xru (xlk (pX0_passMinute Post)) cut WW (n + 1) 0 L st M = j_ald 0 1 0 L st M (xkk (xlk (pX0_passMinute Post)) cut WW n) := (rfl)
theorem fX0_passMinute_1 (Post : XPo) (cut : List Nat) (WW : XK) (n : Nat) (L : XLs) (st : List XV) (M : XM) : xru (xlk (pX0_passMinute Post)) cut WW (n + 1) 1 L st M = j_dup 1 L st M (xkk (xlk (pX0_passMinute Post)) cut WW n) := (rfl)
theorem fX0_passMinute_2 (Post : XPo) (cut : List Nat) (WW : XK) (n : Nat) (L : XLs) (st : List XV) (M : XM) : xru (xlk (pX0_passMinute Post)) cut WW (n + 1) 2 L st M = j_gI 1 0 2 L st M (xkk (xlk (pX0_passMinute Post)) cut WW n) := (rfl)
theorem fX0_passMinute_5 (Post : XPo) (cut : List Nat) (WW : XK) (n : Nat) (L : XLs) (st : List XV) (M : XM) : xru (xlk (pX0_passMinute Post)) cut WW (n + 1) 5 L st M = j_c 1 1 5 L st M (xkk (xlk (pX0_passMinute Post)) cut WW n) := (rfl)
theorem fX0_passMinute_6 (Post : XPo) (cut : List Nat) (WW : XK) (n : Nat) (L : XLs) (st : List XV) (M : XM) : xru (xlk (pX0_passMinute Post)) cut WW (n + 1) 6 L st M = j_add 6 L st M (xkk (xlk (pX0_passMinute Post)) cut WW n) := (rfl)
theorem fX0_passMinute_7 (Post : XPo) (cut : List Nat) (WW : XK) (n : Nat) (L : XLs) (st : List XV) (M : XM) : xru (xlk (pX0_passMinute Post)) cut WW (n + 1) 7 L st M = j_pI 1 0 7 L st M (xkk (xlk (pX0_passMinute Post)) cut WW n) := (rfl)
theorem fX0_passMinute_10 (Post : XPo) (cut : List Nat) (WW : XK) (n : Nat) (L : XLs) (st : List XV) (M : XM) : xru (xlk (pX0_passMinute Post)) cut WW (n + 1) 10 L st M = j_ald 0 1 10 L st M (xkk (xlk (pX0_passMinute Post)) cut WW n) := (rfl)
theorem fX0_passMinute_11 (Post : XPo) (cut : List Nat) (WW : XK) (n : Nat) (L : XLs) (st : List XV) (M : XM) : xru (xlk (pX0_passMinute Post)) cut WW (n + 1) 11 L st M = j_V0 1 sX0_driveLorries 11 L st M (xkk (xlk (pX0_passMinute Post)) cut WW n) := (rfl)
theorem fX0_passMinute_14 (Post : XPo) (cut : List Nat) (WW : XK) (n : Nat) (L : XLs) (st : List XV) (M : XM) : xru (xlk (pX0_passMinute Post)) cut WW (n + 1) 14 L st M = j_ald 0 1 14 L st M (xkk (xlk (pX0_passMinute Post)) cut WW n) := (rfl)
theorem fX0_passMinute_15 (Post : XPo) (cut : List Nat) (WW : XK) (n : Nat) (L : XLs) (st : List XV) (M : XM) : xru (xlk (pX0_passMinute Post)) cut WW (n + 1) 15 L st M = j_V0 1 sX0_cookPots 15 L st M (xkk (xlk (pX0_passMinute Post)) cut WW n) := (rfl)
theorem fX0_passMinute_18 (Post : XPo) (cut : List Nat) (WW : XK) (n : Nat) (L : XLs) (st : List XV) (M : XM) : xru (xlk (pX0_passMinute Post)) cut WW (n + 1) 18 L st M = j_ald 0 1 18 L st M (xkk (xlk (pX0_passMinute Post)) cut WW n) := (rfl)
theorem fX0_passMinute_19 (Post : XPo) (cut : List Nat) (WW : XK) (n : Nat) (L : XLs) (st : List XV) (M : XM) : xru (xlk (pX0_passMinute Post)) cut WW (n + 1) 19 L st M = j_V0 1 sX0_throwOldMeals 19 L st M (xkk (xlk (pX0_passMinute Post)) cut WW n) := (rfl)
theorem fX0_passMinute_22 (Post : XPo) (cut : List Nat) (WW : XK) (n : Nat) (L : XLs) (st : List XV) (M : XM) : xru (xlk (pX0_passMinute Post)) cut WW (n + 1) 22 L st M = j_ald 0 1 22 L st M (xkk (xlk (pX0_passMinute Post)) cut WW n) := (rfl)
theorem fX0_passMinute_23 (Post : XPo) (cut : List Nat) (WW : XK) (n : Nat) (L : XLs) (st : List XV) (M : XM) : xru (xlk (pX0_passMinute Post)) cut WW (n + 1) 23 L st M = j_V0 1 sX0_callUnits 23 L st M (xkk (xlk (pX0_passMinute Post)) cut WW n) := (rfl)
theorem fX0_passMinute_26 (Post : XPo) (cut : List Nat) (WW : XK) (n : Nat) (L : XLs) (st : List XV) (M : XM) : xru (xlk (pX0_passMinute Post)) cut WW (n + 1) 26 L st M = j_ald 0 1 26 L st M (xkk (xlk (pX0_passMinute Post)) cut WW n) := (rfl)
theorem fX0_passMinute_27 (Post : XPo) (cut : List Nat) (WW : XK) (n : Nat) (L : XLs) (st : List XV) (M : XM) : xru (xlk (pX0_passMinute Post)) cut WW (n + 1) 27 L st M = j_V0 1 sX0_serveUnits 27 L st M (xkk (xlk (pX0_passMinute Post)) cut WW n) := (rfl)
theorem fX0_passMinute_30 (Post : XPo) (cut : List Nat) (WW : XK) (n : Nat) (L : XLs) (st : List XV) (M : XM) : xru (xlk (pX0_passMinute Post)) cut WW (n + 1) 30 L st M = j_ald 0 1 30 L st M (xkk (xlk (pX0_passMinute Post)) cut WW n) := (rfl)
theorem fX0_passMinute_31 (Post : XPo) (cut : List Nat) (WW : XK) (n : Nat) (L : XLs) (st : List XV) (M : XM) : xru (xlk (pX0_passMinute Post)) cut WW (n + 1) 31 L st M = j_V0 1 sX0_punish 31 L st M (xkk (xlk (pX0_passMinute Post)) cut WW n) := (rfl)
theorem fX0_passMinute_34 (Post : XPo) (cut : List Nat) (WW : XK) (n : Nat) (L : XLs) (st : List XV) (M : XM) : xru (xlk (pX0_passMinute Post)) cut WW (n + 1) 34 L st M = j_ret0 Post 34 L st M (xkk (xlk (pX0_passMinute Post)) cut WW n) := (rfl)
def sX0_passMinute : XSp := xq0 1 (fun i k M Q => fI 79996000 1999900 M i ∧ M 1 i 0 0 < 30000 ∧ Q [] (fPass M i))
set_option maxRecDepth 100000 in
theorem kX0_passMinute : XCn yX0_passMinute wX0_passMinute rX0_passMinute sX0_passMinute := XC0 pX0_passMinute rfl rfl aX0_passMinute (by decide) (fun i k M Post hv h WW hC => by
  obtain rfl := xk1 hv
  obtain ⟨hG, hm, h⟩ := h
  have hc := hG.1.2.2.2.2.1
  have g1 := fI_min (v := M 1 i 0 0 + 1) (by omega) (by omega) hG
  have g2 := fI_pDrive g1
  have g3 := fI_pCook g2
  have g4 := fI_pThrow g3
  have g5 := fI_pCall g4
  have g6 := fI_pServe g5
  have q1 : fG (xup M 1 i 0 0 (M 1 i 0 0 + 1)) i := fI_mono g1 (by decide) (by decide)
  have q2 : fI 80000000 1999900 (pDrive (xup M 1 i 0 0 (M 1 i 0 0 + 1)) i) i := fI_mono g2 (by decide) (by decide)
  have q3 : fG (pCook (pDrive (xup M 1 i 0 0 (M 1 i 0 0 + 1)) i) i) i := fI_mono g3 (by decide) (by decide)
  have q4 : fI 79996000 2000000 (pThrow (pCook (pDrive (xup M 1 i 0 0 (M 1 i 0 0 + 1)) i) i) i) i := fI_mono g4 (by decide) (by decide)
  have q5 : fG (pCall (pThrow (pCook (pDrive (xup M 1 i 0 0 (M 1 i 0 0 + 1)) i) i) i) i) i := fI_mono g5 (by decide) (by decide)
  have q6 : fG (pServe (pCall (pThrow (pCook (pDrive (xup M 1 i 0 0 (M 1 i 0 0 + 1)) i) i) i) i) i) i := fI_mono g6 (by decide) (by decide)
  unfold fPass at h
  show WW 0 [some (xR 1 i 0)] [] M
  refine xru_ok hC [] 40 _ _ _ _ ?_
  simp only [xkk_ap, Int.reduceEq, Int.reduceLT, Int.reduceLE, Int.reduceNeg, Int.reduceAdd, Int.reduceSub, Int.reduceMul, and_self, false_and, and_false, not_true_eq_false, not_false_eq_true, true_implies, false_implies, xq0, xq1, xq2, xq3, xq4, xq5, xqR, xq1R, xq3R, xt1, xt2, xt3, List.mem_cons, List.not_mem_nil, or_false, false_or, or_self, if_false, if_true, reduceIte, reduceCtorEq, xent, xen, List.length_cons, List.length_nil, List.replicate, j_c, j_cJ, j_ild, j_ald, j_lld, j_ist, j_ast, j_lst, j_inc, j_add, j_sub, j_mul, j_neg, j_div, j_rem, j_and, j_shr, j_shl1, j_or, j_ladd, j_lsub, j_lmul, j_i2l, j_lcmp, j_i2c, j_dup, j_dup2, j_pop, j_goto, j_ieq, j_ine, j_ilt, j_ige, j_igt, j_ile, j_eq, j_ne, j_lt, j_ge, j_gt, j_le, xsw, j_tsw, j_gI, j_gJ, j_gR, j_pI, j_pJ, j_gs, j_iald, j_iast, j_cald, j_cast, j_aald, j_cpy, j_min, j_max, j_abs, j_iret, j_zret, j_lret, j_dret, j_ret0, j_V0, j_V1, j_V2, j_V3, j_V4, j_V5, j_S1, j_S2, j_S3, xget, xset, xset2, xclr, xc1, xcat, Nat.reduceAdd, Nat.reduceEqDiff, Nat.reduceLT, Nat.reduceLeDiff, Nat.reduceMul, List.cons_append, List.nil_append, true_and, and_true, List.singleton_append, fX0_passMinute_0, fX0_passMinute_1, fX0_passMinute_2, fX0_passMinute_5, fX0_passMinute_6, fX0_passMinute_7, fX0_passMinute_10, fX0_passMinute_11, fX0_passMinute_14, fX0_passMinute_15, fX0_passMinute_18, fX0_passMinute_19, fX0_passMinute_22, fX0_passMinute_23, fX0_passMinute_26, fX0_passMinute_27, fX0_passMinute_30, fX0_passMinute_31, fX0_passMinute_34, sX0_driveLorries, sX0_cookPots, sX0_throwOldMeals, sX0_callUnits, sX0_serveUnits, sX0_punish, hv, q1, q2, q3, q4, q5, q6, xcat, xc1, Nat.zero_le]
  exact h)
theorem xk15 {i k : Int} (h : xval 15 i k) : i = 0 ∧ k = 0 := by have h1 := h.1; have h2 := h.2.1; have h3 := h.2.2.1; have h4 := h.2.2.2; simp only [xvk, xvi] at h2 h4; omega
/-- a film saved, a film brought back -/
def svN (n : Int) : Int := if n + 1 < 6 then n + 1 else 0
def fKeep (M : XM) : XM := xup (xup (rcp pF M (M 15 0 0 1 + 2) 0) 15 0 0 1 (svN (M 15 0 0 1))) 15 0 0 2 (min 6 (M 15 0 0 2 + 1))
/-- UnitKitchens$SavedFilms.keep(LUnitKitchens$Film;)V -/
abbrev wX4_keep : List Cond := Cond.code yX4_keep cX4_keep 2 none :: xT
abbrev rX4_keep : Room := { frames := 4, cells := 0, slots := 0, locals := 104 }
def pX4_keep (Post : XPo) : List (Nat × XStp) := [(0, j_ald 0 1), (1, j_gR 15 (fun i k => (16, 0, 0))), (4, j_ald 0 1), (5, j_gI 15 1), (8, j_aald), (9, j_ald 1 1), (10, j_V1 1 sX0_copyFrom), (13, j_ald 0 1), (14, j_ald 0 1), (15, j_gI 15 1), (18, j_c 1 1), (19, j_add), (20, j_c 6 2), (22, j_ige 34), (25, j_ald 0 1), (26, j_gI 15 1), (29, j_c 1 1), (30, j_add), (31, j_goto 35), (34, j_c 0 1), (35, j_pI 15 1), (38, j_ald 0 1), (39, j_c 6 2), (41, j_ald 0 1), (42, j_gI 15 2), (45, j_c 1 1), (46, j_add), (47, j_min), (50, j_pI 15 2), (53, j_ret0 Post)]
set_option maxRecDepth 100000 in
theorem aX4_keep (Post : XPo) : XAll rX4_keep cX4_keep 2 RX4 wX4_keep none Post (pX4_keep Post) := XAll.cons (xs_aload_n dX4_keep_0 rfl) (XAll.cons (fgX4_0 tw_248 dX4_keep_1) (XAll.cons (xs_aload_n dX4_keep_4 rfl) (XAll.cons (fgX4_1 tw_249 dX4_keep_5) (XAll.cons (xs_aald dX4_keep_8) (XAll.cons (xs_aload_n dX4_keep_9 rfl) (XAll.cons (xs_V1 kX0_copyFrom ⟨⟨rfl, rfl, by decide, by decide⟩, ⟨by decide, by decide, by decide +kernel⟩, ⟨tw_391, tw_392, tw_393, tw_2, tw_394⟩, 0, TX0, _, rfl, fun G ρ f i k => ⟨_, rfl⟩⟩ dX4_keep_10) (XAll.cons (xs_aload_n dX4_keep_13 rfl) (XAll.cons (xs_aload_n dX4_keep_14 rfl) (XAll.cons (fgX4_1 tw_249 dX4_keep_15) (XAll.cons (xs_iconst dX4_keep_18) (XAll.cons (xs_iadd dX4_keep_19) (XAll.cons (xs_bipush dX4_keep_20 rfl) (XAll.cons (xs_icmp_ge dX4_keep_22 (by decide)) (XAll.cons (xs_aload_n dX4_keep_25 rfl) (XAll.cons (fgX4_1 tw_249 dX4_keep_26) (XAll.cons (xs_iconst dX4_keep_29) (XAll.cons (xs_iadd dX4_keep_30) (XAll.cons (xs_goto dX4_keep_31 (by decide)) (XAll.cons (xs_iconst dX4_keep_34) (XAll.cons (fpX4_1 tw_249 dX4_keep_35) (XAll.cons (xs_aload_n dX4_keep_38 rfl) (XAll.cons (xs_bipush dX4_keep_39 rfl) (XAll.cons (xs_aload_n dX4_keep_41 rfl) (XAll.cons (fgX4_2 tw_250 dX4_keep_42) (XAll.cons (xs_iconst dX4_keep_45) (XAll.cons (xs_iadd dX4_keep_46) (XAll.cons (xs_min (by decide) (by decide) (xgood1 tw_417) (xgood1 tw_418) (xgood1 tw_15) (xgood1 tw_419) dX4_keep_47) (XAll.cons (fpX4_2 tw_250 dX4_keep_50) (XAll.cons (xs_vret rfl dX4_keep_53) (XAll.nil))))))))))))))))))))))))))))))
theorem fX4_keep_0 (Post : XPo) (cut : List Nat) (WW : XK) (n : Nat) (L : XLs) (st : List XV) (M : XM) : xru (xlk (pX4_keep Post)) cut WW (n + 1) 0 L st M = j_ald 0 1 0 L st M (xkk (xlk (pX4_keep Post)) cut WW n) := (rfl)
theorem fX4_keep_1 (Post : XPo) (cut : List Nat) (WW : XK) (n : Nat) (L : XLs) (st : List XV) (M : XM) : xru (xlk (pX4_keep Post)) cut WW (n + 1) 1 L st M = j_gR 15 (fun i k => (16, 0, 0)) 1 L st M (xkk (xlk (pX4_keep Post)) cut WW n) := (rfl)
theorem fX4_keep_4 (Post : XPo) (cut : List Nat) (WW : XK) (n : Nat) (L : XLs) (st : List XV) (M : XM) : xru (xlk (pX4_keep Post)) cut WW (n + 1) 4 L st M = j_ald 0 1 4 L st M (xkk (xlk (pX4_keep Post)) cut WW n) := (rfl)
theorem fX4_keep_5 (Post : XPo) (cut : List Nat) (WW : XK) (n : Nat) (L : XLs) (st : List XV) (M : XM) : xru (xlk (pX4_keep Post)) cut WW (n + 1) 5 L st M = j_gI 15 1 5 L st M (xkk (xlk (pX4_keep Post)) cut WW n) := (rfl)
theorem fX4_keep_8 (Post : XPo) (cut : List Nat) (WW : XK) (n : Nat) (L : XLs) (st : List XV) (M : XM) : xru (xlk (pX4_keep Post)) cut WW (n + 1) 8 L st M = j_aald 8 L st M (xkk (xlk (pX4_keep Post)) cut WW n) := (rfl)
theorem fX4_keep_9 (Post : XPo) (cut : List Nat) (WW : XK) (n : Nat) (L : XLs) (st : List XV) (M : XM) : xru (xlk (pX4_keep Post)) cut WW (n + 1) 9 L st M = j_ald 1 1 9 L st M (xkk (xlk (pX4_keep Post)) cut WW n) := (rfl)
theorem fX4_keep_10 (Post : XPo) (cut : List Nat) (WW : XK) (n : Nat) (L : XLs) (st : List XV) (M : XM) : xru (xlk (pX4_keep Post)) cut WW (n + 1) 10 L st M = j_V1 1 sX0_copyFrom 10 L st M (xkk (xlk (pX4_keep Post)) cut WW n) := (rfl)
theorem fX4_keep_13 (Post : XPo) (cut : List Nat) (WW : XK) (n : Nat) (L : XLs) (st : List XV) (M : XM) : xru (xlk (pX4_keep Post)) cut WW (n + 1) 13 L st M = j_ald 0 1 13 L st M (xkk (xlk (pX4_keep Post)) cut WW n) := (rfl)
theorem fX4_keep_14 (Post : XPo) (cut : List Nat) (WW : XK) (n : Nat) (L : XLs) (st : List XV) (M : XM) : xru (xlk (pX4_keep Post)) cut WW (n + 1) 14 L st M = j_ald 0 1 14 L st M (xkk (xlk (pX4_keep Post)) cut WW n) := (rfl)
theorem fX4_keep_15 (Post : XPo) (cut : List Nat) (WW : XK) (n : Nat) (L : XLs) (st : List XV) (M : XM) : xru (xlk (pX4_keep Post)) cut WW (n + 1) 15 L st M = j_gI 15 1 15 L st M (xkk (xlk (pX4_keep Post)) cut WW n) := (rfl)
theorem fX4_keep_18 (Post : XPo) (cut : List Nat) (WW : XK) (n : Nat) (L : XLs) (st : List XV) (M : XM) : xru (xlk (pX4_keep Post)) cut WW (n + 1) 18 L st M = j_c 1 1 18 L st M (xkk (xlk (pX4_keep Post)) cut WW n) := (rfl)
theorem fX4_keep_19 (Post : XPo) (cut : List Nat) (WW : XK) (n : Nat) (L : XLs) (st : List XV) (M : XM) : xru (xlk (pX4_keep Post)) cut WW (n + 1) 19 L st M = j_add 19 L st M (xkk (xlk (pX4_keep Post)) cut WW n) := (rfl)
theorem fX4_keep_20 (Post : XPo) (cut : List Nat) (WW : XK) (n : Nat) (L : XLs) (st : List XV) (M : XM) : xru (xlk (pX4_keep Post)) cut WW (n + 1) 20 L st M = j_c 6 2 20 L st M (xkk (xlk (pX4_keep Post)) cut WW n) := (rfl)
theorem fX4_keep_22 (Post : XPo) (cut : List Nat) (WW : XK) (n : Nat) (L : XLs) (st : List XV) (M : XM) : xru (xlk (pX4_keep Post)) cut WW (n + 1) 22 L st M = j_ige 34 22 L st M (xkk (xlk (pX4_keep Post)) cut WW n) := (rfl)
theorem fX4_keep_25 (Post : XPo) (cut : List Nat) (WW : XK) (n : Nat) (L : XLs) (st : List XV) (M : XM) : xru (xlk (pX4_keep Post)) cut WW (n + 1) 25 L st M = j_ald 0 1 25 L st M (xkk (xlk (pX4_keep Post)) cut WW n) := (rfl)
theorem fX4_keep_26 (Post : XPo) (cut : List Nat) (WW : XK) (n : Nat) (L : XLs) (st : List XV) (M : XM) : xru (xlk (pX4_keep Post)) cut WW (n + 1) 26 L st M = j_gI 15 1 26 L st M (xkk (xlk (pX4_keep Post)) cut WW n) := (rfl)
theorem fX4_keep_29 (Post : XPo) (cut : List Nat) (WW : XK) (n : Nat) (L : XLs) (st : List XV) (M : XM) : xru (xlk (pX4_keep Post)) cut WW (n + 1) 29 L st M = j_c 1 1 29 L st M (xkk (xlk (pX4_keep Post)) cut WW n) := (rfl)
theorem fX4_keep_30 (Post : XPo) (cut : List Nat) (WW : XK) (n : Nat) (L : XLs) (st : List XV) (M : XM) : xru (xlk (pX4_keep Post)) cut WW (n + 1) 30 L st M = j_add 30 L st M (xkk (xlk (pX4_keep Post)) cut WW n) := (rfl)
theorem fX4_keep_31 (Post : XPo) (cut : List Nat) (WW : XK) (n : Nat) (L : XLs) (st : List XV) (M : XM) : xru (xlk (pX4_keep Post)) cut WW (n + 1) 31 L st M = j_goto 35 31 L st M (xkk (xlk (pX4_keep Post)) cut WW n) := (rfl)
theorem fX4_keep_34 (Post : XPo) (cut : List Nat) (WW : XK) (n : Nat) (L : XLs) (st : List XV) (M : XM) : xru (xlk (pX4_keep Post)) cut WW (n + 1) 34 L st M = j_c 0 1 34 L st M (xkk (xlk (pX4_keep Post)) cut WW n) := (rfl)
theorem fX4_keep_35 (Post : XPo) (cut : List Nat) (WW : XK) (n : Nat) (L : XLs) (st : List XV) (M : XM) : xru (xlk (pX4_keep Post)) cut WW (n + 1) 35 L st M = j_pI 15 1 35 L st M (xkk (xlk (pX4_keep Post)) cut WW n) := (rfl)
theorem fX4_keep_38 (Post : XPo) (cut : List Nat) (WW : XK) (n : Nat) (L : XLs) (st : List XV) (M : XM) : xru (xlk (pX4_keep Post)) cut WW (n + 1) 38 L st M = j_ald 0 1 38 L st M (xkk (xlk (pX4_keep Post)) cut WW n) := (rfl)
theorem fX4_keep_39 (Post : XPo) (cut : List Nat) (WW : XK) (n : Nat) (L : XLs) (st : List XV) (M : XM) : xru (xlk (pX4_keep Post)) cut WW (n + 1) 39 L st M = j_c 6 2 39 L st M (xkk (xlk (pX4_keep Post)) cut WW n) := (rfl)
theorem fX4_keep_41 (Post : XPo) (cut : List Nat) (WW : XK) (n : Nat) (L : XLs) (st : List XV) (M : XM) : xru (xlk (pX4_keep Post)) cut WW (n + 1) 41 L st M = j_ald 0 1 41 L st M (xkk (xlk (pX4_keep Post)) cut WW n) := (rfl)
theorem fX4_keep_42 (Post : XPo) (cut : List Nat) (WW : XK) (n : Nat) (L : XLs) (st : List XV) (M : XM) : xru (xlk (pX4_keep Post)) cut WW (n + 1) 42 L st M = j_gI 15 2 42 L st M (xkk (xlk (pX4_keep Post)) cut WW n) := (rfl)
theorem fX4_keep_45 (Post : XPo) (cut : List Nat) (WW : XK) (n : Nat) (L : XLs) (st : List XV) (M : XM) : xru (xlk (pX4_keep Post)) cut WW (n + 1) 45 L st M = j_c 1 1 45 L st M (xkk (xlk (pX4_keep Post)) cut WW n) := (rfl)
theorem fX4_keep_46 (Post : XPo) (cut : List Nat) (WW : XK) (n : Nat) (L : XLs) (st : List XV) (M : XM) : xru (xlk (pX4_keep Post)) cut WW (n + 1) 46 L st M = j_add 46 L st M (xkk (xlk (pX4_keep Post)) cut WW n) := (rfl)
theorem fX4_keep_47 (Post : XPo) (cut : List Nat) (WW : XK) (n : Nat) (L : XLs) (st : List XV) (M : XM) : xru (xlk (pX4_keep Post)) cut WW (n + 1) 47 L st M = j_min 47 L st M (xkk (xlk (pX4_keep Post)) cut WW n) := (rfl)
theorem fX4_keep_50 (Post : XPo) (cut : List Nat) (WW : XK) (n : Nat) (L : XLs) (st : List XV) (M : XM) : xru (xlk (pX4_keep Post)) cut WW (n + 1) 50 L st M = j_pI 15 2 50 L st M (xkk (xlk (pX4_keep Post)) cut WW n) := (rfl)
theorem fX4_keep_53 (Post : XPo) (cut : List Nat) (WW : XK) (n : Nat) (L : XLs) (st : List XV) (M : XM) : xru (xlk (pX4_keep Post)) cut WW (n + 1) 53 L st M = j_ret0 Post 53 L st M (xkk (xlk (pX4_keep Post)) cut WW n) := (rfl)
def sX4_keep : XSp := xqR 15 1 (fun i k i2 k2 M Q => i2 = 0 ∧ (0 ≤ M 15 0 0 1 ∧ M 15 0 0 1 < 6) ∧ (0 ≤ M 15 0 0 2 ∧ M 15 0 0 2 ≤ 6) ∧ Q [] (fKeep M))
theorem rcp_15 {P : Nat → Int → Int → Bool} {M : XM} {i i2 : Int} (hP : ∀ k s : Int, P 15 k s = false) : rcp P M i i2 15 = M 15 := by
  funext i' k s
  simp only [rcp, hP, Bool.false_eq_true, and_false, if_false]
theorem pF_15 (k s : Int) : pF 15 k s = false := by simp [pF]
set_option maxRecDepth 100000 in
theorem kX4_keep : XCn yX4_keep wX4_keep rX4_keep sX4_keep := XCR pX4_keep rfl rfl aX4_keep (by decide) (fun i k i2 k2 M Post hv hv2 h WW hC => by
  obtain ⟨rfl, rfl⟩ := xk15 hv
  obtain rfl := xk1 hv2
  obtain ⟨rfl, h1, h2, h⟩ := h
  have v16 : xval 16 0 0 := hv
  have hvn : xval 1 (M 15 0 0 1 + 2) 0 := ⟨by omega, by simp only [xvi]; omega, by decide, by decide⟩
  have hne : ¬ (0 : Int) = M 15 0 0 1 + 2 := by omega
  have c1 : XInR (M 15 0 0 1 + 1) := ⟨by omega, by omega⟩
  have c2 : XInR (M 15 0 0 2 + 1) := ⟨by omega, by omega⟩
  have e15 := fun P M i i2 (hP : ∀ k s : Int, P 15 k s = false) => rcp_15 (P := P) (M := M) (i := i) (i2 := i2) hP
  unfold fKeep svN at h
  show WW 0 [some (xR 15 0 0), some (xR 1 0 0)] [] M
  refine xru_ok hC [] 40 _ _ _ _ ?_
  simp only [xkk_ap, Int.reduceEq, Int.reduceLT, Int.reduceLE, Int.reduceNeg, Int.reduceAdd, Int.reduceSub, Int.reduceMul, and_self, false_and, and_false, not_true_eq_false, not_false_eq_true, true_implies, false_implies, xq0, xq1, xq2, xq3, xq4, xq5, xqR, xq1R, xq3R, xt1, xt2, xt3, List.mem_cons, List.not_mem_nil, or_false, false_or, or_self, if_false, if_true, reduceIte, reduceCtorEq, xent, xen, List.length_cons, List.length_nil, List.replicate, j_c, j_cJ, j_ild, j_ald, j_lld, j_ist, j_ast, j_lst, j_inc, j_add, j_sub, j_mul, j_neg, j_div, j_rem, j_and, j_shr, j_shl1, j_or, j_ladd, j_lsub, j_lmul, j_i2l, j_lcmp, j_i2c, j_dup, j_dup2, j_pop, j_goto, j_ieq, j_ine, j_ilt, j_ige, j_igt, j_ile, j_eq, j_ne, j_lt, j_ge, j_gt, j_le, xsw, j_tsw, j_gI, j_gJ, j_gR, j_pI, j_pJ, j_gs, j_iald, j_iast, j_cald, j_cast, j_aald, j_cpy, j_min, j_max, j_abs, j_iret, j_zret, j_lret, j_dret, j_ret0, j_V0, j_V1, j_V2, j_V3, j_V4, j_V5, j_S1, j_S2, j_S3, xget, xset, xset2, xclr, xc1, xcat, Nat.reduceAdd, Nat.reduceEqDiff, Nat.reduceLT, Nat.reduceLeDiff, Nat.reduceMul, List.cons_append, List.nil_append, true_and, and_true, List.singleton_append, fX4_keep_0, fX4_keep_1, fX4_keep_4, fX4_keep_5, fX4_keep_8, fX4_keep_9, fX4_keep_10, fX4_keep_13, fX4_keep_14, fX4_keep_15, fX4_keep_18, fX4_keep_19, fX4_keep_20, fX4_keep_22, fX4_keep_25, fX4_keep_26, fX4_keep_29, fX4_keep_30, fX4_keep_31, fX4_keep_34, fX4_keep_35, fX4_keep_38, fX4_keep_39, fX4_keep_41, fX4_keep_42, fX4_keep_45, fX4_keep_46, fX4_keep_47, fX4_keep_50, fX4_keep_53, sX0_copyFrom, hv, hv2, v16, hvn, hne, h1, rcp_15 pF_15, c1, c2, xr_c (n := 6) rfl, xup_app, xcat, xc1, Nat.zero_le]
  refine ⟨fun g => ?_, fun g => ?_⟩
  · rw [if_neg (by omega)] at h
    exact h
  · rw [if_pos (by omega)] at h
    exact h)
def svP (n : Int) : Int := if 0 < n then n - 1 else 5
def fRest (M : XM) : XM := rcp pF (xup (xup M 15 0 0 1 (svP (M 15 0 0 1))) 15 0 0 2 (M 15 0 0 2 - 1)) 0 (svP (M 15 0 0 1) + 2)
end XPs

