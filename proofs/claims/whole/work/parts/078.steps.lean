section XRq
/-! the relation, an operation of both at a time: the reference's ghost is the class's memory after it has kept its film -/
theorem keep_t {M : XM} {t : Nat} (h : ∀ k s : Int, pF t k s = false) (ht : ¬ t = 15) : fKeep M t = M t := by
  funext i k s
  unfold fKeep
  rw [xup_app, if_neg (fun q => ht q.1), xup_app, if_neg (fun q => ht q.1)]
  unfold rcp
  rw [if_neg (fun q => absurd q.2 (by rw [h]; decide))]
theorem RB_self {M : XM} (h : RR M) : RB M 0 M := by
  obtain ⟨hK, hz, ⟨hst, -⟩, -⟩ := h
  have hk := hK.2.2.1
  have h0 := hK.1 0 (Or.inl rfl) (by decide)
  exact ⟨hz, ⟨KI_0 hK, h0.2⟩, by omega⟩
theorem RB_keep {M M1 : XM} (h : RR M) (h20 : ∀ t : Nat, 20 ≤ t → M1 t = M t) : RB (fKeep M) 0 M1 := by
  obtain ⟨hz, ⟨hI, hm⟩, hst⟩ := RB_self h
  have hn := h.1.2.1.1
  have e : FEq (fKeep M) 0 M 0 := fun t k s p => by rw [fKeep_0 hn t (pF_no15 p)]
  refine ⟨by rw [h20 21 (by decide)]; exact GZ_F hz e hI.1, ⟨fKeep_I hn hI, ?_⟩, by rw [h20 20 (by decide)]; exact hst⟩
  rw [fKeep_at hn 1 0 0 (by decide)]
  exact hm
theorem RR_5 {M : XM} (h : RR M) (v : Int) : RR (xup M 20 0 0 5 v) := by
  obtain ⟨hK, hz, ⟨hst, hr⟩, htx, htj⟩ := h
  have low : ∀ t : Nat, ¬ t = 20 → xup M 20 0 0 5 v t = M t := fun t a => xup_tag a
  have e : ∀ i : Int, FEq (xup M 20 0 0 5 v) i M i := fun i t k s p => by
    rw [low t (fun q => by subst q; rw [pF_hi (by decide)] at p; exact absurd p (by decide))]
  refine ⟨⟨fun i a b => fH_FEq (e i) (hK.1 i a b), ?_⟩, ?_, ⟨?_, fun t a b => ?_⟩, ?_, fun j a b => ?_⟩
  · rw [low 15 (by decide), low 0 (by decide), low 17 (by decide)]
    exact hK.2
  · rw [low 21 (by decide)]
    exact GZ_F hz (e 0) (KI_fC hK (Or.inl rfl) (by decide))
  · rw [u51, low 15 (by decide)]
    exact hst
  · rw [low 15 (by decide)] at b ⊢
    have ri := rix_in (next := M 15 0 0 1) (t := t) hK.2.1 (by have := hK.2.2.1; omega)
    have hz2 : zseg (xup M 20 0 0 5 v) (M 15 0 0 2 - 1 - t) = zseg M (M 15 0 0 2 - 1 - t) := by
      unfold zseg
      rw [low 22 (by decide)]
    rw [hz2]
    exact GZ_F (hr t a b) (e _) (KI_fC hK (Or.inr ri.1) ri.2)
  · rw [xup_app, if_neg (fun q => absurd q.2.2.2 (by decide)), low 0 (by decide)]
    exact htx
  · rw [low 23 (by decide), low 17 (by decide)]
    exact htj j a b
theorem RR_op1 {M M1 M2 : XM} (h : RR M) (ho : ∀ (t : Nat) (i : Int), ¬ i = 0 → M1 t i = fKeep M t i) (hb : ∀ t : Nat, t = 0 ∨ t = 15 ∨ t = 17 ∨ 20 ≤ t → M1 t = fKeep M t) (hI : fH M1 0) (hs : opS M1 0 M1 M2) : RR M2 :=
  RR_op h ho (hb 15 (by omega)) ((hb 0 (by omega)).trans (keep_t pF_0 (by decide))) ((hb 17 (by omega)).trans (keep_t pF_17 (by decide))) (fun t a => (hb t (by omega)).trans (keep_t (pF_hi a) (by omega))) (fun _ _ _ _ => rfl) hI hI.1.1 hs
theorem RR_op2 {M M1 M2 : XM} (h : RR M) (ho : ∀ (t : Nat) (i : Int), ¬ i = 0 → M1 t i = fKeep M t i) (hb : ∀ t : Nat, t = 0 ∨ t = 15 ∨ t = 17 ∨ 20 ≤ t → M1 t = fKeep M t) (hm : M1 1 0 0 0 = fKeep M 1 0 0 0) (hI : ∀ c b : Int, fI c b (fKeep M) 0 → fI c b M1 0) (hs : opS M1 0 M1 M2) : RR M2 := by
  have hn := h.1.2.1.1
  have a := h.1.1 0 (Or.inl rfl) (by decide)
  have e0 := fKeep_at hn 1 0 0 (by decide)
  refine RR_op1 h ho hb ?_ hs
  unfold fH
  rw [hm, e0]
  exact ⟨hI _ _ (fKeep_I hn a.1), a.2⟩
/-- the memory that the class leaves to the reference -/
theorem hi_of {M M1 : XM} (hb : ∀ t : Nat, t = 0 ∨ t = 15 ∨ t = 17 ∨ 20 ≤ t → M1 t = fKeep M t) : ∀ t : Nat, 20 ≤ t → M1 t = M t := fun t a => (hb t (by omega)).trans (keep_t (pF_hi a) (by omega))
theorem RR_newP {M M2 : XM} {x y : Int} (h : RR M) (c : fKeep M 1 0 0 3 < 8) (hx : 0 ≤ x ∧ x ≤ 99) (hy : 0 ≤ y ∧ y ≤ 99) (hs : opS (fNewP (fKeep M) 0 x y) 0 (fNewP (fKeep M) 0 x y) M2) : RR M2 :=
  RR_op2 h (fun t i hi => by funext k s; unfold fNewP; simp only [xup_app, hi, false_and, and_false, if_false]) (fun t ht => by unfold fNewP; simp only [xup_tag (show ¬ t = 1 by omega), xup_tag (show ¬ t = 3 by omega), xup_tag (show ¬ t = 4 by omega)]) (by unfold fNewP; simp only [xup_app, Nat.reduceEqDiff, Int.reduceEq, false_and, and_false, if_false]) (fun _ _ q => fI_newP q c hx hy) hs
theorem RR_newK {M M2 : XM} {p : Int} (h : RR M) (c : fKeep M 1 0 0 6 < 3) (hp : 0 ≤ p ∧ p < 8) (hs : opS (fNewK (fKeep M) 0 p) 0 (fNewK (fKeep M) 0 p) M2) : RR M2 :=
  RR_op2 h (fun t i hi => by funext k s; unfold fNewK; simp only [xup_app, hi, false_and, and_false, if_false]) (fun t ht => by unfold fNewK; simp only [xup_tag (show ¬ t = 1 by omega), xup_tag (show ¬ t = 8 by omega)]) (by unfold fNewK; simp only [xup_app, Nat.reduceEqDiff, Int.reduceEq, false_and, and_false, if_false]) (fun _ _ q => fI_newK q c hp) hs
theorem RR_newL {M M2 : XM} {p : Int} (h : RR M) (c : fKeep M 1 0 0 8 < 4) (hp : 0 ≤ p ∧ p < 8) (hs : opS (fNewL (fKeep M) 0 p) 0 (fNewL (fKeep M) 0 p) M2) : RR M2 :=
  RR_op2 h (fun t i hi => by funext k s; unfold fNewL; simp only [xup_app, hi, false_and, and_false, if_false]) (fun t ht => by unfold fNewL; simp only [xup_tag (show ¬ t = 1 by omega), xup_tag (show ¬ t = 13 by omega)]) (by unfold fNewL; simp only [xup_app, Nat.reduceEqDiff, Int.reduceEq, false_and, and_false, if_false]) (fun _ _ q => fI_newL q c hp) hs
theorem RR_set {M M2 : XM} {q v : Int} (h : RR M) (hq : 0 ≤ q ∧ q < 6) (hv : sLeast q ≤ v ∧ v ≤ sMost q) (hs : opS (xup (fKeep M) 2 0 0 q v) 0 (xup (fKeep M) 2 0 0 q v) M2) : RR M2 :=
  RR_op2 h (fun t i hi => by funext k s; simp only [xup_app, hi, false_and, and_false, if_false]) (fun t ht => xup_tag (show ¬ t = 2 by omega)) (by rw [xup_tag (by decide)]) (fun _ _ p => fI_set p hq hv) hs
theorem RR_stock {M M2 : XM} {k w v : Int} (h : RR M) (hv : 0 ≤ v ∧ v ≤ 999) (hs : opS (xup (fKeep M) 9 0 k w v) 0 (xup (fKeep M) 9 0 k w v) M2) : RR M2 :=
  RR_op2 h (fun t i hi => by funext k s; simp only [xup_app, hi, false_and, and_false, if_false]) (fun t ht => xup_tag (show ¬ t = 9 by omega)) (by rw [xup_tag (by decide)]) (fun _ _ p => fI_stock p hv) hs
theorem RR_fill {M M2 : XM} {k d n : Int} (h : RR M) (hk : 0 ≤ k ∧ k < 3) (hd : 0 ≤ d ∧ d ≤ 2) (hn : 1 ≤ n ∧ n ≤ 300) (he : n ≤ kEn (fKeep M) 0 k d) (hs : opS (kFill (fKeep M) 0 k d n) 0 (kFill (fKeep M) 0 k d n) M2) : RR M2 :=
  RR_op2 h (fun t i hi => by funext k s; unfold kFill; simp only [xup_app, hi, false_and, and_false, if_false]) (fun t ht => by unfold kFill; simp only [xup_tag (show ¬ t = 8 by omega), xup_tag (show ¬ t = 9 by omega)]) (by unfold kFill; simp only [xup_app, Nat.reduceEqDiff, false_and, if_false]) (fun _ _ p => fI_fill p hk hd hn he) hs
theorem RR_car {M M2 : XM} {j j2 d w : Int} (h : RR M) (h0 : 0 ≤ j ∧ j < 7) (h2 : 0 ≤ j2 ∧ j2 < 7) (hj : ¬ j2 = j) (hd : 0 ≤ d ∧ d ≤ 2) (hw : 0 ≤ w) (hs : opS (car (fKeep M) 0 j j2 d w) 0 (car (fKeep M) 0 j j2 d w) M2) : RR M2 :=
  RR_op2 h (fun t i hi => by funext k s; unfold car; simp only [mset_app, hi, false_and, and_false, if_false]) (fun t ht => car_tag (by omega) (by omega)) (by rw [car_tag (by decide) (by decide)]) (fun _ _ p => fI_car hj h0.1 h0.2 h2.1 h2.2 hd hw p) hs
theorem RR_unload {M M2 : XM} {j j2 w : Int} (h : RR M) (h0 : 0 ≤ j ∧ j < 7) (h2 : 0 ≤ j2 ∧ j2 < 7) (hj : ¬ j2 = j) (hw : 0 ≤ w) (hs : opS (car (car (car (fKeep M) 0 j j2 0 w) 0 j j2 1 w) 0 j j2 2 w) 0 (car (car (car (fKeep M) 0 j j2 0 w) 0 j j2 1 w) 0 j j2 2 w) M2) : RR M2 := by
  have hi1 : ∀ (N : XM) (d : Int) (t : Nat) (i : Int), ¬ i = 0 → car N 0 j j2 d w t i = N t i := fun N d t i hi => by
    funext k s
    unfold car
    simp only [mset_app, hi, false_and, and_false, if_false]
  refine RR_op2 h (fun t i hi => by rw [hi1 _ _ t i hi, hi1 _ _ t i hi, hi1 _ _ t i hi]) (fun t ht => by rw [car_tag (by omega) (by omega), car_tag (by omega) (by omega), car_tag (by omega) (by omega)]) (by rw [car_tag (by decide) (by decide), car_tag (by decide) (by decide), car_tag (by decide) (by decide)]) (fun _ _ p => fI_car hj h0.1 h0.2 h2.1 h2.2 (by decide) hw (fI_car hj h0.1 h0.2 h2.1 h2.2 (by decide) hw (fI_car hj h0.1 h0.2 h2.1 h2.2 (by decide) hw p))) hs
theorem RR_drive {M M2 : XM} {l p m : Int} (h : RR M) (hp : 0 ≤ p ∧ p < 8) (hm : 1 ≤ m ∧ m ≤ 10000) (hs : opS (xup (xup (xup (fKeep M) 13 0 l 2 m) 13 0 l 0 (-1)) 13 0 l 1 p) 0 (xup (xup (xup (fKeep M) 13 0 l 2 m) 13 0 l 0 (-1)) 13 0 l 1 p) M2) : RR M2 :=
  RR_op2 h (fun t i hi => by funext k s; simp only [xup_app, hi, false_and, and_false, if_false]) (fun t ht => by simp only [xup_tag (show ¬ t = 13 by omega)]) (by simp only [xup_app, Nat.reduceEqDiff, false_and, if_false]) (fun _ _ q => fI_driveOp q hp hm) hs
theorem RR_newU {M M2 : XM} {p n g cl v : Int} (h : RR M) (hlt : fKeep M 1 0 0 10 < 12) (hp : 0 ≤ p ∧ p < 8) (hn : n ≤ 300) (hg : 0 ≤ g ∧ g ≤ n) (hcl : 0 ≤ cl ∧ cl ≤ 50000) (hv : 0 ≤ v ∧ v ≤ 600) (hs : opS (fNewU (fKeep M) 0 p n g cl v) 0 (fNewU (fKeep M) 0 p n g cl v) M2) : RR M2 :=
  RR_op2 h (fun t i hi => by funext k s; unfold fNewU; simp only [xup_app, hi, false_and, and_false, if_false]) (fun t ht => by unfold fNewU; simp only [xup_tag (show ¬ t = 1 by omega), xup_tag (show ¬ t = 14 by omega)]) (by unfold fNewU; simp only [xup_app, Nat.reduceEqDiff, Int.reduceEq, false_and, and_false, if_false]) (fun _ _ q => fI_newU q hlt hp hn hg hcl hv) hs
theorem RR_move {M M2 : XM} {u p : Int} (h : RR M) (hu : 0 ≤ u ∧ u < 12) (hp : 0 ≤ p ∧ p < 8) (hs : opS (xup (fKeep M) 14 0 u 1 p) 0 (xup (fKeep M) 14 0 u 1 p) M2) : RR M2 :=
  RR_op2 h (fun t i hi => by funext k s; simp only [xup_app, hi, false_and, and_false, if_false]) (fun t ht => xup_tag (show ¬ t = 14 by omega)) (by rw [xup_tag (by decide)]) (fun _ _ q => fI_move q hu.1 hu.2 hp) hs
theorem RR_wrap {M M2 : XM} {u : Int} (h : RR M) (hu : 0 ≤ u ∧ u < 12) (h11 : fKeep M 14 0 u 11 = 0) (hs : opS (uLeave (xup (fKeep M) 14 0 u 11 (fKeep M 14 0 u 6 + fKeep M 14 0 u 7)) 0 u 1) 0 (uLeave (xup (fKeep M) 14 0 u 11 (fKeep M 14 0 u 6 + fKeep M 14 0 u 7)) 0 u 1) M2) : RR M2 :=
  RR_op2 h (fun t i hi => by funext k s; unfold uLeave; simp only [xup_app, hi, false_and, and_false, if_false]) (fun t ht => by unfold uLeave; simp only [xup_tag (show ¬ t = 14 by omega)]) (by unfold uLeave; simp only [xup_app, Nat.reduceEqDiff, false_and, if_false]) (fun _ _ q => fI_wrap q hu.1 hu.2 (by decide) h11) hs
theorem RR_join {M M2 : XM} {u w : Int} (h : RR M) (hu : 0 ≤ u ∧ u < 12) (hw : 0 ≤ w ∧ w < 12) (hne : ¬ u = w) (h3 : fKeep M 14 0 u 2 + fKeep M 14 0 w 2 ≤ 300) (hs : opS (uLeave (uTake (fKeep M) 0 w 0 u) 0 u 2) 0 (uLeave (uTake (fKeep M) 0 w 0 u) 0 u 2) M2) : RR M2 :=
  RR_op2 h (fun t i hi => by funext k s; unfold uLeave uTake; simp only [xup_app, hi, false_and, and_false, if_false]) (fun t ht => by unfold uLeave uTake; simp only [xup_tag (show ¬ t = 14 by omega)]) (by unfold uLeave uTake; simp only [xup_app, Nat.reduceEqDiff, false_and, if_false]) (fun _ _ q => fI_join q hu hw hne h3) hs
theorem RR_pass {M M2 : XM} {n : Int} (h : RR M) (hn : 0 ≤ n) (hm : M 1 0 0 0 + n ≤ 20000) (hs : opS (itP 0 n.toNat (fKeep M)) 0 (itP 0 n.toNat (fKeep M)) M2) : RR M2 := by
  have hk := h.1.2.1.1
  have a := h.1.1 0 (Or.inl rfl) (by decide)
  have e0 := fKeep_at hk 1 0 0 (by decide)
  have lo := itP_lo 0 n.toNat (fKeep M)
  have q := fI_itP n.toNat _ _ (fKeep M) (fKeep_I hk a.1) (by rw [e0]; omega)
  refine RR_op1 h (fun t i hi => lo.1 t i hi) (fun t ht => lo.2 t (by omega) (by omega) (by omega) (by omega) (by omega) (by omega)) ?_ hs
  unfold fH
  rw [q.2, e0]
  exact ⟨fI_mono q.1 (by omega) (by omega), by omega⟩
theorem RR_split {M M2 : XM} {u n g : Int} (h : RR M) (hu : 0 ≤ u ∧ u < 12) (hlt : fKeep M 1 0 0 10 < 12) (hn : n ≤ 299) (hg : 0 ≤ g ∧ g ≤ n) (h2 : n < fKeep M 14 0 u 2) (h3 : g ≤ fKeep M 14 0 u 3) (h4 : n - g ≤ fKeep M 14 0 u 2 - fKeep M 14 0 u 3)
    (hs : opS (fNewU (xup (xup (fKeep M) 14 0 u 2 (fKeep M 14 0 u 2 - n)) 14 0 u 3 (fKeep M 14 0 u 3 - g)) 0 (fKeep M 14 0 u 1) n g (fKeep M 14 0 u 4) (fKeep M 14 0 u 5)) 0 (fNewU (xup (xup (fKeep M) 14 0 u 2 (fKeep M 14 0 u 2 - n)) 14 0 u 3 (fKeep M 14 0 u 3 - g)) 0 (fKeep M 14 0 u 1) n g (fKeep M 14 0 u 4) (fKeep M 14 0 u 5)) M2) : RR M2 :=
  RR_op2 h (fun t i hi => by funext k s; unfold fNewU; simp only [xup_app, hi, false_and, and_false, if_false]) (fun t ht => by unfold fNewU; simp only [xup_tag (show ¬ t = 1 by omega), xup_tag (show ¬ t = 14 by omega)]) (by unfold fNewU; simp only [xup_app, Nat.reduceEqDiff, Int.reduceEq, false_and, and_false, if_false]) (fun _ _ q => by
    have a := q.2.2.2.2.1 u hu.1 hu.2
    exact fI_newU (fI_less q hu.1 hu.2 (by omega)) (by simp only [xup_tag (show ¬ 1 = 14 by decide)]; exact hlt) (by omega) (by omega) hg (by omega) (by omega)) hs
end XRq

