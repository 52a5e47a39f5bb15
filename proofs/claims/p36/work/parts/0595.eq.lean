section XEq
/-! what the class does depends on its own part of a memory -/
theorem EQ_xup {G H : XM} (h : EQ G H) (t : Nat) (i k s v : Int) : EQ (xup G t i k s v) (xup H t i k s v) := fun t' ht => by
  funext i' k' s'
  simp only [xup]
  rw [h t' ht]
theorem EQ_mset {G H : XM} (h : EQ G H) (i j : Int) (S : Int → Int) : EQ (mset G i j S) (mset H i j S) := fun t' ht => by
  funext i' k' s'
  simp only [mset]
  rw [h t' ht]
theorem EQ_rcp {G H : XM} (h : EQ G H) (P : Nat → Int → Int → Bool) (i i2 : Int) : EQ (rcp P G i i2) (rcp P H i i2) := fun t' ht => by
  funext i' k' s'
  simp only [rcp]
  rw [h t' ht]
theorem EQ_keep {G H : XM} (h : EQ G H) : EQ (fKeep G) (fKeep H) := by
  unfold fKeep
  rw [h 15 (by decide)]
  exact EQ_xup (EQ_xup (EQ_rcp h _ _ _) _ _ _ _ _) _ _ _ _ _
theorem EQ_xit {f : Int → XM → XM} (hf : ∀ (u : Int) (G H : XM), EQ G H → EQ (f u G) (f u H)) : ∀ (n : Nat) (u : Int) (G H : XM), EQ G H → EQ (xit f n u G) (xit f n u H)
  | 0, _, _, _, h => h
  | n + 1, u, G, H, h => EQ_xit hf n (u + 1) (f u G) (f u H) (hf u G H h)
theorem EQ_lDrive {G H : XM} (h : EQ G H) (l : Int) : EQ (lDrive G 0 l) (lDrive H 0 l) := by
  unfold lDrive
  rw [h 13 (by decide)]
  split
  · exact h
  · split
    · exact EQ_xup (EQ_xup (EQ_xup (EQ_xup h _ _ _ _ _) _ _ _ _ _) _ _ _ _ _) _ _ _ _ _
    · exact EQ_xup h _ _ _ _ _
theorem EQ_kCook {G H : XM} (h : EQ G H) (k m p : Int) : EQ (kCook G 0 k m p) (kCook H 0 k m p) := by
  unfold kCook mPut
  rw [h 8 (by decide), h 11 (by decide)]
  split
  · split
    · exact EQ_xup (EQ_xup (EQ_xup (EQ_mset h _ _ _) _ _ _ _ _) _ _ _ _ _) _ _ _ _ _
    · exact EQ_xup (EQ_xup (EQ_mset h _ _ _) _ _ _ _ _) _ _ _ _ _
  · exact h
theorem EQ_thK {G H : XM} (h : EQ G H) (k : Int) : EQ (thK 0 k G) (thK 0 k H) := by
  unfold thK thS
  rw [h 8 (by decide), h 11 (by decide), h 1 (by decide), h 2 (by decide)]
  exact EQ_xup (EQ_mset h _ _ _) _ _ _ _ _
theorem EQ_thLo {G H : XM} (h : EQ G H) (k : Int) : EQ (thLo 0 k G) (thLo 0 k H) := by
  unfold thLo thS
  rw [h 13 (by decide), h 11 (by decide), h 1 (by decide), h 2 (by decide)]
  exact EQ_xup (EQ_mset h _ _ _) _ _ _ _ _
theorem EQ_cal {G H : XM} (h : EQ G H) (u : Int) : EQ (cal 0 u G) (cal 0 u H) := by
  unfold cal uCall
  have h14 : ∀ (v : Int), xup G 1 0 0 1 v 14 = xup H 1 0 0 1 v 14 := fun v => EQ_xup h 1 0 0 1 v 14 (by decide)
  rw [h 14 (by decide), h 1 (by decide), h14]
  split
  · exact EQ_xup (EQ_xup (EQ_xup (EQ_xup (EQ_xup h _ _ _ _ _) _ _ _ _ _) _ _ _ _ _) _ _ _ _ _) _ _ _ _ _
  · exact h
theorem EQ_tmL {p meat : Int} : ∀ (n : Nat) (l : Int) (G H : XM) (w : Int), EQ G H → EQ (tmL 0 p meat n l G w).1 (tmL 0 p meat n l H w).1 ∧ (tmL 0 p meat n l G w).2 = (tmL 0 p meat n l H w).2
  | 0, _, _, _, _, h => ⟨h, rfl⟩
  | n + 1, l, G, H, w, h => by
    have e : tmR G 0 (l + 3) meat w = tmR H 0 (l + 3) meat w := by
      unfold tmR
      rw [h 1 (by decide), h 11 (by decide)]
    simp only [tmL]
    rw [e, h 13 (by decide)]
    split
    · exact EQ_tmL n (l + 1) _ _ _ (EQ_xup (EQ_mset h _ _ _) _ _ _ _ _)
    · exact EQ_tmL n (l + 1) G H w h
theorem EQ_tmK {p meat : Int} : ∀ (n : Nat) (l : Int) (G H : XM) (w : Int), EQ G H → EQ (tmK 0 p meat n l G w).1 (tmK 0 p meat n l H w).1 ∧ (tmK 0 p meat n l G w).2 = (tmK 0 p meat n l H w).2
  | 0, _, _, _, _, h => ⟨h, rfl⟩
  | n + 1, l, G, H, w, h => by
    have e : tmR G 0 l meat w = tmR H 0 l meat w := by
      unfold tmR
      rw [h 1 (by decide), h 11 (by decide)]
    simp only [tmK]
    rw [e, h 8 (by decide)]
    split
    · exact EQ_tmK n (l + 1) _ _ _ (EQ_mset h _ _ _)
    · exact EQ_tmK n (l + 1) G H w h
theorem EQ_tM {G H : XM} (h : EQ G H) (p meat w : Int) : EQ (tM G 0 p meat w).1 (tM H 0 p meat w).1 ∧ (tM G 0 p meat w).2 = (tM H 0 p meat w).2 := by
  unfold tM
  rw [h 1 (by decide)]
  have a := EQ_tmL (p := p) (meat := meat) (H 1 0 0 8).toNat 0 G H w h
  have b := EQ_tmK (p := p) (meat := meat) (H 1 0 0 6).toNat 0 _ _ (tmL 0 p meat (H 1 0 0 8).toNat 0 H w).2 a.1
  rw [a.2]
  exact b
theorem EQ_uServe {G H : XM} (h : EQ G H) (s u many : Int) : EQ (uServe s G 0 u many) (uServe s H 0 u many) := by
  unfold uServe uNote
  have e : ∀ v : Int, xup G 14 0 u s v 14 = xup H 14 0 u s v 14 := fun v => EQ_xup h 14 0 u s v 14 (by decide)
  rw [h 14 (by decide), e]
  split
  · exact EQ_xup (EQ_xup (EQ_xup h _ _ _ _ _) _ _ _ _ _) _ _ _ _ _
  · exact EQ_xup (EQ_xup h _ _ _ _ _) _ _ _ _ _
theorem EQ_sv {G H : XM} (h : EQ G H) (s meat u : Int) : EQ (sv s meat 0 u G) (sv s meat 0 u H) := by
  unfold sv
  rw [h 14 (by decide)]
  have a := EQ_tM h (H 14 0 u 1) meat (H 14 0 u s)
  rw [a.2]
  exact EQ_uServe a.1 _ _ _
theorem EQ_srv {G H : XM} (h : EQ G H) (u : Int) : EQ (srv 0 u G) (srv 0 u H) := by
  unfold srv
  rw [h 14 (by decide)]
  split
  · exact EQ_sv (EQ_sv (EQ_sv h _ _ _) _ _ _) _ _ _
  · exact h
theorem EQ_pun {G H : XM} (h : EQ G H) (u : Int) : EQ (pun 0 u G) (pun 0 u H) := by
  unfold pun
  rw [h 14 (by decide), h 1 (by decide), h 2 (by decide)]
  split
  · exact EQ_xup h _ _ _ _ _
  · exact h
theorem EQ_pass {G H : XM} (h : EQ G H) : EQ (fPass G 0) (fPass H 0) := by
  have h1 : EQ (xup G 1 0 0 0 (G 1 0 0 0 + 1)) (xup H 1 0 0 0 (H 1 0 0 0 + 1)) := by
    rw [h 1 (by decide)]
    exact EQ_xup h _ _ _ _ _
  have f1 : ∀ A B : XM, EQ A B → EQ (pDrive A 0) (pDrive B 0) := fun A B e => by
    unfold pDrive
    rw [e 1 (by decide)]
    exact EQ_xit (fun u X Y z => EQ_lDrive z u) _ _ _ _ e
  have f2 : ∀ A B : XM, EQ A B → EQ (pCook A 0) (pCook B 0) := fun A B e => by
    unfold pCook
    rw [e 1 (by decide)]
    refine EQ_xit (fun u X Y z => ?_) _ _ _ _ e
    rw [z 1 (by decide), z 2 (by decide)]
    exact EQ_kCook z _ _ _
  have f3 : ∀ A B : XM, EQ A B → EQ (pThrow A 0) (pThrow B 0) := fun A B e => by
    unfold pThrow
    rw [e 1 (by decide)]
    exact EQ_xit (fun u X Y z => EQ_thLo z u) _ _ _ _ (EQ_xit (fun u X Y z => EQ_thK z u) _ _ _ _ e)
  have f4 : ∀ A B : XM, EQ A B → EQ (pCall A 0) (pCall B 0) := fun A B e => by
    unfold pCall
    rw [e 1 (by decide)]
    exact EQ_xit (fun u X Y z => EQ_cal z u) _ _ _ _ e
  have f5 : ∀ A B : XM, EQ A B → EQ (pServe A 0) (pServe B 0) := fun A B e => by
    unfold pServe
    rw [e 1 (by decide)]
    exact EQ_xit (fun u X Y z => EQ_srv z u) _ _ _ _ e
  have f6 : ∀ A B : XM, EQ A B → EQ (pPunish A 0) (pPunish B 0) := fun A B e => by
    unfold pPunish
    rw [e 1 (by decide)]
    exact EQ_xit (fun u X Y z => EQ_pun z u) _ _ _ _ e
  unfold fPass
  exact f6 _ _ (f5 _ _ (f4 _ _ (f3 _ _ (f2 _ _ (f1 _ _ h1)))))
theorem EQ_itP : ∀ (n : Nat) (G H : XM), EQ G H → EQ (itP 0 n G) (itP 0 n H)
  | 0, _, _, h => h
  | n + 1, G, H, h => EQ_itP n _ _ (EQ_pass h)
theorem itP_next : ∀ (n : Nat) (G : XM), itP 0 (n + 1) G = fPass (itP 0 n G) 0
  | 0, _ => rfl
  | n + 1, G => itP_next n (fPass G 0)
/-- the law's rows are left alone -/
theorem pF_hi' {t : Nat} (h : 20 ≤ t) (k s : Int) : pF t k s = false := by
  have e : ∀ c : Nat, c < 20 → (t == c) = false := fun c hc => by simp; omega
  unfold pF
  simp only [e 1 (by decide), e 2 (by decide), e 3 (by decide), e 4 (by decide), e 8 (by decide), e 9 (by decide), e 11 (by decide), e 12 (by decide), e 13 (by decide), e 14 (by decide), Bool.false_and, Bool.or_false, Bool.and_false]
theorem fKeep_hi {M : XM} {t : Nat} (h : 20 ≤ t) : fKeep M t = M t := by
  unfold fKeep
  rw [xup_tag (by omega), xup_tag (by omega)]
  funext i k s
  unfold rcp
  rw [pF_hi' h]
  simp
theorem fPass_hi {M : XM} {t : Nat} (h : 20 ≤ t) : fPass M 0 t = M t := by
  have f := xLo_pass M 0
  exact f.2 t (by omega) (by omega) (by omega) (by omega) (by omega) (by omega)
theorem itP_hi {t : Nat} (h : 20 ≤ t) : ∀ (n : Nat) (M : XM), itP 0 n M t = M t
  | 0, _ => rfl
  | n + 1, M => (itP_hi h n (fPass M 0)).trans (fPass_hi h)
/-- what holds of the object and the law's rows between two acts -/
def Full (a : Int) (M : XM) : Prop := KI M ∧ Rel a (60 * a) M M
theorem rC_f {G H M : XM} (h : ∀ (t : Nat) (k s : Int), t < 20 → ¬ t = 15 → H t 0 k s = G t 0 k s) (h15 : H 15 0 0 2 = G 15 0 0 2) (q : rC G M) : rC H M := by
  unfold rC at q ⊢
  rw [h 1 0 3 (by decide) (by decide), h 1 0 6 (by decide) (by decide), h 1 0 8 (by decide) (by decide), h 1 0 10 (by decide) (by decide), h 1 0 0 (by decide) (by decide), h 2 0 0 (by decide) (by decide), h 2 0 1 (by decide) (by decide), h 2 0 2 (by decide) (by decide), h 2 0 3 (by decide) (by decide), h 2 0 4 (by decide) (by decide), h 2 0 5 (by decide) (by decide), h15]
  exact q
theorem RY_f {a w : Int} {d : Int → Int} {G H M : XM} {F : Int → Int} {T : Int} (h : ∀ (t : Nat) (k s : Int), t < 20 → ¬ t = 15 → H t 0 k s = G t 0 k s) (h15 : H 15 0 0 2 = G 15 0 0 2) (hR : RY a d w G M F T) : RY a d w H M F T := by
  obtain ⟨q1, q2, q3, q4, q5, q6, q7, q8, q9⟩ := hR
  refine ⟨rC_f h h15 q1, fun p b c => ?_, fun k b c => rK1_c (fun s _ => h 8 k s (by decide) (by decide)) (fun x => h 9 k x (by decide) (by decide)) rfl rfl (fun _ _ _ => rfl) rfl rfl (q3 k b c), fun l b c => rL1_c (fun s _ => h 13 l s (by decide) (by decide)) rfl rfl rfl (q4 l b c), rU_c (fun u s _ _ _ _ => h 14 u s (by decide) (by decide)) rfl rfl rfl rfl q5, rT_c (fun k s _ => h 8 k s (by decide) (by decide)) (fun l => h 13 l 5 (by decide) (by decide)) (fun u s _ _ _ => h 14 u s (by decide) (by decide)) (h 1 0 1 (by decide) (by decide)) (fun _ _ _ => rfl) q6, q7, rS_c (fun j x => h 11 j x (by decide) (by decide)) q8, rB_c rfl rfl rfl (fun u _ _ => h 14 u 2 (by decide) (by decide)) q9⟩
  rw [h 3 0 p (by decide) (by decide), h 4 0 p (by decide) (by decide)]
  exact q2 p b c
theorem RY_a {a a' w : Int} {d : Int → Int} {G M : XM} {F : Int → Int} {T : Int} (h : RY a d w G M F T) (h1 : a ≤ a') (h2 : a' ≤ 45) : RY a' d w G M F T := by
  obtain ⟨q1, q2, q3, q4, q5, q6, q7, q8, q9⟩ := h
  obtain ⟨l1, l2, l3, l4, l5, l6⟩ := q9
  exact ⟨q1, q2, q3, q4, q5, q6, q7, q8, by omega, by omega, by omega, l4, l5, l6⟩
/-- fKeep leaves the film that is played as it was -/
theorem RY_keep {a w : Int} {d : Int → Int} {G M : XM} {F : Int → Int} {T : Int} (h : RY a d w G M F T) (h15 : 0 ≤ G 15 0 0 1) : RY a d w (fKeep G) M F T := by
  have c8 := h.1.2.2.2.2.2.2.2.2
  refine RY_f (fun t k s _ z => fKeep_at h15 t k s z) ?_ h
  unfold fKeep
  rw [xup_app, if_pos ⟨rfl, rfl, rfl, rfl⟩, c8]
  decide
theorem KI_op {M N : XM} (h : KI M) (h15 : N 15 = fKeep M 15) (h0 : N 1 0 0 0 = fKeep M 1 0 0 0) (hI : ∀ c b : Int, fI c b (fKeep M) 0 → fI c b N 0) : KI N := by
  obtain ⟨⟨k1, k2⟩, k3, k4⟩ := h
  have e1 : N 1 0 0 0 = M 1 0 0 0 := by rw [h0, fKeep_at k3.1 1 0 0 (by decide)]
  have k1' := hI _ _ (fKeep_I k3.1 k1)
  have n1 : fKeep M 15 0 0 1 = svN (M 15 0 0 1) := by
    unfold fKeep
    rw [xup_app, if_neg (by decide), xup_app, if_pos ⟨rfl, rfl, rfl, rfl⟩]
  have n2 : fKeep M 15 0 0 2 = min 6 (M 15 0 0 2 + 1) := by
    unfold fKeep
    rw [xup_app, if_pos ⟨rfl, rfl, rfl, rfl⟩]
  refine ⟨⟨by rw [e1]; exact k1', by rw [e1]; exact k2⟩, ?_, ?_⟩
  · rw [h15, n1]
    unfold svN
    split <;> omega
  · rw [h15, n2]
    omega
end XEq

