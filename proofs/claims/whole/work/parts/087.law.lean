section XLa
/-! the law: what both leave is in relation again -/
theorem pF_lo {t : Nat} {k s : Int} (h : pF t k s = true) : 1 ≤ t ∧ t < 15 := by
  rcases Nat.lt_or_ge t 1 with q | q
  · have e : t = 0 := by omega
    subst e
    rw [pF_0] at h
    exact absurd h (by decide)
  · refine ⟨q, ?_⟩
    rcases Nat.lt_or_ge t 15 with r | r
    · exact r
    · exfalso
      unfold pF at h
      simp only [Bool.or_eq_true, Bool.and_eq_true, beq_iff_eq, decide_eq_true_eq] at h
      omega
theorem RR_tx {M N : XM} (h : RR M) (hf : ∀ (t : Nat) (i : Int), t < 15 → ¬ t = 0 → ¬ i = 1 → N t i = M t i) (h15 : N 15 = M 15) (h1 : N 20 0 0 1 = M 20 0 0 1) (hJ : ∀ n : Int, zJ n → XInR (N 21 0 0 n)) (hz : ∀ q : Int, 0 ≤ q → q < 1561 → N 21 0 0 q = M 21 0 0 q) (h22 : N 22 = M 22) (hl : 0 ≤ N 0 0 0 5 ∧ N 0 0 0 5 ≤ 60) (hb : ∀ j : Int, 0 ≤ j → j < 60 → 0 ≤ N 17 0 0 j ∧ N 17 0 0 j < 65536) (hx : TX N) : RR N := by
  obtain ⟨hK, hg, ⟨hst, hr⟩, -⟩ := h
  have e : ∀ i : Int, ¬ i = 1 → FEq N i M i := fun i hi t k s p => by
    have q := pF_lo p
    rw [hf t i (by omega) (by omega) hi]
  have h0 := KI_fC hK (Or.inl rfl) (by decide)
  refine ⟨⟨fun i a b => fH_FEq (e i (by omega)) (hK.1 i a b), by rw [h15]; exact hK.2.1, by rw [h15]; exact hK.2.2.1, hl, hb⟩, ?_, ⟨?_, fun t a b => ?_⟩, hx⟩
  · exact GZ_z (GZ_F hg (e 0 (by decide)) h0) hz hJ (fC_FEq (e 0 (by decide)) h0)
  · rw [h1, h15]
    exact hst
  · rw [h15] at b ⊢
    have ri := rix_in (next := M 15 0 0 1) (t := t) hK.2.1 (by have := hK.2.2.1; omega)
    have hz2 : zseg N (M 15 0 0 2 - 1 - t) = zseg M (M 15 0 0 2 - 1 - t) := by
      unfold zseg
      rw [h22]
    rw [hz2]
    exact GZ_F (hr t a b) (e _ (by omega)) (KI_fC hK (Or.inr ri.1) ri.2)
theorem RR_ir {M N : XM} (h : RR M) (hf : ∀ (t : Nat) (i : Int), t < 15 → ¬ t = 0 → ¬ i = 1 → N t i = M t i) (h0 : N 0 = M 0) (h15 : N 15 = M 15) (h17 : N 17 = M 17) (h1 : N 20 0 0 1 = M 20 0 0 1) (h3 : N 20 0 0 3 = M 20 0 0 3) (hJ : ∀ n : Int, zJ n → XInR (N 21 0 0 n)) (hz : ∀ q : Int, 0 ≤ q → q < 1561 → N 21 0 0 q = M 21 0 0 q) (h22 : N 22 = M 22) (h23 : N 23 = M 23) : RR N := by
  refine RR_tx h hf h15 h1 hJ hz h22 (by rw [h0]; exact h.1.2.2.2.1) (fun j a b => by rw [h17]; exact h.1.2.2.2.2 j a b) ⟨by rw [h3, h0]; exact h.2.2.2.1, fun j a b => ?_⟩
  rw [h23, h17]
  exact h.2.2.2.2 j a b
/-- only what no relation speaks of is another -/
theorem RR_same {M N : XM} (h : RR M) (e : ∀ t : Nat, t < 18 → N t = M t) (h1 : N 20 0 0 1 = M 20 0 0 1) (h3 : N 20 0 0 3 = M 20 0 0 3) (h21 : N 21 = M 21) (h22 : N 22 = M 22) (h23 : N 23 = M 23) : RR N :=
  RR_ir h (fun t i a _ _ => by rw [e t (by omega)]) (e 0 (by decide)) (e 15 (by decide)) (e 17 (by decide)) h1 h3 (by rw [h21]; exact h.2.1.1) (fun q _ _ => by rw [h21]) h22 h23
theorem RR_26 {M : XM} (h : RR M) (v : Int) : RR (xup M 26 0 0 0 v) :=
  RR_same h (fun t a => xup_tag (by omega)) (by rw [xup_tag (by decide)]) (by rw [xup_tag (by decide)]) (xup_tag (by decide)) (xup_tag (by decide)) (xup_tag (by decide))
theorem RB_s2 {M N : XM} (h : RR M) (h20 : N 20 = M 20) (h21 : N 21 = M 21) : RB M 0 N := by
  have q := RB_self h
  unfold RB at q ⊢
  rw [h20, h21]
  exact q
theorem RB_k2 {M N : XM} (h : RR M) (h20 : N 20 = M 20) (h21 : N 21 = M 21) : RB (fKeep M) 0 N := by
  have q := RB_keep h (M1 := M) (fun _ _ => rfl)
  unfold RB at q ⊢
  rw [h20, h21]
  exact q
/-- the row of answers as it was -/
def r26 (M1 M2 : XM) : XM := fun t => if t = 26 then M1 26 else M2 t
theorem r26_ne (M1 M2 : XM) {t : Nat} (h : ¬ t = 26) : r26 M1 M2 t = M2 t := by
  unfold r26
  rw [if_neg h]
theorem RR_r26 {M1 M2 : XM} (h : RR (r26 M1 M2)) : RR M2 :=
  RR_same h (fun t a => (r26_ne M1 M2 (by omega)).symm) (by rw [r26_ne M1 M2 (by decide)]) (by rw [r26_ne M1 M2 (by decide)]) (r26_ne M1 M2 (by decide)).symm (r26_ne M1 M2 (by decide)).symm (r26_ne M1 M2 (by decide)).symm
theorem op_26 {F' M1 M2 : XM} {v : Int} (h : opS F' 0 (xup M1 26 0 0 0 v) M2) : opS F' 0 M1 (r26 M1 M2) := by
  obtain ⟨a, b, c, d, e⟩ := h
  have n20 : r26 M1 M2 20 = M2 20 := r26_ne M1 M2 (by decide)
  have n21 : r26 M1 M2 21 = M2 21 := r26_ne M1 M2 (by decide)
  have n22 : r26 M1 M2 22 = M2 22 := r26_ne M1 M2 (by decide)
  have x20 : xup M1 26 0 0 0 v 20 = M1 20 := xup_tag (by decide)
  have x21 : xup M1 26 0 0 0 v 21 = M1 21 := xup_tag (by decide)
  have x22 : xup M1 26 0 0 0 v 22 = M1 22 := xup_tag (by decide)
  refine ⟨fun t p q r => ?_, fun s p q r w => ?_, ?_, ?_, ?_⟩
  · by_cases e26 : t = 26
    · unfold r26
      rw [if_pos e26, e26]
    · rw [r26_ne M1 M2 e26, a t p q r, xup_tag e26]
  · rw [n20, b s p q r w, x20]
  · rw [n20]
    exact c
  · unfold svh at d ⊢
    rw [n20, n22]
    rw [x20, x21, x22] at d
    exact d
  · rw [n21]
    exact e
theorem und_26 {M1 M2 : XM} {v : Int} (h : und (xup M1 26 0 0 0 v) M2) : und M1 (r26 M1 M2) := by
  obtain ⟨a, b, c, d, e, f⟩ := h
  have n20 : r26 M1 M2 20 = M2 20 := r26_ne M1 M2 (by decide)
  have n21 : r26 M1 M2 21 = M2 21 := r26_ne M1 M2 (by decide)
  have x20 : xup M1 26 0 0 0 v 20 = M1 20 := xup_tag (by decide)
  have x21 : xup M1 26 0 0 0 v 21 = M1 21 := xup_tag (by decide)
  have x22 : xup M1 26 0 0 0 v 22 = M1 22 := xup_tag (by decide)
  rw [x20] at d e
  rw [x22] at e
  rw [x21] at f
  refine ⟨fun t p q => ?_, fun s p q => ?_, by rw [n20]; exact c, by rw [n20]; exact d, by rw [n21]; exact e, by rw [n21]; exact f⟩
  · by_cases e26 : t = 26
    · unfold r26
      rw [if_pos e26, e26]
    · rw [r26_ne M1 M2 e26, a t p q, xup_tag e26]
  · rw [n20, b s p q, x20]
theorem op_v {F' M1 M2 : XM} {v : Int} (h : opS F' 0 (xup M1 26 0 0 0 v) M2) : M2 20 0 0 5 = 0 ∧ M2 26 0 0 0 = v := by
  refine ⟨h.2.2.1, ?_⟩
  rw [h.1 26 (by decide) (by decide) (by decide), xup_app, if_pos ⟨rfl, rfl, rfl, rfl⟩]
theorem und_v {M1 M2 : XM} {v : Int} (h : und (xup M1 26 0 0 0 v) M2) : M2 20 0 0 5 = 0 ∧ M2 26 0 0 0 = v := by
  refine ⟨h.2.2.1, ?_⟩
  rw [h.1 26 (by decide) (by decide), xup_app, if_pos ⟨rfl, rfl, rfl, rfl⟩]
theorem RR_iv {M : XM} (h : RR M) : ivOK M := fun u a b c => by
  have c10 := (KI_fC h.1 (Or.inl rfl) (by decide)).2.2.2.1
  have g := (h.2.1.2.2.2.2.2.2.2.1 u a (by omega)).1 b
  have q := (g.2.2.2.2.2.2.1 c).2.1
  omega
theorem fKeep_hi (M : XM) {t : Nat} (h : 16 ≤ t) : fKeep M t = M t := keep_t (fun k s => by
  rcases e : pF t k s with _ | _
  · rfl
  · have := pF_lo e
    omega) (by omega)
/-! the codes, what the wrapped call gives to the reference's -/
/-- the number of an exception in the list of those that are caught -/
def cdL : List Int → Int → Int
  | [], _ => 0
  | c :: t, n => if n = c then 1 else 1 + cdL t n
def LQ (cd : List Int) (Q : XPo) : XPo := fun rv N => match rv with
  | [.inl v] => Q [xI 0] (xup N 26 0 0 0 (w32 v))
  | [.inl c, .inl _] => c ∈ cd ∧ Q [xI (cdL cd c)] N
  | _ => False
/-- the same answer, and in relation -/
def LE (k : Int) : XPo := fun rv N => ∃ b : Int, rv = [xI b] ∧ RR N ∧ N 20 0 0 5 = k ∧ (k = 0 → N 26 0 0 0 = w32 b)
def LK (ref : XM → XPo → Prop) (Z : Int → XPo) : XPo := fun rv N => ∃ k : Int, rv = [xI k] ∧ (0 ≤ k ∧ k ≤ 3) ∧ ref N (Z k)
theorem LE_no {M : XM} (h : RR M) (k : Int) (hk : ¬ k = 0) : LE k [xI 0] (xup M 20 0 0 5 k) := ⟨0, rfl, RR_5 h k, u5a M k, fun e => absurd e hk⟩
theorem LE_op {F' M1 M2 : XM} {v : Int} (hs : opS F' 0 (xup M1 26 0 0 0 (w32 v)) M2) (h : RR M2) : LE 0 [xI v] M2 := ⟨v, rfl, h, (op_v hs).1, fun _ => (op_v hs).2⟩
theorem LE_rd {M : XM} {v : Int} (h : RR M) : LE 0 [xI v] (xup (xup M 26 0 0 0 (w32 v)) 20 0 0 5 0) := ⟨v, rfl, RR_5 (RR_26 h _) 0, u5a _ 0, fun _ => by rw [xup_app, if_neg (fun q => absurd q.1 (by decide)), xup_app, if_pos ⟨rfl, rfl, rfl, rfl⟩]⟩
theorem kEn_keep {M : XM} (h : 0 ≤ M 15 0 0 1) (k d : Int) : kEn M 0 k d = kEn (fKeep M) 0 k d := by
  unfold kEn
  rw [fKeep_0 h 9 (by decide)]
theorem mAll_keep {M : XM} (h : 0 ≤ M 15 0 0 1) (j : Int) : mAll M 0 j = mAll (fKeep M) 0 j := by
  unfold mAll
  rw [fKeep_0 h 12 (by decide)]
theorem dMin_1 {F : XM} {l p : Int} {z : Int → Int} (h : GZ 60 F 0 z) (hl : 0 ≤ l ∧ l < F 1 0 0 8) (h8 : F 1 0 0 8 ≤ 4) (hp : 0 ≤ p ∧ p < F 1 0 0 3) (hn : ¬ F 13 0 l 0 = -1) (hq : ¬ F 13 0 l 0 = p) : 1 ≤ dMin F 0 (F 13 0 l 0) p := by
  have g := (h.2.2.2.2.2.2.1 l hl.1 (by omega)).2.2.2.1 hl.2
  have ha : 0 ≤ F 13 0 l 0 ∧ F 13 0 l 0 < F 1 0 0 3 := by
    rcases g.1 with q | q
    · exact absurd q.1 hn
    · rw [← q.2]
      exact g.2
  unfold dMin fIsP
  rw [if_pos ha, if_pos hp]
  rw [if_neg (by omega)]
  omega
theorem look_RR {M N O : XM} {F : XM} {f v : Int} (h : RR M) (e : f1O M N) (hs : lookS F f (xup N 26 0 0 0 v) O) : RR O ∧ O 20 0 0 5 = 0 ∧ O 26 0 0 0 = v := by
  obtain ⟨a, b, c, d, g⟩ := hs
  have lo : ∀ t : Nat, ¬ t = 20 → ¬ t = 21 → ¬ t = 25 → ¬ t = 26 → O t = N t := fun t p q r w => (a t p q r).trans (xup_tag w)
  have x20 : xup N 26 0 0 0 v 20 = N 20 := xup_tag (by decide)
  have x21 : xup N 26 0 0 0 v 21 = N 21 := xup_tag (by decide)
  have n : ∀ t : Nat, t = 0 ∨ 15 ≤ t → N t = M t := e.2
  rw [x20] at b
  rw [x21] at d
  refine ⟨RR_ir h (fun t i p q r => by rw [lo t (by omega) (by omega) (by omega) (by omega), e.1 t i r]) ?_ ?_ ?_ ?_ ?_ g.1 (fun q p r => by rw [d q p r, n 21 (by omega)]) ?_ ?_, c, ?_⟩
  · rw [lo 0 (by decide) (by decide) (by decide) (by decide), n 0 (by omega)]
  · rw [lo 15 (by decide) (by decide) (by decide) (by decide), n 15 (by omega)]
  · rw [lo 17 (by decide) (by decide) (by decide) (by decide), n 17 (by omega)]
  · rw [b 1 (by decide) (by decide) (by decide), n 20 (by omega)]
  · rw [b 3 (by decide) (by decide) (by decide), n 20 (by omega)]
  · rw [lo 22 (by decide) (by decide) (by decide) (by decide), n 22 (by omega)]
  · rw [lo 23 (by decide) (by decide) (by decide) (by decide), n 23 (by omega)]
  · rw [a 26 (by decide) (by decide) (by decide), xup_app, if_pos ⟨rfl, rfl, rfl, rfl⟩]
theorem RB_look {M N : XM} (h : RR M) (h20 : N 20 = M 20) (h21 : N 21 = M 21) : RB (rcp pF M 1 0) 1 N := by
  obtain ⟨hz, hI, hst⟩ := RB_self h
  unfold RB
  rw [h20, h21]
  refine ⟨GZ_copy hz hI.1.1, ⟨fI_FEq (FEq_rcp M 1 0) hI.1, ?_⟩, hst⟩
  rw [FEq_rcp M 1 0 1 0 0 (by decide)]
  exact hI.2
end XLa

