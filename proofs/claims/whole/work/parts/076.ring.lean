section XRo
/-! the states that are kept: a ring of films, a row of segments -/
/-- the film that holds the t-th newest state -/
def rix (next t : Int) : Int := (if t < next then next - 1 - t else next + 5 - t) + 2
def zseg (M : XM) (k : Int) : Int → Int := fun j => if 0 ≤ j ∧ j < 1561 then M 22 0 0 (1561 * k + j) else 0
def HR (M : XM) : Prop := M 20 0 0 1 = M 15 0 0 2 ∧ ∀ t : Int, 0 ≤ t → t < M 15 0 0 2 → GZ 60 M (rix (M 15 0 0 1) t) (zseg M (M 15 0 0 2 - 1 - t))
def TX (M : XM) : Prop := M 20 0 0 3 = M 0 0 0 5 ∧ ∀ j : Int, 0 ≤ j → j < 60 → M 23 0 0 j = M 17 0 0 j
def RR (M : XM) : Prop := KI M ∧ GZ 60 M 0 (M 21 0 0) ∧ HR M ∧ TX M
theorem pF_no15 {t : Nat} {k s : Int} (h : pF t k s = true) : ¬ t = 15 := fun e => by
  subst e
  rw [pF_15] at h
  exact absurd h (by decide)
theorem keep_1 (M : XM) : fKeep M 15 0 0 1 = svN (M 15 0 0 1) := by
  unfold fKeep
  rw [xup_app, if_neg (fun q => absurd q.2.2.2 (by decide)), xup_app, if_pos ⟨rfl, rfl, rfl, rfl⟩]
theorem keep_2 (M : XM) : fKeep M 15 0 0 2 = min 6 (M 15 0 0 2 + 1) := by
  unfold fKeep
  rw [xup_app, if_pos ⟨rfl, rfl, rfl, rfl⟩]
theorem keep_i {M : XM} {t : Nat} {i : Int} (ht : ¬ t = 15) (hi : ¬ i = M 15 0 0 1 + 2) : fKeep M t i = M t i := by
  funext k s
  unfold fKeep
  rw [xup_app, if_neg (fun q => ht q.1), xup_app, if_neg (fun q => ht q.1)]
  unfold rcp
  rw [if_neg (fun q => hi q.1)]
theorem keep_c (M : XM) : FEq (fKeep M) (M 15 0 0 1 + 2) M 0 := fun t k s h => by
  have ht := pF_no15 h
  unfold fKeep
  rw [xup_app, if_neg (fun q => ht q.1), xup_app, if_neg (fun q => ht q.1)]
  exact FEq_rcp M _ 0 t k s h
theorem fH_FEq {M M' : XM} {i i' : Int} (e : FEq M' i' M i) (h : fH M i) : fH M' i' := by
  have e0 := e 1 0 0 (by decide)
  unfold fH
  rw [e0]
  exact ⟨fI_FEq e h.1, h.2⟩
theorem fC_FEq {M M' : XM} {i i' : Int} (e : FEq M' i' M i) (h : fC M i) : fC M' i' := by
  unfold fC at h ⊢
  rw [e 1 0 3 (by decide), e 1 0 6 (by decide), e 1 0 8 (by decide), e 1 0 10 (by decide), e 1 0 0 (by decide), e 2 0 0 (by decide), e 2 0 1 (by decide), e 2 0 2 (by decide), e 2 0 3 (by decide), e 2 0 4 (by decide), e 2 0 5 (by decide)]
  refine ⟨h.1, h.2.1, h.2.2.1, h.2.2.2.1, h.2.2.2.2.1, h.2.2.2.2.2.1, h.2.2.2.2.2.2.1, h.2.2.2.2.2.2.2.1, h.2.2.2.2.2.2.2.2.1, h.2.2.2.2.2.2.2.2.2.1, h.2.2.2.2.2.2.2.2.2.2.1, fun p a b => ?_⟩
  rw [e 3 0 p (pF_t3 a b), e 4 0 p (pF_t4 a b)]
  exact h.2.2.2.2.2.2.2.2.2.2.2 p a b
theorem KI_fC {M : XM} (h : KI M) {i : Int} (hi : i = 0 ∨ 2 ≤ i) (h8 : i < 8) : fC M i := (h.1 i hi h8).1.1
theorem rix_in {next t : Int} (h0 : 0 ≤ next ∧ next < 6) (ht : 0 ≤ t ∧ t < 6) : 2 ≤ rix next t ∧ rix next t < 8 := by
  unfold rix
  split <;> omega
theorem GZ_seg {F : XM} {f k : Int} {M : XM} {z : Int → Int} (h : GZ 60 F f z) (hC : fC F f) (hz : ∀ j : Int, 0 ≤ j → j < 1561 → M 22 0 0 (1561 * k + j) = z j) : GZ 60 F f (zseg M k) := by
  refine GZ_z h (fun n a b => ?_) (fun n hn => ?_) hC
  · unfold zseg
    rw [if_pos ⟨a, b⟩]
    exact hz n a b
  · unfold zseg
    by_cases e : 0 ≤ n ∧ n < 1561
    · rw [if_pos e, hz n e.1 e.2]
      exact h.1 n hn
    · rw [if_neg e]
      exact ⟨by omega, by omega⟩
/-- an operation of both: the class keeps its film and changes it, the reference its row -/
theorem RR_op {M M1 M2 F' : XM} (h : RR M) (ho : ∀ (t : Nat) (i : Int), ¬ i = 0 → M1 t i = fKeep M t i) (h15 : M1 15 = fKeep M 15) (h0 : M1 0 = M 0) (h17 : M1 17 = M 17) (h20 : ∀ t : Nat, 20 ≤ t → M1 t = M t) (hF : FEq M1 0 F' 0) (hI : fH M1 0) (hC : fC F' 0) (hs : opS F' 0 M1 M2) : RR M2 := by
  obtain ⟨hK, hz, ⟨hst, hr⟩, htx, htj⟩ := h
  obtain ⟨s1, s2, -, ⟨v1, v2, v3⟩, sz⟩ := hs
  have hK0 := hK
  obtain ⟨kf, kn, km, kl, kb⟩ := hK
  have low : ∀ t : Nat, t < 20 → M2 t = M1 t := fun t q => s1 t (by omega) (by omega) (by omega)
  have e15 : M2 15 = fKeep M 15 := by rw [low 15 (by decide), h15]
  have n1 : M2 15 0 0 1 = svN (M 15 0 0 1) := by rw [e15, keep_1]
  have n2 : M2 15 0 0 2 = min 6 (M 15 0 0 2 + 1) := by rw [e15, keep_2]
  have q20 : M1 20 = M 20 := h20 20 (by decide)
  have q21 : M1 21 = M 21 := h20 21 (by decide)
  have q22 : M1 22 = M 22 := h20 22 (by decide)
  have q23 : M1 23 = M 23 := h20 23 (by decide)
  rw [q20] at v1 v3
  rw [q21] at v2
  rw [q22] at v3
  rw [hst] at v1 v3
  have hm2 : M2 20 0 0 1 = M2 15 0 0 2 := by
    rw [v1, n2]
    split <;> omega
  -- films of M2
  have f0 : FEq M2 0 F' 0 := fun t k s p => by
    by_cases ht : t < 20
    · rw [low t ht]
      exact hF t k s p
    · exfalso
      unfold pF at p
      rcases t with _ | t <;> simp_all <;> omega
  have fi : ∀ i : Int, ¬ i = 0 → ¬ i = M 15 0 0 1 + 2 → FEq M2 i M i := fun i a b t k s p => by
    have ht15 := pF_no15 p
    by_cases ht : t < 20
    · rw [low t ht, ho t i a, keep_i ht15 b]
    · exfalso
      unfold pF at p
      rcases t with _ | t <;> simp_all <;> omega
  have fn : FEq M2 (M 15 0 0 1 + 2) M 0 := fun t k s p => by
    by_cases ht : t < 20
    · rw [low t ht, ho t _ (by omega)]
      exact keep_c M t k s p
    · exfalso
      unfold pF at p
      rcases t with _ | t <;> simp_all <;> omega
  have f00 : FEq M2 0 M1 0 := fun t k s p => by
    by_cases ht : t < 20
    · rw [low t ht]
    · exfalso
      unfold pF at p
      rcases t with _ | t <;> simp_all <;> omega
  refine ⟨⟨fun i hi h8 => ?_, by rw [n1]; unfold svN; split <;> omega, by rw [n2]; omega, by rw [low 0 (by decide), h0]; exact kl, fun j a b => by rw [low 17 (by decide), h17]; exact kb j a b⟩, GZ_F sz f0 hC, ⟨hm2, fun t a b => ?_⟩, ?_, fun j a b => ?_⟩
  · by_cases e0 : i = 0
    · subst e0
      exact fH_FEq f00 hI
    · by_cases en : i = M 15 0 0 1 + 2
      · rw [en]
        exact fH_FEq fn (kf 0 (Or.inl rfl) (by decide))
      · exact fH_FEq (fi i e0 en) (kf i hi h8)
  · rw [n1]
    rw [n2] at b ⊢
    by_cases t0 : t = 0
    · subst t0
      have er : rix (svN (M 15 0 0 1)) 0 = M 15 0 0 1 + 2 := by
        unfold rix svN
        split <;> split <;> omega
      rw [er]
      refine GZ_seg (z := M 21 0 0) (GZ_F hz fn (KI_fC hK0 (Or.inl rfl) (by decide))) (fC_FEq fn (KI_fC hK0 (Or.inl rfl) (by decide))) (fun j c d => ?_)
      have q := v2 j c d
      rw [hm2, n2] at q
      rw [Int.sub_zero]
      exact q
    · have t6 : t - 1 < M 15 0 0 2 := by omega
      have er : rix (svN (M 15 0 0 1)) t = rix (M 15 0 0 1) (t - 1) := by
        unfold rix svN
        split <;> split <;> split <;> omega
      have ri := rix_in (next := M 15 0 0 1) (t := t - 1) kn (by omega)
      have rn : ¬ rix (M 15 0 0 1) (t - 1) = M 15 0 0 1 + 2 := by
        unfold rix
        split <;> omega
      have g := hr (t - 1) (by omega) t6
      have hCi := KI_fC hK0 (Or.inr ri.1) ri.2
      have e := fi (rix (M 15 0 0 1) (t - 1)) (by omega) rn
      rw [er]
      refine GZ_seg (z := zseg M (M 15 0 0 2 - 1 - (t - 1))) (GZ_F g e hCi) (fC_FEq e hCi) (fun j c d => ?_)
      have q := v3 (min 6 (M 15 0 0 2 + 1) - 1 - t) j (by omega) (by rw [hm2, n2]; omega) c d
      rw [q]
      unfold zseg
      by_cases e6 : M 15 0 0 2 = 6
      · rw [if_pos e6, if_pos ⟨c, d⟩]
        exact congrArg (M 22 0 0) (by omega)
      · rw [if_neg e6, if_pos ⟨c, d⟩]
        exact congrArg (M 22 0 0) (by omega)
  · rw [s2 3 (by decide) (by decide) (by decide) (by decide), low 0 (by decide), q20, h0]
    exact htx
  · rw [s1 23 (by decide) (by decide) (by decide), low 17 (by decide), q23, h17]
    exact htj j a b
theorem rstt_1 (M : XM) : fRest M 15 0 0 1 = svP (M 15 0 0 1) ∧ fRest M 15 0 0 2 = M 15 0 0 2 - 1 := by
  unfold fRest
  rw [rcp_15 pF_15]
  constructor
  · rw [xup_app, if_neg (fun q => absurd q.2.2.2 (by decide)), xup_app, if_pos ⟨rfl, rfl, rfl, rfl⟩]
  · rw [xup_app, if_pos ⟨rfl, rfl, rfl, rfl⟩]
theorem rest_i {M : XM} {t : Nat} {i : Int} (ht : ¬ t = 15) (hi : ¬ i = 0) : fRest M t i = M t i := by
  funext k s
  unfold fRest rcp
  rw [if_neg (fun q => hi q.1), xup_app, if_neg (fun q => ht q.1), xup_app, if_neg (fun q => ht q.1)]
theorem rest_c (M : XM) : FEq (fRest M) 0 M (svP (M 15 0 0 1) + 2) := fun t k s h => by
  have ht := pF_no15 h
  unfold fRest
  rw [FEq_rcp _ 0 _ t k s h, xup_app, if_neg (fun q => ht q.1), xup_app, if_neg (fun q => ht q.1)]
theorem rest_t {M : XM} {t : Nat} (h : ∀ k s : Int, pF t k s = false) (ht : ¬ t = 15) : fRest M t = M t := by
  funext i k s
  unfold fRest rcp
  rw [if_neg (fun q => absurd q.2 (by rw [h]; decide)), xup_app, if_neg (fun q => ht q.1), xup_app, if_neg (fun q => ht q.1)]
theorem pF_hi {t : Nat} (h : 20 ≤ t) (k s : Int) : pF t k s = false := by
  rcases e : pF t k s with _ | _
  · rfl
  · exfalso
    unfold pF at e
    rcases t with _ | t <;> simp_all <;> omega
theorem RR_undo {M M2 : XM} (h : RR M) (hm : 0 < M 15 0 0 2) (hs : und (fRest M) M2) : RR M2 := by
  obtain ⟨hK, hz, ⟨hst, hr⟩, htx, htj⟩ := h
  obtain ⟨s1, s2, -, v1, v2, v3⟩ := hs
  have hK0 := hK
  obtain ⟨kf, kn, km, kl, kb⟩ := hK
  have hi : ∀ t : Nat, 20 ≤ t → fRest M t = M t := fun t q => rest_t (fun k s => pF_hi q k s) (by omega)
  have low : ∀ t : Nat, t < 20 → M2 t = fRest M t := fun t q => s1 t (by omega) (by omega)
  rw [hi 20 (by decide)] at v1 v2
  rw [hi 21 (by decide)] at v3
  rw [hi 22 (by decide)] at v2
  rw [hst] at v1 v2
  have n1 : M2 15 0 0 1 = svP (M 15 0 0 1) := by rw [low 15 (by decide)]; exact (rstt_1 M).1
  have n2 : M2 15 0 0 2 = M 15 0 0 2 - 1 := by rw [low 15 (by decide)]; exact (rstt_1 M).2
  have f0 : FEq M2 0 M (svP (M 15 0 0 1) + 2) := fun t k s p => by
    by_cases ht : t < 20
    · rw [low t ht]
      exact rest_c M t k s p
    · rw [pF_hi (by omega)] at p
      exact absurd p (by decide)
  have fi : ∀ i : Int, ¬ i = 0 → FEq M2 i M i := fun i a t k s p => by
    by_cases ht : t < 20
    · rw [low t ht, rest_i (pF_no15 p) a]
    · rw [pF_hi (by omega)] at p
      exact absurd p (by decide)
  have er : rix (M 15 0 0 1) 0 = svP (M 15 0 0 1) + 2 := by
    unfold rix svP
    split <;> omega
  have ri := rix_in (next := M 15 0 0 1) (t := 0) kn (by decide)
  have g0 := hr 0 (by decide) hm
  rw [er] at g0 ri
  refine ⟨⟨fun i hi h8 => ?_, by rw [n1]; unfold svP; split <;> omega, by rw [n2]; omega, by rw [low 0 (by decide), rest_t pF_0 (by decide)]; exact kl, fun j a b => by rw [low 17 (by decide), rest_t pF_17 (by decide)]; exact kb j a b⟩, ?_, ⟨by rw [v1, n2], fun t a b => ?_⟩, ?_, fun j a b => ?_⟩
  · by_cases e0 : i = 0
    · subst e0
      exact fH_FEq f0 (kf _ (Or.inr ri.1) ri.2)
    · exact fH_FEq (fi i e0) (kf i hi h8)
  · have hCi := KI_fC hK0 (Or.inr ri.1) ri.2
    refine GZ_z (GZ_F g0 f0 hCi) (fun n a b => ?_) (fun n hn => ?_) (fC_FEq f0 hCi)
    · rw [v2 n a b]
      unfold zseg
      rw [if_pos ⟨a, b⟩, Int.sub_zero]
    · by_cases e : 0 ≤ n ∧ n < 1561
      · rw [v2 n e.1 e.2]
        have q := g0.1 n hn
        unfold zseg at q
        rw [if_pos e, Int.sub_zero] at q
        exact q
      · rw [v3 n e]
        exact hz.1 n hn
  · rw [n1]
    rw [n2] at b ⊢
    have e2 : rix (svP (M 15 0 0 1)) t = rix (M 15 0 0 1) (t + 1) := by
      unfold rix svP
      split <;> split <;> split <;> omega
    have rj := rix_in (next := M 15 0 0 1) (t := t + 1) kn (by omega)
    have g := hr (t + 1) (by omega) (by omega)
    have hCi := KI_fC hK0 (Or.inr rj.1) rj.2
    have e := fi (rix (M 15 0 0 1) (t + 1)) (by omega)
    rw [e2]
    refine GZ_seg (z := zseg M (M 15 0 0 2 - 1 - (t + 1))) (GZ_F g e hCi) (fC_FEq e hCi) (fun j c d => ?_)
    rw [s1 22 (by decide) (by decide), hi 22 (by decide)]
    unfold zseg
    rw [if_pos ⟨c, d⟩]
    exact congrArg (M 22 0 0) (by omega)
  · rw [s2 3 (by decide) (by decide), low 0 (by decide), hi 20 (by decide), rest_t pF_0 (by decide)]
    exact htx
  · rw [s1 23 (by decide) (by decide), low 17 (by decide), hi 23 (by decide), rest_t pF_17 (by decide)]
    exact htj j a b
end XRo

