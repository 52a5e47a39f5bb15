section XRh
/-! carrying meals, joining and splitting units, on the reference's row -/
theorem cyL_z : ∀ (A B : List Int) (S T : Int → Int) (w : Int), 0 ≤ w → (∀ x ∈ A, S x = 0) → cyL (A ++ B) S T w = cyL B S T w
  | [], _, _, _, _, _, _ => rfl
  | x :: A, B, S, T, w, hw, h => by
    have e : S x = 0 := h x (List.mem_cons_self ..)
    have m : min w (S x) = 0 := by rw [e]; omega
    simp only [List.cons_append, cyL, m, Int.sub_zero, Int.add_zero, sup_self]
    exact cyL_z A B S T w hw (fun y hy => h y (List.mem_cons_of_mem _ hy))
theorem cyL_ages {f : Int → List Int} {now : Int} {S T : Int → Int} {w : Int} (hw : 0 ≤ w) : ∀ (k n : Nat), (∀ a : Nat, n ≤ a → a < n + k → ∀ x ∈ f (now - a), S x = 0) → cyL (agL f now (n + k)) S T w = cyL (agL f now n) S T w
  | 0, _, _ => rfl
  | k + 1, n, h => by
    rw [← Nat.add_assoc, agL, cyL_z _ _ _ _ _ hw (fun x hx => h (n + k) (by omega) (by omega) x hx)]
    exact cyL_ages hw k n (fun a h0 h1 => h a h0 (by omega))
theorem cyL_congr : ∀ (L : List Int) (S S0 T T0 : Int → Int) (w : Int), (∀ x ∈ L, 0 ≤ x ∧ x < 192) → (∀ x : Int, 0 ≤ x → x < 192 → S x = S0 x) → (∀ x : Int, 0 ≤ x → x < 192 → T x = T0 x) → ∀ x : Int, 0 ≤ x → x < 192 → (cyL L S T w).1 x = (cyL L S0 T0 w).1 x ∧ (cyL L S T w).2 x = (cyL L S0 T0 w).2 x
  | [], _, _, _, _, _, _, hS, hT => fun x a b => ⟨hS x a b, hT x a b⟩
  | y :: L, S, S0, T, T0, w, hL, hS, hT => by
    have hy := hL y (List.mem_cons_self ..)
    simp only [cyL]
    rw [hS y hy.1 hy.2, hT y hy.1 hy.2]
    exact cyL_congr L _ _ _ _ _ (fun z hz => hL z (List.mem_cons_of_mem _ hz)) (fun z a b => by
      unfold sup
      split
      · rfl
      · exact hS z a b) (fun z a b => by
      unfold sup
      split
      · rfl
      · exact hT z a b)
theorem cyL_all : ∀ (L : List Int) (S T : Int → Int) (w : Int), (∀ x ∈ L, 0 ≤ x ∧ x < 192) → sOK S → tot3 S ≤ w → ∀ x : Int, (cyL L S T w).1 x = (if x ∈ L then 0 else S x) ∧ (cyL L S T w).2 x = (if x ∈ L then T x + S x else T x)
  | [], _, _, _, _, _, _ => fun x => ⟨by rw [if_neg (List.not_mem_nil)]; rfl, by rw [if_neg (List.not_mem_nil)]; rfl⟩
  | y :: L, S, T, w, hL, hS, hw => by
    have hy := hL y (List.mem_cons_self ..)
    have ha := tot3_at hS hy.1 hy.2
    have m : min w (S y) = S y := by omega
    have hs0 := hS y hy.1 hy.2
    have hS1 : sOK (sup S y 0) := sOK_sup hS (by decide) (by decide)
    have ht := tot3_sup S (v := 0) hy.1 hy.2
    have ih := cyL_all L (sup S y 0) (sup T y (T y + S y)) (w - S y) (fun z hz => hL z (List.mem_cons_of_mem _ hz)) hS1 (by omega)
    intro x
    have q := ih x
    simp only [cyL, m, Int.sub_self]
    rw [q.1, q.2]
    by_cases e : x = y
    · subst e
      rw [if_pos (List.mem_cons_self ..), if_pos (List.mem_cons_self ..), sup_eq, sup_eq]
      by_cases hx : x ∈ L
      · rw [if_pos hx, if_pos hx]
        exact ⟨rfl, by omega⟩
      · rw [if_neg hx, if_neg hx]
        exact ⟨rfl, rfl⟩
    · rw [sup_ne e, sup_ne e]
      by_cases hx : x ∈ L
      · rw [if_pos hx, if_pos hx, if_pos (List.mem_cons_of_mem _ hx), if_pos (List.mem_cons_of_mem _ hx)]
        exact ⟨rfl, rfl⟩
      · have hx' : ¬ x ∈ y :: L := fun h => (List.mem_cons.mp h).elim e hx
        rw [if_neg hx, if_neg hx, if_neg hx', if_neg hx']
        exact ⟨rfl, rfl⟩
theorem agL_has {d now x : Int} (a : Nat) (e : x = mS d (now - a)) : ∀ n : Nat, a < n → x ∈ agL (cyF d) now n
  | 0, h => absurd h (Nat.not_lt_zero a)
  | n + 1, h => by
    rw [agL]
    by_cases q : a = n
    · subst q
      exact List.mem_append_left _ (by rw [e]; exact List.mem_cons_self ..)
    · exact List.mem_append_right _ (agL_has a e n (by omega))
theorem agL_row {d now : Int} : ∀ (n : Nat) (x : Int), x ∈ agL (cyF d) now n → 64 * d ≤ x ∧ x < 64 * d + 64 :=
  fun n x hx => agL_mem (f := cyF d) (now := now) (P := fun x => 64 * d ≤ x ∧ x < 64 * d + 64) (fun m y hy => by
    have e : y = mS d m := List.mem_singleton.mp hy
    rw [e]
    unfold mS
    omega) n x hx
theorem agL_iff {d now x : Int} : x ∈ agL (cyF d) now 64 ↔ (64 * d ≤ x ∧ x < 64 * d + 64) :=
  ⟨agL_row 64 x, fun h => agL_has (((now - x) % 64).toNat) (by unfold mS; omega) 64 (by omega)⟩
/-- two stores' meals change -/
theorem GZ_M2 {F F' : XM} {f j j2 : Int} {z z' : Int → Int} (h : GZ 60 F f z) (hC : fC F f) (ht : ∀ t : Nat, ¬ t = 11 → ¬ t = 12 → F' t = F t) (hn : ∀ j' : Int, ¬ j' = j → ¬ j' = j2 → F' 11 f j' = F 11 f j') (h0 : 0 ≤ j) (h2 : 0 ≤ j2) (hz : ∀ n : Int, ¬ (217 + 192 * j ≤ n ∧ n < 409 + 192 * j) → ¬ (217 + 192 * j2 ≤ n ∧ n < 409 + 192 * j2) → z' n = z n) (hJ : ∀ n : Int, zJ n → XInR (z' n)) (hj : gM1 60 F' f z' j) (hj2 : gM1 60 F' f z' j2) : GZ 60 F' f z' := by
  obtain ⟨hI, hS, hC0, hT, hP, hK, hL, hU, hM⟩ := h
  have e1 : F' 1 = F 1 := ht 1 (by decide) (by decide)
  refine ⟨hJ, gS_c (fun n a b => hz n (by omega) (by omega)) (by rw [ht 2 (by decide) (by decide)]) hS, gC_c (fun n a b => hz n (by omega) (by omega)) (by rw [e1]) (by rw [e1]) (by rw [e1]) (by rw [e1]) (by rw [e1]) hC0, gT_c (fC_cnt hC) (fun n a b => hz n (by omega) (by omega)) (fun _ _ _ _ _ => by rw [ht 8 (by decide) (by decide)]) (fun _ _ _ => by rw [ht 13 (by decide) (by decide)]) (fun _ _ _ _ _ _ => by rw [ht 14 (by decide) (by decide)]) (by rw [e1]) (by rw [e1]) (by rw [e1]) (by rw [e1]) hT, gP_c (fun n a b => hz n (by omega) (by omega)) (by rw [ht 3 (by decide) (by decide)]) (by rw [ht 4 (by decide) (by decide)]) hP, gK_c (fun n a b => hz n (by omega) (by omega)) (fun _ _ _ _ _ => by rw [ht 8 (by decide) (by decide)]) (fun _ _ _ _ _ _ => by rw [ht 9 (by decide) (by decide)]) (by rw [e1]) hK, gL_c (fun n a b => hz n (by omega) (by omega)) (fun _ _ _ _ _ => by rw [ht 13 (by decide) (by decide)]) (by rw [e1]) (by rw [e1]; exact Int.le_refl _) hL, gU_c (fun n a b => hz n (by omega) (by omega)) (fun _ _ _ _ _ _ => by rw [ht 14 (by decide) (by decide)]) (by rw [e1]) (by rw [e1]; exact Int.le_refl _) hU, fun j' g0 g1 => ?_⟩
  by_cases a : j' = j
  · rw [a]
    exact hj
  · by_cases b : j' = j2
    · rw [b]
      exact hj2
    · exact gM1_c (fun n p q => hz n (by omega) (by omega)) (fun x _ _ => by rw [hn j' a b]) (by rw [e1]) (gNo_c (by rw [e1]) (by rw [e1])) (hM j' g0 g1)
theorem zAg_le {m : Int} (h : 0 ≤ m) : zAg m ≤ 64 ∧ ∀ a : Nat, zAg m ≤ a → a < 64 → m < a := by
  unfold zAg zFst
  split
  · exact ⟨by omega, fun a b c => by omega⟩
  · exact ⟨by omega, fun a b c => by omega⟩
/-- carrying, on the row -/
def zCy (z : Int → Int) (j j2 d w : Int) : (Int → Int) × (Int → Int) := cyL (agL (cyF d) (z 10) (zAg (z 10))) (fun x => z (217 + 192 * j + x)) (fun x => z (217 + 192 * j2 + x)) w
theorem car_11 {F : XM} {f j j2 d w : Int} (hj : ¬ j2 = j) : car F f j j2 d w 11 f j = (cyL (agL (cyF d) (F 1 f 0 0) 64) (F 11 f j) (F 11 f j2) w).1 ∧ car F f j j2 d w 11 f j2 = (cyL (agL (cyF d) (F 1 f 0 0) 64) (F 11 f j) (F 11 f j2) w).2 ∧ ∀ j' : Int, ¬ j' = j → ¬ j' = j2 → car F f j j2 d w 11 f j' = F 11 f j' := by
  refine ⟨?_, ?_, fun j' a b => ?_⟩
  · funext s
    unfold car
    simp only [mset_app, true_and, if_true, and_self, show ¬ j = j2 from fun e => hj e.symm, if_false, Nat.reduceEqDiff, false_and]
  · funext s
    unfold car
    simp only [mset_app, true_and, if_true, and_self]
  · funext s
    unfold car
    simp only [mset_app, true_and, a, b, if_false, Nat.reduceEqDiff, false_and]
theorem zCy_eq {F : XM} {f j j2 d w c b : Int} {z : Int → Int} (h : GZ 60 F f z) (hG : fI c b F f) (h0 : 0 ≤ j ∧ j < 7) (h2 : 0 ≤ j2 ∧ j2 < 7) (hd : 0 ≤ d ∧ d ≤ 2) (hw : 0 ≤ w) : ∀ x : Int, 0 ≤ x → x < 192 → (zCy z j j2 d w).1 x = (cyL (agL (cyF d) (F 1 f 0 0) 64) (F 11 f j) (F 11 f j2) w).1 x ∧ (zCy z j j2 d w).2 x = (cyL (agL (cyF d) (F 1 f 0 0) 64) (F 11 f j) (F 11 f j2) w).2 x := by
  have hm := hG.1.2.2.2.2.1
  have e10 := h.2.2.1.2.2.2.2
  have ha := zAg_le (m := F 1 f 0 0) hm.1
  have hj := h.2.2.2.2.2.2.2.2 j h0.1 h0.2
  have hj2 := h.2.2.2.2.2.2.2.2 j2 h2.1 h2.2
  obtain ⟨k, hk⟩ : ∃ k : Nat, zAg (F 1 f 0 0) + k = 64 := ⟨64 - zAg (F 1 f 0 0), by omega⟩
  have e := cyL_ages (f := cyF d) (now := F 1 f 0 0) (S := F 11 f j) (T := F 11 f j2) hw k (zAg (F 1 f 0 0)) (fun a p q x hx => by
    rw [List.mem_singleton.mp hx]
    exact hj.2.1 d a hd.1 hd.2 (by omega) (by omega) (Or.inr (ha.2 a p (by omega))))
  rw [hk] at e
  unfold zCy
  rw [e10, e]
  exact cyL_congr _ _ _ _ _ w (fun x hx => agL_in hd.1 hd.2 hx) hj.1 hj2.1
theorem GZ_car {F : XM} {f j j2 d w c b : Int} {z : Int → Int} (h : GZ 60 F f z) (hG : fI c b F f) (hb : b ≤ 2000000) (h0 : 0 ≤ j ∧ j < 7) (h2 : 0 ≤ j2 ∧ j2 < 7) (hj : ¬ j2 = j) (hd : 0 ≤ d ∧ d ≤ 2) (hw : 0 ≤ w) (hn : ¬ gNo F f j2) : GZ 60 (car F f j j2 d w) f (blk (blk z j (zCy z j j2 d w).1) j2 (zCy z j j2 d w).2) := by
  have hz := zCy_eq h hG h0 h2 hd hw
  have hS := (fS_at hG.2.1 hb h0.1 h0.2).2
  have hS2 := (fS_at hG.2.1 hb h2.1 h2.2).2
  have hok := cyL_ok (agL (cyF d) (F 1 f 0 0) 64) (F 11 f j) (F 11 f j2) w (fun x hx => agL_in hd.1 hd.2 hx) (fun x a b => (hS x a b).1) hw
  have hj1 := h.2.2.2.2.2.2.2.2 j h0.1 h0.2
  have hj2 := h.2.2.2.2.2.2.2.2 j2 h2.1 h2.2
  have c11 := car_11 (F := F) (f := f) (d := d) (w := w) hj
  obtain ⟨S, eS⟩ : ∃ S : Int → Int, S = (cyL (agL (cyF d) (F 1 f 0 0) 64) (F 11 f j) (F 11 f j2) w).1 := ⟨_, rfl⟩
  obtain ⟨T, eT⟩ : ∃ T : Int → Int, T = (cyL (agL (cyF d) (F 1 f 0 0) 64) (F 11 f j) (F 11 f j2) w).2 := ⟨_, rfl⟩
  rw [← eS, ← eT] at hz hok c11
  obtain ⟨S1, eS1⟩ : ∃ S1 : Int → Int, S1 = (zCy z j j2 d w).1 := ⟨_, rfl⟩
  obtain ⟨T1, eT1⟩ : ∃ T1 : Int → Int, T1 = (zCy z j j2 d w).2 := ⟨_, rfl⟩
  rw [← eS1, ← eT1] at hz ⊢
  have e1 : car F f j j2 d w 1 = F 1 := car_tag (by decide) (by decide)
  refine GZ_M2 h hG.1 (fun t a b => car_tag a b) c11.2.2 h0.1 h2.1 (fun n a b => by rw [blk_out b, blk_out a]) (blk_in (blk_in h.1 (fun x a b => ?_)) (fun x a b => ?_)) ?_ ?_
  · have q := hok x a b
    have q1 := hS x a b
    rw [(hz x a b).1]
    exact ⟨by omega, by omega⟩
  · have q := hok x a b
    have q1 := hS x a b
    have q2 := hS2 x a b
    rw [(hz x a b).2]
    exact ⟨by omega, by omega⟩
  · refine ⟨fun x a b => ?_, fun d' a p q r s t => ?_, fun hno x a b => ?_⟩
    · rw [blk_out (by omega), blk_at a b, c11.1]
      exact (hz x a b).1
    · rw [e1] at t ⊢
      rw [c11.1]
      have i := mS_in (m := F 1 f 0 0 - a) p q
      have g := hok _ i.1 i.2
      have u := hj1.2.1 d' a p q r s t
      omega
    · rw [c11.1]
      have g := hok x a b
      have u := hj1.2.2 (gNo_c (by rw [e1]) (by rw [e1]) hno) x a b
      omega
  · refine ⟨fun x a b => ?_, fun d' a p q r s t => ?_, fun hno => absurd (gNo_c (by rw [e1]) (by rw [e1]) hno) hn⟩
    · rw [blk_at a b, c11.2.1]
      exact (hz x a b).2
    · rw [e1] at t ⊢
      rw [c11.2.1]
      have i := mS_in (m := F 1 f 0 0 - a) p q
      have g := hok _ i.1 i.2
      have u := hj1.2.1 d' a p q r s t
      have v := hj2.2.1 d' a p q r s t
      omega
theorem sm_le {S T : Int → Int} {a : Int} : ∀ {n : Nat}, (∀ x : Int, a ≤ x → x < a + n → S x ≤ T x) → sm S a n ≤ sm T a n
  | 0, _ => Int.le_refl _
  | n + 1, h => by
    have q := sm_le (n := n) (fun x p q => h x p (by omega))
    have r := h (a + n) (by omega) (by omega)
    simp only [sm]
    omega
theorem tot3_le {S T : Int → Int} (h : ∀ x : Int, 0 ≤ x → x < 192 → S x ≤ T x) : tot3 S ≤ tot3 T := by
  unfold tot3
  have a := sm_le (S := S) (T := T) (a := 0) (n := 64) (fun x p q => h x p (by omega))
  have b := sm_le (S := S) (T := T) (a := 64) (n := 64) (fun x p q => h x (by omega) (by omega))
  have c := sm_le (S := S) (T := T) (a := 128) (n := 64) (fun x p q => h x (by omega) (by omega))
  omega
/-- all that a store holds is carried -/
theorem GZ_un {F : XM} {f j j2 c b w : Int} {z : Int → Int} (h : GZ 60 F f z) (hG : fI c b F f) (hb : b ≤ 2000000) (h0 : 0 ≤ j ∧ j < 7) (h2 : 0 ≤ j2 ∧ j2 < 7) (hj : ¬ j2 = j) (hw : w = mAll F f j) (hn : ¬ gNo F f j2) : GZ 60 (car (car (car F f j j2 0 w) f j j2 1 w) f j j2 2 w) f (blk (blk z j (fun _ => 0)) j2 (fun x => z (217 + 192 * j2 + x) + z (217 + 192 * j + x))) := by
  have hmI := (fS_at hG.2.1 hb h0.1 h0.2).1
  have hS := (fS_at hG.2.1 hb h0.1 h0.2).2
  have hS2 := (fS_at hG.2.1 hb h2.1 h2.2).2
  rw [mAll_tot hmI] at hw
  have hj1 := h.2.2.2.2.2.2.2.2 j h0.1 h0.2
  have hj2 := h.2.2.2.2.2.2.2.2 j2 h2.1 h2.2
  obtain ⟨F1, eF1⟩ : ∃ F1 : XM, F1 = car F f j j2 0 w := ⟨_, rfl⟩
  obtain ⟨F2, eF2⟩ : ∃ F2 : XM, F2 = car F1 f j j2 1 w := ⟨_, rfl⟩
  obtain ⟨F3, eF3⟩ : ∃ F3 : XM, F3 = car F2 f j j2 2 w := ⟨_, rfl⟩
  rw [← eF1, ← eF2, ← eF3]
  have c1 := car_11 (F := F) (f := f) (d := 0) (w := w) hj
  have c2 := car_11 (F := F1) (f := f) (d := 1) (w := w) hj
  have c3 := car_11 (F := F2) (f := f) (d := 2) (w := w) hj
  rw [← eF1] at c1
  rw [← eF2] at c2
  rw [← eF3] at c3
  have hin : ∀ d now : Int, 0 ≤ d → d ≤ 2 → ∀ x ∈ agL (cyF d) now 64, 0 ≤ x ∧ x < 192 := fun d now p q x hx => agL_in p q hx
  have k1 := cyL_all (agL (cyF 0) (F 1 f 0 0) 64) (F 11 f j) (F 11 f j2) w (hin 0 _ (by decide) (by decide)) hS (by omega)
  rw [← c1.1, ← c1.2.1] at k1
  have s1 : ∀ x : Int, 0 ≤ x → x < 192 → 0 ≤ F1 11 f j x ∧ F1 11 f j x ≤ F 11 f j x := fun x a b => by
    have q := hS x a b
    rw [(k1 x).1]
    split <;> omega
  have hS1 : sOK (F1 11 f j) := fun x a b => by
    have q := hS x a b
    have p := s1 x a b
    omega
  have hT1 : tot3 (F1 11 f j) ≤ w := by rw [hw]; exact tot3_le (fun x a b => (s1 x a b).2)
  have k2 := cyL_all (agL (cyF 1) (F1 1 f 0 0) 64) (F1 11 f j) (F1 11 f j2) w (hin 1 _ (by decide) (by decide)) hS1 hT1
  rw [← c2.1, ← c2.2.1] at k2
  have s2 : ∀ x : Int, 0 ≤ x → x < 192 → 0 ≤ F2 11 f j x ∧ F2 11 f j x ≤ F 11 f j x := fun x a b => by
    have q := hS x a b
    have p := s1 x a b
    rw [(k2 x).1]
    split <;> omega
  have hS2' : sOK (F2 11 f j) := fun x a b => by
    have q := hS x a b
    have p := s2 x a b
    omega
  have hT2 : tot3 (F2 11 f j) ≤ w := by rw [hw]; exact tot3_le (fun x a b => (s2 x a b).2)
  have k3 := cyL_all (agL (cyF 2) (F2 1 f 0 0) 64) (F2 11 f j) (F2 11 f j2) w (hin 2 _ (by decide) (by decide)) hS2' hT2
  rw [← c3.1, ← c3.2.1] at k3
  have hf : ∀ x : Int, 0 ≤ x → x < 192 → F3 11 f j x = 0 ∧ F3 11 f j2 x = F 11 f j2 x + F 11 f j x := fun x a b => by
    have q1 := k1 x
    have q2 := k2 x
    have q3 := k3 x
    simp only [agL_iff] at q1 q2 q3
    by_cases x0 : x < 64
    · rw [if_pos (by omega), if_pos (by omega)] at q1
      rw [if_neg (by omega), if_neg (by omega)] at q2 q3
      omega
    · by_cases x1 : x < 128
      · rw [if_neg (by omega), if_neg (by omega)] at q1 q3
        rw [if_pos (by omega), if_pos (by omega)] at q2
        omega
      · rw [if_neg (by omega), if_neg (by omega)] at q1 q2
        rw [if_pos (by omega), if_pos (by omega)] at q3
        omega
  have ht : ∀ t : Nat, ¬ t = 11 → ¬ t = 12 → F3 t = F t := fun t a b => by rw [eF3, car_tag a b, eF2, car_tag a b, eF1, car_tag a b]
  have e1 : F3 1 = F 1 := ht 1 (by decide) (by decide)
  refine GZ_M2 h hG.1 ht (fun j' a b => by rw [c3.2.2 j' a b, c2.2.2 j' a b, c1.2.2 j' a b]) h0.1 h2.1 (fun n a b => by rw [blk_out b, blk_out a]) (blk_in (blk_in h.1 (fun x a b => ⟨by omega, by omega⟩)) (fun x a b => ?_)) ?_ ?_
  · have q1 := hS x a b
    have q2 := hS2 x a b
    rw [hj1.1 x a b, hj2.1 x a b]
    exact ⟨by omega, by omega⟩
  · refine ⟨fun x a b => ?_, fun d' a p q r s t => ?_, fun hno x a b => (hf x a b).1⟩
    · rw [blk_out (by omega), blk_at a b, (hf x a b).1]
    · rw [e1]
      have i := mS_in (m := F 1 f 0 0 - a) p q
      exact (hf _ i.1 i.2).1
  · refine ⟨fun x a b => ?_, fun d' a p q r s t => ?_, fun hno => absurd (gNo_c (by rw [e1]) (by rw [e1]) hno) hn⟩
    · rw [blk_at a b, (hf x a b).2, hj1.1 x a b, hj2.1 x a b]
    · rw [e1] at t ⊢
      have i := mS_in (m := F 1 f 0 0 - a) p q
      have u := hj1.2.1 d' a p q r s t
      have v := hj2.2.1 d' a p q r s t
      have g := (hf _ i.1 i.2).2
      omega
theorem GZ_take {F : XM} {f u w c b : Int} {z : Int → Int} (h : GZ 60 F f z) (hG : fI c b F f) (hc : c ≤ 80000000) (h0 : 0 ≤ u ∧ u < F 1 f 0 10) (h1 : 0 ≤ w ∧ w < F 1 f 0 10) (hne : ¬ u = w) (hu : F 14 f u 0 = 0) (hw : F 14 f w 0 = 0) : GZ 60 (uTake F f w f u) f (sup (sup (sup (sup (sup z (73 + 12 * w + 8) (uSince (z (73 + 12 * w + 8)) (z (73 + 12 * u + 8)))) (73 + 12 * w + 2) (z (73 + 12 * w + 2) + z (73 + 12 * u + 2))) (73 + 12 * w + 3) (z (73 + 12 * w + 3) + z (73 + 12 * u + 3))) (73 + 12 * w + 6) (z (73 + 12 * w + 6) + z (73 + 12 * u + 6))) (73 + 12 * w + 7) (z (73 + 12 * w + 7) + z (73 + 12 * u + 7))) := by
  have c10 := hG.1.2.2.2.1
  have hUu := hG.2.2.2.2.1 u h0.1 (by omega)
  have hUw := hG.2.2.2.2.1 w h1.1 (by omega)
  have hou := fU_ow hG.2.2.2.2 hc h0.1 (show u < 12 by omega)
  have how := fU_ow hG.2.2.2.2 hc h1.1 (show w < 12 by omega)
  obtain ⟨a0, ap, a9, a10, a11, apl, aw, -⟩ := (h.2.2.2.2.2.2.2.1 u h0.1 (by omega)).1 h0.2
  obtain ⟨b0, bp, b9, b10, b11, bpl, bw, -⟩ := (h.2.2.2.2.2.2.2.1 w h1.1 (by omega)).1 h1.2
  obtain ⟨as, a30, ap1, ai, ac⟩ := aw hu
  obtain ⟨bs, b30, bp1, bi, bc⟩ := bw hw
  rw [as 8 (by decide) (by decide), as 2 (by decide) (by decide), as 3 (by decide) (by decide), as 6 (by decide) (by decide), as 7 (by decide) (by decide), bs 8 (by decide) (by decide), bs 2 (by decide) (by decide), bs 3 (by decide) (by decide), bs 6 (by decide) (by decide), bs 7 (by decide) (by decide)]
  obtain ⟨F', eF⟩ : ∃ F' : XM, F' = uTake F f w f u := ⟨_, rfl⟩
  rw [← eF]
  have hv : ∀ u' s : Int, F' 14 f u' s = if u' = w then (if s = 8 then uSince (F 14 f w 8) (F 14 f u 8) else if s = 7 then F 14 f w 7 + F 14 f u 7 else if s = 6 then F 14 f w 6 + F 14 f u 6 else if s = 3 then F 14 f w 3 + F 14 f u 3 else if s = 2 then F 14 f w 2 + F 14 f u 2 else F 14 f w s) else F 14 f u' s := fun u' s => by
    rw [eF]
    unfold uTake
    by_cases e : u' = w
    · subst e
      simp only [xup_app, true_and, if_true]
    · simp only [xup_app, e, false_and, and_false, if_false]
  have ht : ∀ t : Nat, ¬ t = 14 → F' t = F t := fun t a => by rw [eF]; unfold uTake; simp only [xup_tag a]
  have e1 := ht 1 (by decide)
  have hn : ∀ u' s : Int, ¬ u' = w → F' 14 f u' s = F 14 f u' s := fun u' s a => by rw [hv, if_neg a]
  have vw : ∀ s : Int, F' 14 f w s = (if s = 8 then uSince (F 14 f w 8) (F 14 f u 8) else if s = 7 then F 14 f w 7 + F 14 f u 7 else if s = 6 then F 14 f w 6 + F 14 f u 6 else if s = 3 then F 14 f w 3 + F 14 f u 3 else if s = 2 then F 14 f w 2 + F 14 f u 2 else F 14 f w s) := fun s => by rw [hv, if_pos rfl]
  have v8 : F' 14 f w 8 = uSince (F 14 f w 8) (F 14 f u 8) := by rw [vw]; rfl
  have v7 : F' 14 f w 7 = F 14 f w 7 + F 14 f u 7 := by rw [vw]; rfl
  have v6 : F' 14 f w 6 = F 14 f w 6 + F 14 f u 6 := by rw [vw]; rfl
  have v3 : F' 14 f w 3 = F 14 f w 3 + F 14 f u 3 := by rw [vw]; rfl
  have v2 : F' 14 f w 2 = F 14 f w 2 + F 14 f u 2 := by rw [vw]; rfl
  have vn : ∀ s : Int, ¬ s = 8 → ¬ s = 7 → ¬ s = 6 → ¬ s = 3 → ¬ s = 2 → F' 14 f w s = F 14 f w s := fun s p q r t y => by rw [vw, if_neg p, if_neg q, if_neg r, if_neg t, if_neg y]
  have hsi : -1 ≤ uSince (F 14 f w 8) (F 14 f u 8) ∧ uSince (F 14 f w 8) (F 14 f u 8) ≤ 30000 ∧ (uSince (F 14 f w 8) (F 14 f u 8) = -1 ↔ F 14 f w 8 = -1 ∧ F 14 f u 8 = -1) := by
    unfold uSince
    split
    · exact ⟨by omega, by omega, by omega⟩
    · split
      · exact ⟨by omega, by omega, by omega⟩
      · exact ⟨by omega, by omega, by omega⟩
  obtain ⟨si, esi⟩ : ∃ si : Int, si = uSince (F 14 f w 8) (F 14 f u 8) := ⟨_, rfl⟩
  rw [← esi] at hsi v8 ⊢
  obtain ⟨z', ez⟩ : ∃ z' : Int → Int, z' = sup (sup (sup (sup (sup z (73 + 12 * w + 8) si) (73 + 12 * w + 2) (F 14 f w 2 + F 14 f u 2)) (73 + 12 * w + 3) (F 14 f w 3 + F 14 f u 3)) (73 + 12 * w + 6) (F 14 f w 6 + F 14 f u 6)) (73 + 12 * w + 7) (F 14 f w 7 + F 14 f u 7) := ⟨_, rfl⟩
  rw [← ez]
  have q7 : z' (73 + 12 * w + 7) = F 14 f w 7 + F 14 f u 7 := by rw [ez]; exact sup_eq
  have q6 : z' (73 + 12 * w + 6) = F 14 f w 6 + F 14 f u 6 := by rw [ez, sup_ne (by omega)]; exact sup_eq
  have q3 : z' (73 + 12 * w + 3) = F 14 f w 3 + F 14 f u 3 := by rw [ez, sup_ne (by omega), sup_ne (by omega)]; exact sup_eq
  have q2 : z' (73 + 12 * w + 2) = F 14 f w 2 + F 14 f u 2 := by rw [ez, sup_ne (by omega), sup_ne (by omega), sup_ne (by omega)]; exact sup_eq
  have q8 : z' (73 + 12 * w + 8) = si := by rw [ez, sup_ne (by omega), sup_ne (by omega), sup_ne (by omega), sup_ne (by omega)]; exact sup_eq
  have qn : ∀ n : Int, ¬ n = 73 + 12 * w + 8 → ¬ n = 73 + 12 * w + 7 → ¬ n = 73 + 12 * w + 6 → ¬ n = 73 + 12 * w + 3 → ¬ n = 73 + 12 * w + 2 → z' n = z n := fun n p q r t y => by rw [ez, sup_ne q, sup_ne r, sup_ne t, sup_ne y, sup_ne p]
  have hJ : ∀ n : Int, zJ n → XInR (z' n) := by
    rw [ez]
    exact sup_in (sup_in (sup_in (sup_in (sup_in h.1 (fun _ => ⟨by omega, by omega⟩)) (fun _ => ⟨by omega, by omega⟩)) (fun _ => ⟨by omega, by omega⟩)) (fun _ => ⟨by omega, by omega⟩)) (fun _ => ⟨by omega, by omega⟩)
  clear ez
  refine GZ_U h (fun t a _ => ht t a) (fun s _ => by rw [e1]) hn (fun m a b => qn m (by omega) (by omega) (by omega) (by omega) (by omega)) h1.1 (by omega) hJ (gT_u h.2.2.2.1 (fun t a _ => ht t a) (fun s _ => by rw [e1]) hn h1.1 h1.2 (qn _ (by omega) (by omega) (by omega) (by omega) (by omega)) (by rw [qn _ (by omega) (by omega) (by omega) (by omega) (by omega), vn 9 (by decide) (by decide) (by decide) (by decide) (by decide)]; omega) (qn _ (by omega) (by omega) (by omega) (by omega) (by omega)) (by rw [qn _ (by omega) (by omega) (by omega) (by omega) (by omega), e1]; omega) (by rw [qn _ (by omega) (by omega) (by omega) (by omega) (by omega), vn 11 (by decide) (by decide) (by decide) (by decide) (by decide)]; omega) (by rw [qn _ (by omega) (by omega) (by omega) (by omega) (by omega), vn 10 (by decide) (by decide) (by decide) (by decide) (by decide)]; omega)) ?_
  unfold gU1 gW1
  rw [e1, v2, v3, v6, v7, v8, vn 0 (by decide) (by decide) (by decide) (by decide) (by decide), vn 1 (by decide) (by decide) (by decide) (by decide) (by decide), vn 5 (by decide) (by decide) (by decide) (by decide) (by decide), vn 9 (by decide) (by decide) (by decide) (by decide) (by decide), vn 10 (by decide) (by decide) (by decide) (by decide) (by decide), vn 11 (by decide) (by decide) (by decide) (by decide) (by decide), qn (73 + 12 * w + 0) (by omega) (by omega) (by omega) (by omega) (by omega), qn (73 + 12 * w + 1) (by omega) (by omega) (by omega) (by omega) (by omega), qn (73 + 12 * w + 9) (by omega) (by omega) (by omega) (by omega) (by omega), qn (73 + 12 * w + 10) (by omega) (by omega) (by omega) (by omega) (by omega), qn (73 + 12 * w + 11) (by omega) (by omega) (by omega) (by omega) (by omega)]
  refine ⟨fun _ => ⟨b0, bp, b9, b10, b11, bpl, fun _ => ⟨fun s p q => ?_, b30, by omega, by omega, bc⟩, fun q => absurd hw q⟩, fun q => by omega⟩
  rcases (show s = 2 ∨ s = 3 ∨ s = 4 ∨ s = 5 ∨ s = 6 ∨ s = 7 ∨ s = 8 by omega) with rfl | rfl | rfl | rfl | rfl | rfl | rfl
  · rw [q2, v2]
  · rw [q3, v3]
  · rw [qn _ (by omega) (by omega) (by omega) (by omega) (by omega), vn 4 (by decide) (by decide) (by decide) (by decide) (by decide)]
    exact bs 4 (by decide) (by decide)
  · rw [qn _ (by omega) (by omega) (by omega) (by omega) (by omega), vn 5 (by decide) (by decide) (by decide) (by decide) (by decide)]
    exact bs 5 (by decide) (by decide)
  · rw [q6, v6]
  · rw [q7, v7]
  · rw [q8, v8]
/-- a unit that has no more to do -/
theorem GZ_leave {F : XM} {f u st : Int} {z : Int → Int} (h : GZ 60 F f z) (h0 : 0 ≤ u ∧ u < F 1 f 0 10) (h12 : F 1 f 0 10 ≤ 12) (hst : ¬ st = 0 ∧ XInR st) : GZ 60 (uLeave F f u st) f (sup z (73 + 12 * u + 0) st) := by
  obtain ⟨e0, ep, e9, e10, e11, epl, ew, -⟩ := (h.2.2.2.2.2.2.2.1 u h0.1 (by omega)).1 h0.2
  obtain ⟨F', eF⟩ : ∃ F' : XM, F' = uLeave F f u st := ⟨_, rfl⟩
  rw [← eF]
  have hv : ∀ u' s : Int, F' 14 f u' s = if u' = u then (if s = 8 then -1 else if s = 7 then 0 else if s = 6 then 0 else if s = 3 then 0 else if s = 2 then 0 else if s = 0 then st else F 14 f u s) else F 14 f u' s := fun u' s => by
    rw [eF]
    unfold uLeave
    by_cases e : u' = u
    · subst e
      simp only [xup_app, true_and, if_true]
    · simp only [xup_app, e, false_and, and_false, if_false]
  have ht : ∀ t : Nat, ¬ t = 14 → F' t = F t := fun t a => by rw [eF]; unfold uLeave; simp only [xup_tag a]
  have e1 := ht 1 (by decide)
  have hn : ∀ u' s : Int, ¬ u' = u → F' 14 f u' s = F 14 f u' s := fun u' s a => by rw [hv, if_neg a]
  have vu : ∀ s : Int, F' 14 f u s = (if s = 8 then -1 else if s = 7 then 0 else if s = 6 then 0 else if s = 3 then 0 else if s = 2 then 0 else if s = 0 then st else F 14 f u s) := fun s => by rw [hv, if_pos rfl]
  have v0 : F' 14 f u 0 = st := by rw [vu]; rfl
  have v1 : F' 14 f u 1 = F 14 f u 1 := by rw [vu]; rfl
  have v2 : F' 14 f u 2 = 0 := by rw [vu]; rfl
  have v3 : F' 14 f u 3 = 0 := by rw [vu]; rfl
  have v6 : F' 14 f u 6 = 0 := by rw [vu]; rfl
  have v7 : F' 14 f u 7 = 0 := by rw [vu]; rfl
  have v8 : F' 14 f u 8 = -1 := by rw [vu]; rfl
  have v9 : F' 14 f u 9 = F 14 f u 9 := by rw [vu]; rfl
  have v10 : F' 14 f u 10 = F 14 f u 10 := by rw [vu]; rfl
  have v11 : F' 14 f u 11 = F 14 f u 11 := by rw [vu]; rfl
  refine GZ_U h (fun t a _ => ht t a) (fun s _ => by rw [e1]) hn (fun m a b => sup_ne (by omega)) h0.1 (by omega) (sup_in h.1 (fun _ => hst.2)) (gT_u h.2.2.2.1 (fun t a _ => ht t a) (fun s _ => by rw [e1]) hn h0.1 h0.2 (sup_ne (by omega)) (by rw [sup_ne (by omega), v9]; omega) (sup_ne (by omega)) (by rw [sup_ne (by omega), e1]; omega) (by rw [sup_ne (by omega), v11]; omega) (by rw [sup_ne (by omega), v10]; omega)) ?_
  unfold gU1 gW1
  rw [e1, v0, v1, v2, v3, v6, v7, v8, v9, v10, v11, sup_eq, sup_ne (by omega), sup_ne (by omega), sup_ne (by omega), sup_ne (by omega)]
  exact ⟨fun _ => ⟨rfl, ep, e9, e10, e11, epl, fun q => absurd q hst.1, fun _ => ⟨rfl, rfl, rfl, rfl, rfl⟩⟩, fun q => by omega⟩
/-- the people that leave a unit -/
theorem GZ_less {F : XM} {f u n g : Int} {z : Int → Int} (h : GZ 60 F f z) (hC : fC F f) (h0 : 0 ≤ u ∧ u < F 1 f 0 10) (hs : F 14 f u 0 = 0) (hp : 1 ≤ F 14 f u 2 - n ∧ XInR (F 14 f u 2 - n) ∧ XInR (F 14 f u 3 - g)) : GZ 60 (xup (xup F 14 f u 2 (F 14 f u 2 - n)) 14 f u 3 (F 14 f u 3 - g)) f (sup (sup z (73 + 12 * u + 2) (z (73 + 12 * u + 2) - n)) (73 + 12 * u + 3) (z (73 + 12 * u + 3) - g)) := by
  have c10 := hC.2.2.2.1
  obtain ⟨e0, ep, e9, e10, e11, epl, ew, -⟩ := (h.2.2.2.2.2.2.2.1 u h0.1 (by omega)).1 h0.2
  obtain ⟨es, e30, ep1, ei, ec⟩ := ew hs
  rw [es 2 (by decide) (by decide), es 3 (by decide) (by decide)]
  obtain ⟨F', eF⟩ : ∃ F' : XM, F' = xup (xup F 14 f u 2 (F 14 f u 2 - n)) 14 f u 3 (F 14 f u 3 - g) := ⟨_, rfl⟩
  rw [← eF]
  have hv : ∀ u' s : Int, F' 14 f u' s = if u' = u ∧ s = 3 then F 14 f u 3 - g else if u' = u ∧ s = 2 then F 14 f u 2 - n else F 14 f u' s := fun u' s => by
    rw [eF]
    simp only [xup_app, true_and]
  have ht : ∀ t : Nat, ¬ t = 14 → F' t = F t := fun t a => by rw [eF]; simp only [xup_tag a]
  have e1 := ht 1 (by decide)
  have hn : ∀ u' s : Int, ¬ u' = u → F' 14 f u' s = F 14 f u' s := fun u' s a => by rw [hv, if_neg (fun q => a q.1), if_neg (fun q => a q.1)]
  have v3 : F' 14 f u 3 = F 14 f u 3 - g := by rw [hv, if_pos ⟨rfl, rfl⟩]
  have v2 : F' 14 f u 2 = F 14 f u 2 - n := by rw [hv, if_neg (fun q => absurd q.2 (by decide)), if_pos ⟨rfl, rfl⟩]
  have vn : ∀ s : Int, ¬ s = 3 → ¬ s = 2 → F' 14 f u s = F 14 f u s := fun s a b => by rw [hv, if_neg (fun q => a q.2), if_neg (fun q => b q.2)]
  refine GZ_U h (fun t a _ => ht t a) (fun s _ => by rw [e1]) hn (fun m a b => by rw [sup_ne (by omega), sup_ne (by omega)]) h0.1 (by omega) (sup_in (sup_in h.1 (fun _ => hp.2.1)) (fun _ => hp.2.2)) (gT_u h.2.2.2.1 (fun t a _ => ht t a) (fun s _ => by rw [e1]) hn h0.1 h0.2 (by rw [sup_ne (by omega), sup_ne (by omega)]) (by rw [sup_ne (by omega), sup_ne (by omega), vn 9 (by decide) (by decide)]; omega) (by rw [sup_ne (by omega), sup_ne (by omega)]) (by rw [sup_ne (by omega), sup_ne (by omega), e1]; omega) (by rw [sup_ne (by omega), sup_ne (by omega), vn 11 (by decide) (by decide)]; omega) (by rw [sup_ne (by omega), sup_ne (by omega), vn 10 (by decide) (by decide)]; omega)) ?_
  have zn : ∀ m : Int, ¬ m = 73 + 12 * u + 2 → ¬ m = 73 + 12 * u + 3 → sup (sup z (73 + 12 * u + 2) (F 14 f u 2 - n)) (73 + 12 * u + 3) (F 14 f u 3 - g) m = z m := fun m a b => by rw [sup_ne b, sup_ne a]
  unfold gU1 gW1
  rw [e1, v2, vn 0 (by decide) (by decide), vn 1 (by decide) (by decide), vn 5 (by decide) (by decide), vn 6 (by decide) (by decide), vn 7 (by decide) (by decide), vn 8 (by decide) (by decide), vn 9 (by decide) (by decide), vn 10 (by decide) (by decide), vn 11 (by decide) (by decide), zn (73 + 12 * u + 0) (by omega) (by omega), zn (73 + 12 * u + 1) (by omega) (by omega), zn (73 + 12 * u + 9) (by omega) (by omega), zn (73 + 12 * u + 10) (by omega) (by omega), zn (73 + 12 * u + 11) (by omega) (by omega)]
  refine ⟨fun _ => ⟨e0, ep, e9, e10, e11, epl, fun _ => ⟨fun s p q => ?_, e30, hp.1, ei, ec⟩, fun q => absurd hs q⟩, fun q => by omega⟩
  by_cases a : s = 3
  · subst a
    rw [sup_eq, v3]
  · by_cases b : s = 2
    · subst b
      rw [sup_ne (by omega), sup_eq, v2]
    · rw [zn _ (by omega) (by omega), vn s a b]
      exact es s p q
end XRh

