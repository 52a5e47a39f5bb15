section XGr
/-! keys and slots -/
theorem kx_st {t st x : Int} (hs : 0 ≤ st ∧ st < 8) (h0 : 0 ≤ x) (h1 : x < 192) : kx t st x % 8 = st ∧ kx t st x / 8 % 4 = x / 64 ∧ kx t st x / 32 = t - (t - x) % 64 := by
  unfold kx
  omega
theorem kx_mS {t st d m : Int} (hs : 0 ≤ st ∧ st < 8) (h0 : 0 ≤ d) (h1 : d < 3) (hm : t - 63 ≤ m) (hm2 : m ≤ t) : kx t st (mS d m) = st + 8 * d + 32 * m := by
  unfold kx mS
  omega
theorem kx_inj {t st x y : Int} (hs : 0 ≤ st ∧ st < 8) (h0 : 0 ≤ x) (h1 : x < 192) (g0 : 0 ≤ y) (g1 : y < 192) (e : kx t st x = kx t st y) : x = y := by
  have a := kx_st (t := t) hs h0 h1
  have b := kx_st (t := t) hs g0 g1
  rw [e] at a
  have e1 : x / 64 = y / 64 := a.2.1.symm.trans b.2.1
  have e2 : (t - x) % 64 = (t - y) % 64 := by
    have := a.2.2.symm.trans b.2.2
    omega
  clear a b e
  omega
/-- the kinds of dishes, as bits -/
def mdk (meat ds : Int) : Prop := meat = 0 ∧ ds = 5 ∨ meat = 1 ∧ ds = 2
def kin (meat d : Int) : Prop := if meat = 0 then d = 0 ∨ d = 2 else d = 1
theorem fMt_kin {meat ds st q : Int} (h : mdk meat ds) : fMt st ds q ↔ q % 8 = st ∧ kin meat (q / 8 % 4) := by
  unfold fMt bD kin
  have hd : q / 8 % 4 = 0 ∨ q / 8 % 4 = 1 ∨ q / 8 % 4 = 2 ∨ q / 8 % 4 = 3 := by omega
  rcases h with ⟨rfl, rfl⟩ | ⟨rfl, rfl⟩ <;> rcases hd with e | e | e | e <;> rw [e] <;> simp
theorem ag_mem {meat t : Int} (hm : meat = 0 ∨ meat = 1) : ∀ (n : Nat) (x : Int), x ∈ agL (dkL meat) t n ↔ ∃ d m : Int, kin meat d ∧ t - n < m ∧ m ≤ t ∧ x = mS d m
  | 0, x => by
    simp only [agL]
    constructor
    · intro h
      exact absurd h List.not_mem_nil
    · rintro ⟨d, m, -, a, b, -⟩
      omega
  | n + 1, x => by
    simp only [agL, List.mem_append]
    rw [ag_mem hm n x]
    constructor
    · rintro (h | ⟨d, m, a, b, c, e⟩)
      · unfold dkL at h
        rcases hm with rfl | rfl
        · rw [if_pos rfl] at h
          simp only [List.mem_cons, List.not_mem_nil, or_false] at h
          rcases h with e | e
          · exact ⟨0, t - n, by unfold kin; simp, by omega, by omega, e⟩
          · exact ⟨2, t - n, by unfold kin; simp, by omega, by omega, e⟩
        · rw [if_neg (by decide)] at h
          simp only [List.mem_cons, List.not_mem_nil, or_false] at h
          exact ⟨1, t - n, by unfold kin; simp, by omega, by omega, h⟩
      · exact ⟨d, m, a, by omega, c, e⟩
    · rintro ⟨d, m, a, b, c, e⟩
      by_cases em : m = t - n
      · left
        subst em
        unfold dkL
        unfold kin at a
        rcases hm with rfl | rfl
        · rw [if_pos rfl] at a ⊢
          simp only [List.mem_cons, List.not_mem_nil, or_false]
          rcases a with rfl | rfl
          · exact Or.inl e
          · exact Or.inr e
        · rw [if_neg (by decide)] at a ⊢
          simp only [List.mem_cons, List.not_mem_nil, or_false]
          rw [e, a]
      · exact Or.inr ⟨d, m, a, by omega, c, e⟩
theorem kin_3 {meat d : Int} (h : kin meat d) : 0 ≤ d ∧ d < 3 := by
  unfold kin at h
  split at h <;> omega
theorem ag_sorted {meat t st : Int} (hm : meat = 0 ∨ meat = 1) (hs : 0 ≤ st ∧ st < 8) : ∀ n : Nat, n ≤ 64 → (agL (dkL meat) t n).Pairwise (fun x y => kx t st x < kx t st y)
  | 0, _ => List.Pairwise.nil
  | n + 1, hn => by
    simp only [agL]
    refine List.pairwise_append.mpr ⟨?_, ag_sorted hm hs n (by omega), fun x hx y hy => ?_⟩
    · unfold dkL
      split
      · refine List.Pairwise.cons (fun y hy => ?_) (List.Pairwise.cons (fun y hy => absurd hy List.not_mem_nil) List.Pairwise.nil)
        simp only [List.mem_cons, List.not_mem_nil, or_false] at hy
        rw [hy, kx_mS hs (by decide) (by decide) (by omega) (by omega), kx_mS hs (by decide) (by decide) (by omega) (by omega)]
        omega
      · exact List.Pairwise.cons (fun y hy => absurd hy List.not_mem_nil) List.Pairwise.nil
    · have hx' : x ∈ agL (dkL meat) t (n + 1) := by
        simp only [agL, List.mem_append]
        exact Or.inl hx
      obtain ⟨d2, m2, a2, b2, c2, e2⟩ := (ag_mem hm n y).mp hy
      have hd2 := kin_3 a2
      have ex : ∃ d : Int, (0 ≤ d ∧ d < 3) ∧ x = mS d (t - n) := by
        unfold dkL at hx
        split at hx
        · simp only [List.mem_cons, List.not_mem_nil, or_false] at hx
          rcases hx with e | e
          · exact ⟨0, by decide, e⟩
          · exact ⟨2, by decide, e⟩
        · simp only [List.mem_cons, List.not_mem_nil, or_false] at hx
          exact ⟨1, by decide, hx⟩
      obtain ⟨d, hd, e⟩ := ex
      rw [e, e2, kx_mS hs hd.1 hd.2 (by omega) (by omega), kx_mS hs hd2.1 hd2.2 (by omega) (by omega)]
      omega
theorem mS_192 {d m : Int} (h0 : 0 ≤ d) (h1 : d < 3) : 0 ≤ mS d m ∧ mS d m < 192 := mS_in h0 (by omega)
/-- all of the kind stand in the list -/
theorem ag_cov {meat ds t st w : Int} {F : Int → Int} (hk : mdk meat ds) (hw : SRw w t F) (hw63 : w ≤ 63) (hs : 0 ≤ st ∧ st < 8) : ∀ q : Int, fMt st ds q → ¬ F q = 0 → ∃ x ∈ agL (dkL meat) t 64, kx t st x = q := fun q hq hF => by
  obtain ⟨q1, q2⟩ := (fMt_kin hk).mp hq
  obtain ⟨-, -, q3, q4⟩ := hw q hF
  have hd := kin_3 q2
  refine ⟨mS (q / 8 % 4) (q / 32), (ag_mem (by rcases hk with z | z <;> omega) 64 _).mpr ⟨q / 8 % 4, q / 32, q2, by omega, q4, rfl⟩, ?_⟩
  rw [kx_mS hs hd.1 hd.2 (by omega) q4]
  omega
theorem ag_192 {meat t : Int} (hm : meat = 0 ∨ meat = 1) : ∀ x ∈ agL (dkL meat) t 64, 0 ≤ x ∧ x < 192 := fun x hx => by
  obtain ⟨d, m, a, -, -, e⟩ := (ag_mem hm 64 x).mp hx
  have := kin_3 a
  rw [e]
  exact mS_192 this.1 this.2
theorem ag_fMt {meat ds t st : Int} (hk : mdk meat ds) (hs : 0 ≤ st ∧ st < 8) : ∀ x ∈ agL (dkL meat) t 64, fMt st ds (kx t st x) := fun x hx => by
  obtain ⟨d, m, a, b, c, e⟩ := (ag_mem (by rcases hk with z | z <;> omega) 64 x).mp hx
  have hd := kin_3 a
  rw [fMt_kin hk, e, kx_mS hs hd.1 hd.2 (by omega) (by omega)]
  have e1 : (st + 8 * d + 32 * m) / 8 % 4 = d := by omega
  rw [e1]
  exact ⟨by omega, a⟩
/-- a store's slots and its keys, after some are taken -/
theorem SR_sup {t st : Int} {S F : Int → Int} (hs : 0 ≤ st ∧ st < 8) (h : ∀ x : Int, 0 ≤ x → x < 192 → S x = F (kx t st x)) {x v : Int} (h0 : 0 ≤ x) (h1 : x < 192) : ∀ y : Int, 0 ≤ y → y < 192 → sup S x v y = sup F (kx t st x) v (kx t st y) := fun y g0 g1 => by
  simp only [sup_at]
  by_cases e : y = x
  · rw [if_pos e, if_pos (by rw [e])]
  · rw [if_neg e, if_neg (fun z => e (kx_inj hs g0 g1 h0 h1 z))]
    exact h y g0 g1
end XGr

