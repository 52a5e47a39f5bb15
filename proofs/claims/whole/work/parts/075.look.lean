section XRn
/-! looking ahead: the class on its film 1, the reference by the same film as its ghost -/
theorem copy_0 (M : XM) (t : Nat) : rcp pF M 1 0 t 0 = M t 0 := by
  funext k s
  exact rcp_0 M t k s
theorem laF_0 (M : XM) (n : Int) (t : Nat) : laF M n t 0 = M t 0 := by
  unfold laF
  rw [(itP_lo 1 n.toNat (rcp pF M 1 0)).1 t 0 (by decide)]
  exact copy_0 M t
theorem totals_FEq {F F' : XM} {f f' : Int} (e : FEq F' f' F f) (hC : fC F f) : tX0_served F' f' = tX0_served F f ∧ tX0_thrown F' f' = tX0_thrown F f ∧ tX0_penalties F' f' = tX0_penalties F f := by
  have hc := fC_cnt hC
  have e6 := e 1 0 6 (by decide)
  have e8 := e 1 0 8 (by decide)
  have e10 := e 1 0 10 (by decide)
  refine ⟨?_, ?_, ?_⟩
  · unfold tX0_served
    rw [e10]
    exact sf_congr _ _ fun x a b => by unfold nserved; exact e 14 x 9 (pF_t14 a (by omega) (by decide) (by decide))
  · unfold tX0_thrown
    rw [e6, e8]
    exact congr (congrArg _ (sf_congr _ _ fun x a b => by unfold nthrownK; exact e 8 x 6 (pF_t8 a (by omega) (by decide)))) (sf_congr _ _ fun x a b => by unfold nthrownL; exact e 13 x 5 (pF_t13 a (by omega) (by decide)))
  · unfold tX0_penalties
    rw [e10]
    exact sf_congr _ _ fun x a b => by unfold npenalties; exact e 14 x 10 (pF_t14 a (by omega) (by decide) (by decide))
theorem totals_0 {F F' : XM} (h : ∀ t : Nat, F' t 0 = F t 0) (hC : fC F 0) : tX0_served F' 0 = tX0_served F 0 ∧ tX0_thrown F' 0 = tX0_thrown F 0 ∧ tX0_penalties F' 0 = tX0_penalties F 0 := totals_FEq (fun t k s _ => by rw [h t]) hC
theorem wdV_fcF {M : XM} {n w : Int} (hC : fC M 0) (hw : 0 ≤ w ∧ w ≤ 3) : wdV (rcp pF M 1 0) 1 n.toNat w = fcF (laF M n) w := by
  have e := totals_FEq (FEq_rcp M 1 0) hC
  have l := totals_0 (laF_0 M n) hC
  unfold wdV fcF
  rw [e.1, e.2.1, e.2.2, l.1, l.2.1, l.2.2]
  rcases (show w = 0 ∨ w = 1 ∨ w = 2 ∨ w = 3 by omega) with rfl | rfl | rfl | rfl <;> rfl
theorem lgU_lgR {P : Int → Int} {F : XM} : ∀ (n : Nat) (u lo : Int), (∀ v : Int, u ≤ v → v < u + n → P v = F 14 0 v 10) → lgU F n u lo = lgR P F 1 n u lo
  | 0, _, _, _ => rfl
  | n + 1, u, lo, h => by
    simp only [lgU, lgR]
    rw [h u (by omega) (by omega)]
    have ih := fun lo => lgU_lgR (P := P) (F := F) n (u + 1) lo (fun v a b => h v (by omega) (by omega))
    split
    · exact ih _
    · exact ih _
theorem lgF_goL {P : Int → Int} : ∀ (n : Nat) (F : XM) (lo : Int), 0 < F 2 0 0 2 → (∀ v : Int, 0 ≤ v → v < F 1 0 0 10 → P v = F 14 0 v 10) → F 1 1 0 10 = F 1 0 0 10 → 0 ≤ F 1 0 0 10 → (lgF n F lo).2 = goL P 1 n F lo
  | 0, _, _, _, _, _, _ => rfl
  | n + 1, F, lo, hp, hP, hc, h0 => by
    have hx := xLo_pass F 1
    have e0 := fun t => hx.1 t 0 (by decide)
    simp only [lgF, goL]
    rw [if_pos hp, lgU_lgR (P := P) (F := fPass F 1) (F 1 0 0 10).toNat 0 lo (fun v a b => by rw [e0]; exact hP v a (by omega)), hc]
    refine lgF_goL n (fPass F 1) _ (by rw [e0]; exact hp) (fun v a b => ?_) ?_ (by rw [e0]; exact h0)
    · rw [e0] at b ⊢
      exact hP v a b
    · rw [fPass_10 _ _ _ (by decide) (by decide), e0]
      exact hc
theorem lgF_0 {n : Nat} {F : XM} {lo : Int} (h : F 2 0 0 2 = 0) : (lgF n F lo).2 = lo := by
  cases n with
  | zero => rfl
  | succ n =>
    simp only [lgF]
    rw [if_neg (by omega)]
theorem egV_grc {M : XM} {n : Int} (hC : fC M 0) : grc (rcp pF M 1 0) 1 n.toNat = egV M n := by
  have e := FEq_rcp M 1 0
  have e2 := e 2 0 2 (by decide)
  have e10 := e 1 0 10 (by decide)
  have c10 := hC.2.2.2.1
  have p2 := hC.2.2.2.2.2.2.2.1
  have d2 : rcp pF M 1 0 2 0 0 2 = M 2 0 0 2 := by rw [copy_0]
  unfold grc egV
  rw [e2]
  by_cases hp : M 2 0 0 2 = 0
  · rw [if_pos hp, lgF_0 (by rw [d2]; exact hp)]
    rfl
  · rw [if_neg hp, lgF_goL (P := fun u => rcp pF M 1 0 14 1 u 10) n.toNat (rcp pF M 1 0) 0 (by rw [d2]; omega) (fun v a b => by
      rw [copy_0] at b ⊢
      exact e 14 v 10 (pF_t14 a (by omega) (by decide) (by decide))) (by rw [e10, copy_0]) (by rw [copy_0]; omega)]
    by_cases g : 120 < goL (fun u => rcp pF M 1 0 14 1 u 10) 1 n.toNat (rcp pF M 1 0) 0
    · rw [if_pos g, if_neg (by omega)]
    · rw [if_neg g, if_pos (by omega)]
/-- the row that is film 0 is the copy too -/
theorem GZ_copy {M : XM} {z : Int → Int} (h : GZ 60 M 0 z) (hC : fC M 0) : GZ 60 (rcp pF M 1 0) 1 z := GZ_F h (FEq_rcp M 1 0) hC
end XRn

