section XLe
/-! the two digests are one number -/
theorem hL_off {f g : Int → Int} : ∀ (n : Nat) (a b h : Int), (∀ x : Int, 0 ≤ x → x < n → f (a + x) = g (b + x)) → hL f a n h = hL g b n h
  | 0, _, _, _, _ => rfl
  | n + 1, a, b, h, e => by
    simp only [hL]
    have e0 := e 0 (Int.le_refl 0) (by omega)
    rw [Int.add_zero, Int.add_zero] at e0
    rw [e0]
    exact hL_off n (a + 1) (b + 1) _ (fun x p q => by
      have r := e (x + 1) (by omega) (by omega)
      rw [show a + 1 + x = a + (x + 1) by omega, show b + 1 + x = b + (x + 1) by omega]
      exact r)
theorem hL_add {f : Int → Int} (m : Nat) : ∀ (n : Nat) (a h : Int), hL f a (n + m) h = hL f (a + n) m (hL f a n h)
  | 0, a, h => by
    have e : a + ((0 : Nat) : Int) = a := by omega
    rw [Nat.zero_add, e]
    rfl
  | n + 1, a, h => by
    rw [show n + 1 + m = (n + m) + 1 by omega]
    simp only [hL]
    rw [hL_add m n (a + 1), show a + 1 + (n : Int) = a + ((n + 1 : Nat) : Int) by omega]
theorem hLo_flat {M : XM} : ∀ (n : Nat) (p h : Int), hLo M 0 n p h = hL (fun k => lProp M 0 (k / 9) (k % 9) (M 1 0 0 0)) (9 * p) (9 * n) h
  | 0, _, _ => rfl
  | n + 1, p, h => by
    simp only [hLo]
    rw [hLo_flat n (p + 1) _, show 9 * (n + 1) = 9 + 9 * n by omega, hL_add (9 * n) 9 (9 * p) h, show 9 * p + ((9 : Nat) : Int) = 9 * (p + 1) by omega]
    refine congrArg (hL _ _ _) (hL_off 9 0 (9 * p) h (fun x a b => ?_))
    show lProp M 0 p (0 + x) (M 1 0 0 0) = lProp M 0 ((9 * p + x) / 9) ((9 * p + x) % 9) (M 1 0 0 0)
    rw [show (9 * p + x) / 9 = p by omega, show (9 * p + x) % 9 = x by omega, Int.zero_add]
theorem hPl_flat {M : XM} : ∀ (n : Nat) (p h : Int), hPl M n p h = hL (fun k => plG M 0 (k / 7) (k % 7)) (7 * p) (7 * n) h
  | 0, _, _ => rfl
  | n + 1, p, h => by
    simp only [hPl]
    rw [hPl_flat n (p + 1) _, show 7 * (n + 1) = 7 + 7 * n by omega, hL_add (7 * n) 7 (7 * p) h, show 7 * p + ((7 : Nat) : Int) = 7 * (p + 1) by omega]
    refine congrArg (hL _ _ _) (hL_off 7 0 (7 * p) h (fun x a b => ?_))
    show plF M p (0 + x) = plG M 0 ((7 * p + x) / 7) ((7 * p + x) % 7)
    rw [show (7 * p + x) / 7 = p by omega, show (7 * p + x) % 7 = x by omega, Int.zero_add]
    rfl
theorem ci_la {M N : XM} (e : ∀ t : Nat, N t 0 = M t 0) (w : Int) : ciF N 120 w = ciG M 0 120 w := by
  unfold ciF ciG cuF cuG uCalls
  simp only [e]
theorem RR_f1 {M N : XM} (h : RR M) (e : f1O M N) : RR N := by
  have e21 := e.2 21 (by omega)
  have e20 := e.2 20 (by omega)
  exact RR_ir h (fun t i _ _ c => e.1 t i c) (e.2 0 (by omega)) (e.2 15 (by omega)) (e.2 17 (by omega)) (by rw [e20]) (by rw [e20]) (by rw [e21]; exact h.2.1.1) (fun q _ _ => by rw [e21]) (e.2 22 (by omega)) (e.2 23 (by omega))
theorem dg_L {M : XM} (h : RR M) : msV M 0 (hUn M 0 (M 1 0 0 10).toNat 0 (hL (fun k => plG M 0 (k / 7) (k % 7)) 0 (7 * M 1 0 0 3).toNat (hL (fun s => M 2 0 0 s) 0 6 (hL (ctG M 0 (M 15 0 0 2)) 0 17 2389)))) = dgL M := by
  have c := KI_fC h.1 (Or.inl rfl) (by decide)
  have c3 := c.1
  have c8 := c.2.2.1
  unfold msV dgL
  rw [hLo_flat, hPl_flat, show (9 * M 1 0 0 8).toNat = 9 * (M 1 0 0 8).toNat by omega, show (7 * M 1 0 0 3).toNat = 7 * (M 1 0 0 3).toNat by omega]
  rfl
theorem dgO_f1 (M : XM) : f1O M (dgO M) := f1O_trans (f1O_laF M 30) (f1O_egM (laF M 30) 20)
theorem dg_T {M : XM} (h : RR M) (y : Int) : dgT M 0 (rcp pF (laF M 30) 1 0) 1 y (M 0 0 0 5) = dgH y (dgN M) (dgO M) := by
  have e := dgO_f1 M
  have eN : ∀ t : Nat, dgN M t 0 = M t 0 := fun t => laF_0 M 30 t
  have hN := RR_f1 h (f1O_laF M 30)
  have eO : ∀ t : Nat, dgO M t 0 = M t 0 := fun t => e.1 t 0 (by decide)
  have s := (totals_0 eO (KI_fC h.1 (Or.inl rfl) (by decide))).1
  have g : grc (rcp pF (laF M 30) 1 0) 1 (20 : Int).toNat = egV (laF M 30) 20 := egV_grc (KI_fC hN.1 (Or.inl rfl) (by decide))
  unfold dgT dgH
  rw [ci_la eN, ci_la eN, g, s, eO 1, e.2 0 (by omega)]
  rfl
theorem dg_is {M : XM} (h : RR M) : dgG M 0 (rcp pF M 1 0) 1 (rcp pF (laF M 30) 1 0) 1 (dgO M) = dgF M := by
  have e := dgO_f1 M
  have hl := h.1.2.2.2.1
  have o3 : dgO M 20 0 0 3 = M 0 0 0 5 := by rw [e.2 20 (by omega)]; exact h.2.2.2.1
  have o1 : dgO M 20 0 0 1 = M 15 0 0 2 := by rw [e.2 20 (by omega)]; exact h.2.2.1.1
  have o0 : dgO M 0 0 0 5 = M 0 0 0 5 := by rw [e.2 0 (by omega)]
  unfold dgG dgF
  rw [o3, o1, o0, dg_L h, dg_T h, hL_congr (f := wdV (rcp pF M 1 0) 1 (30 : Int).toNat) (g := fcF (dgN M)) 4 0 (dgL M) (fun w a b => wdV_fcF (n := 30) (KI_fC h.1 (Or.inl rfl) (by decide)) ⟨a, by omega⟩)]
  refine hL_congr _ 0 _ (fun j a b => ?_)
  show dgO M 23 0 0 j = dgO M 17 0 0 j
  rw [e.2 23 (by omega), e.2 17 (by omega)]
  exact h.2.2.2.2 j a (by omega)
theorem lc_digest {M : XM} {Z : Int → XPo} {Y : XPo} (hY : ∀ (rv : List XV) (N : XM), LJ (fun N => sX8_digest [xR 20 0 0] N) Z rv N → Y rv N) (hZ : ∀ (a : Int) (N : XM), RR N → Z a [xJ a] N) (h : RR M) : sX7_digest [xR 0 0 0] M Y := by
  have e := dgO_f1 M
  have hN := RR_f1 h (f1O_laF M 30)
  have hO := RR_f1 h e
  have hl := h.1.2.2.2.1
  have o3 : dgO M 20 0 0 3 = M 0 0 0 5 := by rw [e.2 20 (by omega)]; exact h.2.2.2.1
  refine @id ((0 = 0 ∧ xval 0 0 0) ∧ KI M ∧ ivOK M ∧ Y [xJ (dgF M)] (dgO M)) ⟨⟨rfl, xvz_0⟩, h.1, RR_iv h, hY _ _ ⟨dgF M, rfl, ?_⟩⟩
  refine @id ((20 = 20 ∧ xval 20 0 0) ∧ ∃ (F : XM) (f : Int) (F2 : XM) (f2 : Int) (F3 : XM) (f3 : Int), RB F f (dgO M) ∧ RB F2 f2 (dgO M) ∧ RB F3 f3 (dgO M) ∧ (0 ≤ dgO M 20 0 0 3 ∧ dgO M 20 0 0 3 ≤ 60) ∧ ∀ M' : XM, lookD F f (dgO M) M' → Z (dgF M) [xJ (dgG F f F2 f2 F3 f3 (dgO M))] M') ⟨⟨rfl, xvz_20⟩, M, 0, rcp pF M 1 0, 1, rcp pF (laF M 30) 1 0, 1, RB_s2 h (e.2 20 (by omega)) (e.2 21 (by omega)), RB_look h (e.2 20 (by omega)) (e.2 21 (by omega)), RB_look hN ((f1O_egM (laF M 30) 20).2 20 (by omega)) ((f1O_egM (laF M 30) 20).2 21 (by omega)), by rw [o3]; exact hl, fun M' s => ?_⟩
  rw [dg_is h]
  refine hZ _ _ ?_
  obtain ⟨s1, s2, -, s4, s5⟩ := s
  have lo : ∀ t : Nat, ¬ t = 20 → ¬ t = 21 → ¬ t = 25 → M' t = dgO M t := s1
  exact RR_ir hO (fun t i a _ _ => by rw [lo t (by omega) (by omega) (by omega)]) (lo 0 (by decide) (by decide) (by decide)) (lo 15 (by decide) (by decide) (by decide)) (lo 17 (by decide) (by decide) (by decide)) (s2 1 (by decide) (by decide) (by decide) (by decide)) (s2 3 (by decide) (by decide) (by decide) (by decide)) s5.1 s4 (lo 22 (by decide) (by decide) (by decide)) (lo 23 (by decide) (by decide) (by decide))
end XLe

