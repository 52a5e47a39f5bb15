section XFi
theorem xk1 {i k : Int} (h : xval 1 i k) : k = 0 := by have h1 := h.2.2.1; have h2 := h.2.2.2; simp only [xvk] at h2; omega
theorem xv_film {i k : Int} (h : xval 1 i k) : 0 ≤ i ∧ i < 8 := ⟨h.1, h.2.1⟩
theorem xv_of8 {i k : Int} (h : 0 ≤ i ∧ i < 8) (h0 : 0 ≤ k) (h1 : k < 3) : xval 8 i k := ⟨h.1, h.2, h0, h1⟩
theorem xv_of10 {i k : Int} (h : 0 ≤ i ∧ i < 8) (h0 : 0 ≤ k) (h1 : k < 7) : xval 10 i k := ⟨h.1, h.2, h0, h1⟩
theorem xv_of13 {i k : Int} (h : 0 ≤ i ∧ i < 8) (h0 : 0 ≤ k) (h1 : k < 4) : xval 13 i k := ⟨h.1, h.2, h0, h1⟩
theorem xv_of14 {i k : Int} (h : 0 ≤ i ∧ i < 8) (h0 : 0 ≤ k) (h1 : k < 12) : xval 14 i k := ⟨h.1, h.2, h0, h1⟩
/-- sums from the front -/
def sf (f : Int → Int) (u : Int) : Nat → Int
  | 0 => 0
  | n + 1 => f u + sf f (u + 1) n
theorem sm_cons (f : Int → Int) (a : Int) : ∀ n : Nat, sm f a (n + 1) = f a + sm f (a + 1) n
  | 0 => by simp [sm]
  | n + 1 => by
    have e : a + ((n + 1 : Nat) : Int) = a + 1 + (n : Int) := by omega
    rw [sm, sm_cons f a n, sm, e]
    omega
theorem sf_sm (f : Int → Int) : ∀ (n : Nat) (a : Int), sf f a n = sm f a n
  | 0, _ => rfl
  | n + 1, a => by rw [sm_cons, sf, sf_sm f n (a + 1)]
/-- the film's own numbers -/
def fC (M : XM) (i : Int) : Prop :=
  (0 ≤ M 1 i 0 3 ∧ M 1 i 0 3 ≤ 8) ∧ (0 ≤ M 1 i 0 6 ∧ M 1 i 0 6 ≤ 3) ∧ (0 ≤ M 1 i 0 8 ∧ M 1 i 0 8 ≤ 4) ∧ (0 ≤ M 1 i 0 10 ∧ M 1 i 0 10 ≤ 12) ∧ (0 ≤ M 1 i 0 0 ∧ M 1 i 0 0 ≤ 30000) ∧
  (1 ≤ M 2 i 0 0 ∧ M 2 i 0 0 ≤ 50) ∧ (0 ≤ M 2 i 0 1 ∧ M 2 i 0 1 ≤ 120) ∧ (0 ≤ M 2 i 0 2 ∧ M 2 i 0 2 ≤ 20) ∧ (5 ≤ M 2 i 0 3 ∧ M 2 i 0 3 ≤ 60) ∧ (1 ≤ M 2 i 0 4 ∧ M 2 i 0 4 ≤ 20) ∧ (10 ≤ M 2 i 0 5 ∧ M 2 i 0 5 ≤ 500) ∧
  ∀ p : Int, 0 ≤ p → p < 8 → (0 ≤ M 3 i 0 p ∧ M 3 i 0 p ≤ 99) ∧ (0 ≤ M 4 i 0 p ∧ M 4 i 0 p ≤ 99)
/-- its meals: of each slot no more than b in all stores -/
def fS (b : Int) (M : XM) (i : Int) : Prop :=
  (∀ j : Int, 0 ≤ j → j < 7 → mI M i j ∧ ∀ x : Int, 0 ≤ x → x < 192 → 0 ≤ M 11 i j x) ∧ ∀ x : Int, 0 ≤ x → x < 192 → sm (fun j => M 11 i j x) 0 7 ≤ b
def fK (M : XM) (i : Int) : Prop :=
  ∀ k : Int, 0 ≤ k → k < 3 → (0 ≤ M 8 i k 0 ∧ M 8 i k 0 < 8) ∧ kSt M i k ∧ (-1 ≤ M 8 i k 2 ∧ M 8 i k 2 ≤ 2) ∧ (0 ≤ M 8 i k 3 ∧ M 8 i k 3 ≤ 300) ∧ (0 < M 8 i k 3 → 0 ≤ M 8 i k 2)
def fL (M : XM) (i : Int) : Prop :=
  ∀ l : Int, 0 ≤ l → l < 4 → (-1 ≤ M 13 i l 0 ∧ M 13 i l 0 < 8) ∧ (-1 ≤ M 13 i l 1 ∧ M 13 i l 1 < 8) ∧ (0 ≤ M 13 i l 2 ∧ M 13 i l 2 ≤ 10000) ∧ (M 13 i l 1 = -1 → M 13 i l 2 = 0) ∧ (¬ M 13 i l 1 = -1 → 1 ≤ M 13 i l 2)
/-- all that has come to be owed to a unit, and has not gone over to another one -/
def uG (M : XM) (i u : Int) : Int := M 14 i u 9 + M 14 i u 6 + M 14 i u 7 + M 14 i u 11
def fU (c : Int) (M : XM) (i : Int) : Prop :=
  (∀ u : Int, 0 ≤ u → u < 12 → (0 ≤ M 14 i u 0 ∧ M 14 i u 0 ≤ 2) ∧ (0 ≤ M 14 i u 1 ∧ M 14 i u 1 < 8) ∧ (0 ≤ M 14 i u 3 ∧ M 14 i u 3 ≤ M 14 i u 2 ∧ M 14 i u 2 ≤ 300) ∧ (0 ≤ M 14 i u 4 ∧ M 14 i u 4 ≤ 50000) ∧ (0 ≤ M 14 i u 5 ∧ M 14 i u 5 ≤ 600) ∧ (0 ≤ M 14 i u 6 ∧ 0 ≤ M 14 i u 7) ∧ (-1 ≤ M 14 i u 8 ∧ M 14 i u 8 ≤ 30000) ∧ (0 ≤ M 14 i u 9 ∧ 0 ≤ M 14 i u 11) ∧ (0 ≤ M 14 i u 10 ∧ M 14 i u 10 ≤ 100000000)) ∧
  sm (uG M i) 0 12 = M 1 i 0 1 ∧ M 1 i 0 1 ≤ c
def fI (c b : Int) (M : XM) (i : Int) : Prop := fC M i ∧ fS b M i ∧ fK M i ∧ fL M i ∧ fU c M i
abbrev fG (M : XM) (i : Int) : Prop := fI 80000000 2000000 M i
theorem fS_at {b : Int} {M : XM} {i : Int} (h : fS b M i) (hb : b ≤ 2000000) {j : Int} (h0 : 0 ≤ j) (h1 : j < 7) : mI M i j ∧ sOK (M 11 i j) := by
  refine ⟨(h.1 j h0 h1).1, fun x g0 g1 => ⟨(h.1 j h0 h1).2 x g0 g1, ?_⟩⟩
  have := h.2 x g0 g1
  have g := sm_at (S := fun j => M 11 i j x) (a := 0) (n := 7) (fun y a b => (h.1 y a (by omega)).2 x g0 g1) j h0 (by omega)
  omega
theorem fU_at {c : Int} {M : XM} {i : Int} (h : fU c M i) {u : Int} (h0 : 0 ≤ u) (h1 : u < 12) : uG M i u ≤ c := by
  have g := sm_at (S := uG M i) (a := 0) (n := 12) (fun y a b => by
    have z := h.1 y a (by omega)
    unfold uG
    omega) u h0 (by omega)
  have := h.2
  omega
theorem mAll_in {M : XM} {i j : Int} (hI : mI M i j) (hS : sOK (M 11 i j)) : XInR (mAll M i j) ∧ 0 ≤ mAll M i j ∧ mAll M i j ≤ 384000000 := by
  rw [mAll_tot hI]
  have := tot3_bd hS
  exact ⟨⟨by omega, by omega⟩, this.1, this.2⟩
def pF : Nat → Int → Int → Bool := fun t k s =>
  (t == 1 && k == 0 && (s == 0 || s == 1 || s == 3 || s == 6 || s == 8 || s == 10)) || (t == 2 && k == 0 && decide (0 ≤ s ∧ s < 6)) || (t == 3 && k == 0 && decide (0 ≤ s ∧ s < 8)) || (t == 4 && k == 0 && decide (0 ≤ s ∧ s < 8))
  || (decide (0 ≤ k ∧ k < 3) && (t == 8 && (s == 0 || s == 2 || s == 3 || s == 5 || s == 6) || t == 9 && decide (0 ≤ s ∧ s < 3)))
  || (decide (0 ≤ k ∧ k < 7) && (t == 11 && decide (0 ≤ s ∧ s < 192) || t == 12 && decide (0 ≤ s ∧ s < 3)))
  || (t == 13 && decide (0 ≤ k ∧ k < 4) && (s == 0 || s == 1 || s == 2 || s == 4 || s == 5))
  || (t == 14 && decide (0 ≤ k ∧ k < 12) && decide (0 ≤ s ∧ s < 12))
theorem fU_in {c : Int} {M : XM} {i u : Int} (h : fU c M i) (hc : c ≤ 80000000) (h0 : 0 ≤ u) (h1 : u < 12) : XInR (M 14 i u 0) ∧ XInR (M 14 i u 1) ∧ XInR (M 14 i u 2) ∧ XInR (M 14 i u 3) ∧ XInR (M 14 i u 4) ∧ XInR (M 14 i u 6 + M 14 i u 7) ∧ XInR (M 14 i u 8) ∧ XInR (M 14 i u 10) := by
  have g := h.1 u h0 h1
  have g2 := fU_at h h0 h1
  unfold uG at g2
  exact ⟨⟨by omega, by omega⟩, ⟨by omega, by omega⟩, ⟨by omega, by omega⟩, ⟨by omega, by omega⟩, ⟨by omega, by omega⟩, ⟨by omega, by omega⟩, ⟨by omega, by omega⟩, ⟨by omega, by omega⟩⟩
def nunitsAt (M : XM) (i p : Int) : Int → Int := fun u => if M 14 i u 0 = 0 ∧ M 14 i u 1 = p then 1 else 0
def tX0_unitsAt (M : XM) (i p : Int) : Int := sf (nunitsAt M i p) 0 (M 1 i 0 10).toNat
def nkitchensAt (M : XM) (i p : Int) : Int → Int := fun u => if M 8 i u 0 = p then 1 else 0
def tX0_kitchensAt (M : XM) (i p : Int) : Int := sf (nkitchensAt M i p) 0 (M 1 i 0 6).toNat
def nlorriesAt (M : XM) (i p : Int) : Int → Int := fun u => if M 13 i u 0 = p then 1 else 0
def tX0_lorriesAt (M : XM) (i p : Int) : Int := sf (nlorriesAt M i p) 0 (M 1 i 0 8).toNat
def nmealsAtK (M : XM) (i p : Int) : Int → Int := fun u => if M 8 i u 0 = p then mAll M i u else 0
def nmealsAtL (M : XM) (i p : Int) : Int → Int := fun u => if M 13 i u 0 = p then mAll M i (u + 3) else 0
def tX0_mealsAt (M : XM) (i p : Int) : Int := sf (nmealsAtK M i p) 0 (M 1 i 0 6).toNat + sf (nmealsAtL M i p) 0 (M 1 i 0 8).toNat
def nowedAt (M : XM) (i p : Int) : Int → Int := fun u => if M 14 i u 1 = p then (M 14 i u 6 + M 14 i u 7) else 0
def tX0_owedAt (M : XM) (i p : Int) : Int := sf (nowedAt M i p) 0 (M 1 i 0 10).toNat
def nworkingUnits (M : XM) (i : Int) : Int → Int := fun u => if M 14 i u 0 = 0 then 1 else 0
/-- UnitKitchens$Film.workingUnits()I -/
abbrev wX0_workingUnits : List Cond := Cond.code yX0_workingUnits cX0_workingUnits 3 (some .int) :: xT
abbrev rX0_workingUnits : Room := { frames := 0, cells := 0, slots := 0, locals := 0 }
def pX0_workingUnits (Post : XPo) : List (Nat × XStp) := [(0, j_c 0 1), (1, j_ist 1 1), (2, j_c 0 1), (3, j_ist 2 1), (4, j_ild 2 1), (5, j_ald 0 1), (6, j_gI 1 10), (9, j_ige 33), (12, j_ald 0 1), (13, j_gR 1 (fun i k => (7, i, 0))), (16, j_ild 2 1), (17, j_aald), (18, j_gI 14 0), (21, j_ne 27), (24, j_inc 1 1), (27, j_inc 2 1), (30, j_goto 4), (33, j_ild 1 1), (34, j_iret Post)]
set_option maxRecDepth 100000 in
theorem aX0_workingUnits (Post : XPo) : XAll rX0_workingUnits cX0_workingUnits 3 RX0 wX0_workingUnits (some .int) Post (pX0_workingUnits Post) := XAll.cons (xs_iconst dX0_workingUnits_0) (XAll.cons (xs_istore_n dX0_workingUnits_1 rfl (by decide)) (XAll.cons (xs_iconst dX0_workingUnits_2) (XAll.cons (xs_istore_n dX0_workingUnits_3 rfl (by decide)) (XAll.cons (xs_iload_n dX0_workingUnits_4 rfl) (XAll.cons (xs_aload_n dX0_workingUnits_5 rfl) (XAll.cons (fgX0_10 tw_210 dX0_workingUnits_6) (XAll.cons (xs_icmp_ge dX0_workingUnits_9 (by decide)) (XAll.cons (xs_aload_n dX0_workingUnits_12 rfl) (XAll.cons (fgX0_11 tw_212 dX0_workingUnits_13) (XAll.cons (xs_iload_n dX0_workingUnits_16 rfl) (XAll.cons (xs_aald dX0_workingUnits_17) (XAll.cons (fgX6_0 tw_138 dX0_workingUnits_18) (XAll.cons (xs_if_ne dX0_workingUnits_21 (by decide)) (XAll.cons (xs_iinc dX0_workingUnits_24 (by decide)) (XAll.cons (xs_iinc dX0_workingUnits_27 (by decide)) (XAll.cons (xs_goto dX0_workingUnits_30 (by decide)) (XAll.cons (xs_iload_n dX0_workingUnits_33 rfl) (XAll.cons (xs_iret rfl dX0_workingUnits_34) (XAll.nil)))))))))))))))))))
theorem fX0_workingUnits_0 (Post : XPo) (cut : List Nat) (WW : XK) (n : Nat) (L : XLs) (st : List XV) (M : XM) : xru (xlk (pX0_workingUnits Post)) cut WW (n + 1) 0 L st M = j_c 0 1 0 L st M (xkk (xlk (pX0_workingUnits Post)) cut WW n) := (rfl)
theorem fX0_workingUnits_1 (Post : XPo) (cut : List Nat) (WW : XK) (n : Nat) (L : XLs) (st : List XV) (M : XM) : xru (xlk (pX0_workingUnits Post)) cut WW (n + 1) 1 L st M = j_ist 1 1 1 L st M (xkk (xlk (pX0_workingUnits Post)) cut WW n) := (rfl)
theorem fX0_workingUnits_2 (Post : XPo) (cut : List Nat) (WW : XK) (n : Nat) (L : XLs) (st : List XV) (M : XM) : xru (xlk (pX0_workingUnits Post)) cut WW (n + 1) 2 L st M = j_c 0 1 2 L st M (xkk (xlk (pX0_workingUnits Post)) cut WW n) := (rfl)
theorem fX0_workingUnits_3 (Post : XPo) (cut : List Nat) (WW : XK) (n : Nat) (L : XLs) (st : List XV) (M : XM) : xru (xlk (pX0_workingUnits Post)) cut WW (n + 1) 3 L st M = j_ist 2 1 3 L st M (xkk (xlk (pX0_workingUnits Post)) cut WW n) := (rfl)
theorem fX0_workingUnits_4 (Post : XPo) (cut : List Nat) (WW : XK) (n : Nat) (L : XLs) (st : List XV) (M : XM) : xru (xlk (pX0_workingUnits Post)) cut WW (n + 1) 4 L st M = j_ild 2 1 4 L st M (xkk (xlk (pX0_workingUnits Post)) cut WW n) := (rfl)
theorem fX0_workingUnits_5 (Post : XPo) (cut : List Nat) (WW : XK) (n : Nat) (L : XLs) (st : List XV) (M : XM) : xru (xlk (pX0_workingUnits Post)) cut WW (n + 1) 5 L st M = j_ald 0 1 5 L st M (xkk (xlk (pX0_workingUnits Post)) cut WW n) := (rfl)
theorem fX0_workingUnits_6 (Post : XPo) (cut : List Nat) (WW : XK) (n : Nat) (L : XLs) (st : List XV) (M : XM) : xru (xlk (pX0_workingUnits Post)) cut WW (n + 1) 6 L st M = j_gI 1 10 6 L st M (xkk (xlk (pX0_workingUnits Post)) cut WW n) := (rfl)
theorem fX0_workingUnits_9 (Post : XPo) (cut : List Nat) (WW : XK) (n : Nat) (L : XLs) (st : List XV) (M : XM) : xru (xlk (pX0_workingUnits Post)) cut WW (n + 1) 9 L st M = j_ige 33 9 L st M (xkk (xlk (pX0_workingUnits Post)) cut WW n) := (rfl)
theorem fX0_workingUnits_12 (Post : XPo) (cut : List Nat) (WW : XK) (n : Nat) (L : XLs) (st : List XV) (M : XM) : xru (xlk (pX0_workingUnits Post)) cut WW (n + 1) 12 L st M = j_ald 0 1 12 L st M (xkk (xlk (pX0_workingUnits Post)) cut WW n) := (rfl)
theorem fX0_workingUnits_13 (Post : XPo) (cut : List Nat) (WW : XK) (n : Nat) (L : XLs) (st : List XV) (M : XM) : xru (xlk (pX0_workingUnits Post)) cut WW (n + 1) 13 L st M = j_gR 1 (fun i k => (7, i, 0)) 13 L st M (xkk (xlk (pX0_workingUnits Post)) cut WW n) := (rfl)
theorem fX0_workingUnits_16 (Post : XPo) (cut : List Nat) (WW : XK) (n : Nat) (L : XLs) (st : List XV) (M : XM) : xru (xlk (pX0_workingUnits Post)) cut WW (n + 1) 16 L st M = j_ild 2 1 16 L st M (xkk (xlk (pX0_workingUnits Post)) cut WW n) := (rfl)
theorem fX0_workingUnits_17 (Post : XPo) (cut : List Nat) (WW : XK) (n : Nat) (L : XLs) (st : List XV) (M : XM) : xru (xlk (pX0_workingUnits Post)) cut WW (n + 1) 17 L st M = j_aald 17 L st M (xkk (xlk (pX0_workingUnits Post)) cut WW n) := (rfl)
theorem fX0_workingUnits_18 (Post : XPo) (cut : List Nat) (WW : XK) (n : Nat) (L : XLs) (st : List XV) (M : XM) : xru (xlk (pX0_workingUnits Post)) cut WW (n + 1) 18 L st M = j_gI 14 0 18 L st M (xkk (xlk (pX0_workingUnits Post)) cut WW n) := (rfl)
theorem fX0_workingUnits_21 (Post : XPo) (cut : List Nat) (WW : XK) (n : Nat) (L : XLs) (st : List XV) (M : XM) : xru (xlk (pX0_workingUnits Post)) cut WW (n + 1) 21 L st M = j_ne 27 21 L st M (xkk (xlk (pX0_workingUnits Post)) cut WW n) := (rfl)
theorem fX0_workingUnits_24 (Post : XPo) (cut : List Nat) (WW : XK) (n : Nat) (L : XLs) (st : List XV) (M : XM) : xru (xlk (pX0_workingUnits Post)) cut WW (n + 1) 24 L st M = j_inc 1 1 24 L st M (xkk (xlk (pX0_workingUnits Post)) cut WW n) := (rfl)
theorem fX0_workingUnits_27 (Post : XPo) (cut : List Nat) (WW : XK) (n : Nat) (L : XLs) (st : List XV) (M : XM) : xru (xlk (pX0_workingUnits Post)) cut WW (n + 1) 27 L st M = j_inc 2 1 27 L st M (xkk (xlk (pX0_workingUnits Post)) cut WW n) := (rfl)
theorem fX0_workingUnits_30 (Post : XPo) (cut : List Nat) (WW : XK) (n : Nat) (L : XLs) (st : List XV) (M : XM) : xru (xlk (pX0_workingUnits Post)) cut WW (n + 1) 30 L st M = j_goto 4 30 L st M (xkk (xlk (pX0_workingUnits Post)) cut WW n) := (rfl)
theorem fX0_workingUnits_33 (Post : XPo) (cut : List Nat) (WW : XK) (n : Nat) (L : XLs) (st : List XV) (M : XM) : xru (xlk (pX0_workingUnits Post)) cut WW (n + 1) 33 L st M = j_ild 1 1 33 L st M (xkk (xlk (pX0_workingUnits Post)) cut WW n) := (rfl)
theorem fX0_workingUnits_34 (Post : XPo) (cut : List Nat) (WW : XK) (n : Nat) (L : XLs) (st : List XV) (M : XM) : xru (xlk (pX0_workingUnits Post)) cut WW (n + 1) 34 L st M = j_iret Post 34 L st M (xkk (xlk (pX0_workingUnits Post)) cut WW n) := (rfl)
set_option maxRecDepth 100000 in
theorem kX0_workingUnits_loop {Post : XPo} {WW : XK} (hC : XCl (xlk (pX0_workingUnits Post)) WW) {M : XM} {i : Int} (hv : xval 1 i 0) (hG : fG M i) : ∀ (n : Nat) (u many : Int), 0 ≤ u → u + n = M 1 i 0 10 → Post [xI (many + sf (nworkingUnits M i) u n)] M → WW 4 [some (xR 1 i 0), some (xI many), some (xI u)] [] M := by
  have hv7 : xval 7 i 0 := hv
  have hi := xv_film hv
  obtain ⟨⟨hc1, hc2, hc3, hc4, hc5⟩, hS, hK, hL, hU⟩ := hG
  intro n
  induction n with
  | zero =>
    intro u many h0 h1 h
    have e : u = M 1 i 0 10 := by omega
    have hr1 : XInR (M 1 i 0 10) := ⟨by omega, by omega⟩
    simp only [sf, Int.add_zero] at h
    subst e
    refine xru_ok hC [4] 40 _ _ _ _ ?_
    simp only [xkk_ap, Int.reduceEq, Int.reduceLT, Int.reduceLE, Int.reduceNeg, Int.reduceAdd, Int.reduceSub, Int.reduceMul, and_self, false_and, and_false, not_true_eq_false, not_false_eq_true, true_implies, false_implies, xq0, xq1, xq2, xq3, xq4, xq5, xqR, xq1R, xq3R, xt1, xt2, xt3, List.mem_cons, List.not_mem_nil, or_false, false_or, or_self, if_false, if_true, reduceIte, reduceCtorEq, xent, xen, List.length_cons, List.length_nil, List.replicate, j_c, j_cJ, j_ild, j_ald, j_lld, j_ist, j_ast, j_lst, j_inc, j_add, j_sub, j_mul, j_neg, j_div, j_rem, j_and, j_shr, j_shl1, j_or, j_ladd, j_lsub, j_lmul, j_i2l, j_lcmp, j_i2c, j_dup, j_dup2, j_pop, j_goto, j_ieq, j_ine, j_ilt, j_ige, j_igt, j_ile, j_eq, j_ne, j_lt, j_ge, j_gt, j_le, xsw, j_tsw, j_gI, j_gJ, j_gR, j_pI, j_pJ, j_gs, j_iald, j_iast, j_cald, j_cast, j_aald, j_cpy, j_min, j_max, j_abs, j_iret, j_zret, j_lret, j_dret, j_ret0, j_V0, j_V1, j_V2, j_V3, j_V4, j_V5, j_S1, j_S2, j_S3, xget, xset, xset2, xclr, xc1, xcat, Nat.reduceAdd, Nat.reduceEqDiff, Nat.reduceLT, Nat.reduceLeDiff, Nat.reduceMul, List.cons_append, List.nil_append, true_and, and_true, List.singleton_append, fX0_workingUnits_0, fX0_workingUnits_1, fX0_workingUnits_2, fX0_workingUnits_3, fX0_workingUnits_4, fX0_workingUnits_5, fX0_workingUnits_6, fX0_workingUnits_9, fX0_workingUnits_12, fX0_workingUnits_13, fX0_workingUnits_16, fX0_workingUnits_17, fX0_workingUnits_18, fX0_workingUnits_21, fX0_workingUnits_24, fX0_workingUnits_27, fX0_workingUnits_30, fX0_workingUnits_33, fX0_workingUnits_34, hv, hr1, Int.le_refl]
    exact h
  | succ n ih =>
    intro u many h0 h1 h
    have hlt : u < M 1 i 0 10 := by omega
    have hge : ¬ M 1 i 0 10 ≤ u := by omega
    have hr1 : XInR (M 1 i 0 10) := ⟨by omega, by omega⟩
    have hr2 : XInR u := ⟨by omega, by omega⟩
    have hu : u < 12 := by omega
    have hvu : xval 14 i u := xv_of14 hi h0 hu
    have hn := fU_in hU (by decide) h0 hu
    simp only [sf] at h
    rw [← Int.add_assoc] at h
    have hb := ih (u + 1) (many + nworkingUnits M i u) (by omega) (by omega) h
    by_cases hc : M 14 i u 0 = 0
    · simp only [nworkingUnits, if_pos hc] at hb
      refine xru_ok hC [4] 60 _ _ _ _ ?_
      simp only [xkk_ap, Int.reduceEq, Int.reduceLT, Int.reduceLE, Int.reduceNeg, Int.reduceAdd, Int.reduceSub, Int.reduceMul, and_self, false_and, and_false, not_true_eq_false, not_false_eq_true, true_implies, false_implies, xq0, xq1, xq2, xq3, xq4, xq5, xqR, xq1R, xq3R, xt1, xt2, xt3, List.mem_cons, List.not_mem_nil, or_false, false_or, or_self, if_false, if_true, reduceIte, reduceCtorEq, xent, xen, List.length_cons, List.length_nil, List.replicate, j_c, j_cJ, j_ild, j_ald, j_lld, j_ist, j_ast, j_lst, j_inc, j_add, j_sub, j_mul, j_neg, j_div, j_rem, j_and, j_shr, j_shl1, j_or, j_ladd, j_lsub, j_lmul, j_i2l, j_lcmp, j_i2c, j_dup, j_dup2, j_pop, j_goto, j_ieq, j_ine, j_ilt, j_ige, j_igt, j_ile, j_eq, j_ne, j_lt, j_ge, j_gt, j_le, xsw, j_tsw, j_gI, j_gJ, j_gR, j_pI, j_pJ, j_gs, j_iald, j_iast, j_cald, j_cast, j_aald, j_cpy, j_min, j_max, j_abs, j_iret, j_zret, j_lret, j_dret, j_ret0, j_V0, j_V1, j_V2, j_V3, j_V4, j_V5, j_S1, j_S2, j_S3, xget, xset, xset2, xclr, xc1, xcat, Nat.reduceAdd, Nat.reduceEqDiff, Nat.reduceLT, Nat.reduceLeDiff, Nat.reduceMul, List.cons_append, List.nil_append, true_and, and_true, List.singleton_append, fX0_workingUnits_0, fX0_workingUnits_1, fX0_workingUnits_2, fX0_workingUnits_3, fX0_workingUnits_4, fX0_workingUnits_5, fX0_workingUnits_6, fX0_workingUnits_9, fX0_workingUnits_12, fX0_workingUnits_13, fX0_workingUnits_16, fX0_workingUnits_17, fX0_workingUnits_18, fX0_workingUnits_21, fX0_workingUnits_24, fX0_workingUnits_27, fX0_workingUnits_30, fX0_workingUnits_33, fX0_workingUnits_34, xr_c (n := 0) rfl, hv, hv7, hvu, hr1, hr2, h0, hu, hlt, hge, xcat, xc1, Nat.zero_le, Nat.reduceLeDiff, hn.1, hc]
      exact hb
    · simp only [nworkingUnits, if_neg hc, Int.add_zero] at hb
      refine xru_ok hC [4] 60 _ _ _ _ ?_
      simp only [xkk_ap, Int.reduceEq, Int.reduceLT, Int.reduceLE, Int.reduceNeg, Int.reduceAdd, Int.reduceSub, Int.reduceMul, and_self, false_and, and_false, not_true_eq_false, not_false_eq_true, true_implies, false_implies, xq0, xq1, xq2, xq3, xq4, xq5, xqR, xq1R, xq3R, xt1, xt2, xt3, List.mem_cons, List.not_mem_nil, or_false, false_or, or_self, if_false, if_true, reduceIte, reduceCtorEq, xent, xen, List.length_cons, List.length_nil, List.replicate, j_c, j_cJ, j_ild, j_ald, j_lld, j_ist, j_ast, j_lst, j_inc, j_add, j_sub, j_mul, j_neg, j_div, j_rem, j_and, j_shr, j_shl1, j_or, j_ladd, j_lsub, j_lmul, j_i2l, j_lcmp, j_i2c, j_dup, j_dup2, j_pop, j_goto, j_ieq, j_ine, j_ilt, j_ige, j_igt, j_ile, j_eq, j_ne, j_lt, j_ge, j_gt, j_le, xsw, j_tsw, j_gI, j_gJ, j_gR, j_pI, j_pJ, j_gs, j_iald, j_iast, j_cald, j_cast, j_aald, j_cpy, j_min, j_max, j_abs, j_iret, j_zret, j_lret, j_dret, j_ret0, j_V0, j_V1, j_V2, j_V3, j_V4, j_V5, j_S1, j_S2, j_S3, xget, xset, xset2, xclr, xc1, xcat, Nat.reduceAdd, Nat.reduceEqDiff, Nat.reduceLT, Nat.reduceLeDiff, Nat.reduceMul, List.cons_append, List.nil_append, true_and, and_true, List.singleton_append, fX0_workingUnits_0, fX0_workingUnits_1, fX0_workingUnits_2, fX0_workingUnits_3, fX0_workingUnits_4, fX0_workingUnits_5, fX0_workingUnits_6, fX0_workingUnits_9, fX0_workingUnits_12, fX0_workingUnits_13, fX0_workingUnits_16, fX0_workingUnits_17, fX0_workingUnits_18, fX0_workingUnits_21, fX0_workingUnits_24, fX0_workingUnits_27, fX0_workingUnits_30, fX0_workingUnits_33, fX0_workingUnits_34, xr_c (n := 0) rfl, hv, hv7, hvu, hr1, hr2, h0, hu, hlt, hge, xcat, xc1, Nat.zero_le, Nat.reduceLeDiff, hn.1]
      exact ⟨fun g => hb, fun g => absurd g hc⟩
def tX0_workingUnits (M : XM) (i : Int) : Int := sf (nworkingUnits M i) 0 (M 1 i 0 10).toNat
def sX0_workingUnits : XSp := xq0 1 (fun i k M Q => fG M i ∧ Q [xI (tX0_workingUnits M i)] M)
set_option maxRecDepth 100000 in
theorem kX0_workingUnits : XCn yX0_workingUnits wX0_workingUnits rX0_workingUnits sX0_workingUnits := XC0 pX0_workingUnits rfl rfl aX0_workingUnits (by decide) (fun i k M Post hv h WW hC => by
  obtain rfl := xk1 hv
  obtain ⟨hG, h⟩ := h
  have hc := hG.1
  unfold fC at hc
  have hk := kX0_workingUnits_loop hC hv hG (M 1 i 0 10).toNat 0 0 (by decide) (by omega) (by rw [Int.zero_add]; exact h)
  show WW 0 [some (xR 1 i 0), none, none] [] M
  refine xru_ok hC [4] 20 _ _ _ _ ?_
  simp only [xkk_ap, Int.reduceEq, Int.reduceLT, Int.reduceLE, Int.reduceNeg, Int.reduceAdd, Int.reduceSub, Int.reduceMul, and_self, false_and, and_false, not_true_eq_false, not_false_eq_true, true_implies, false_implies, xq0, xq1, xq2, xq3, xq4, xq5, xqR, xq1R, xq3R, xt1, xt2, xt3, List.mem_cons, List.not_mem_nil, or_false, false_or, or_self, if_false, if_true, reduceIte, reduceCtorEq, xent, xen, List.length_cons, List.length_nil, List.replicate, j_c, j_cJ, j_ild, j_ald, j_lld, j_ist, j_ast, j_lst, j_inc, j_add, j_sub, j_mul, j_neg, j_div, j_rem, j_and, j_shr, j_shl1, j_or, j_ladd, j_lsub, j_lmul, j_i2l, j_lcmp, j_i2c, j_dup, j_dup2, j_pop, j_goto, j_ieq, j_ine, j_ilt, j_ige, j_igt, j_ile, j_eq, j_ne, j_lt, j_ge, j_gt, j_le, xsw, j_tsw, j_gI, j_gJ, j_gR, j_pI, j_pJ, j_gs, j_iald, j_iast, j_cald, j_cast, j_aald, j_cpy, j_min, j_max, j_abs, j_iret, j_zret, j_lret, j_dret, j_ret0, j_V0, j_V1, j_V2, j_V3, j_V4, j_V5, j_S1, j_S2, j_S3, xget, xset, xset2, xclr, xc1, xcat, Nat.reduceAdd, Nat.reduceEqDiff, Nat.reduceLT, Nat.reduceLeDiff, Nat.reduceMul, List.cons_append, List.nil_append, true_and, and_true, List.singleton_append, fX0_workingUnits_0, fX0_workingUnits_1, fX0_workingUnits_2, fX0_workingUnits_3, fX0_workingUnits_4, fX0_workingUnits_5, fX0_workingUnits_6, fX0_workingUnits_9, fX0_workingUnits_12, fX0_workingUnits_13, fX0_workingUnits_16, fX0_workingUnits_17, fX0_workingUnits_18, fX0_workingUnits_21, fX0_workingUnits_24, fX0_workingUnits_27, fX0_workingUnits_30, fX0_workingUnits_33, fX0_workingUnits_34, hv]
  exact hk)
def npeople (M : XM) (i : Int) : Int → Int := fun u => M 14 i u 2
/-- UnitKitchens$Film.people()I -/
abbrev wX0_people : List Cond := Cond.code yX0_people cX0_people 3 (some .int) :: xT
abbrev rX0_people : Room := { frames := 0, cells := 0, slots := 0, locals := 0 }
def pX0_people (Post : XPo) : List (Nat × XStp) := [(0, j_c 0 1), (1, j_ist 1 1), (2, j_c 0 1), (3, j_ist 2 1), (4, j_ild 2 1), (5, j_ald 0 1), (6, j_gI 1 10), (9, j_ige 30), (12, j_ild 1 1), (13, j_ald 0 1), (14, j_gR 1 (fun i k => (7, i, 0))), (17, j_ild 2 1), (18, j_aald), (19, j_gI 14 2), (22, j_add), (23, j_ist 1 1), (24, j_inc 2 1), (27, j_goto 4), (30, j_ild 1 1), (31, j_iret Post)]
set_option maxRecDepth 100000 in
theorem aX0_people (Post : XPo) : XAll rX0_people cX0_people 3 RX0 wX0_people (some .int) Post (pX0_people Post) := XAll.cons (xs_iconst dX0_people_0) (XAll.cons (xs_istore_n dX0_people_1 rfl (by decide)) (XAll.cons (xs_iconst dX0_people_2) (XAll.cons (xs_istore_n dX0_people_3 rfl (by decide)) (XAll.cons (xs_iload_n dX0_people_4 rfl) (XAll.cons (xs_aload_n dX0_people_5 rfl) (XAll.cons (fgX0_10 tw_210 dX0_people_6) (XAll.cons (xs_icmp_ge dX0_people_9 (by decide)) (XAll.cons (xs_iload_n dX0_people_12 rfl) (XAll.cons (xs_aload_n dX0_people_13 rfl) (XAll.cons (fgX0_11 tw_212 dX0_people_14) (XAll.cons (xs_iload_n dX0_people_17 rfl) (XAll.cons (xs_aald dX0_people_18) (XAll.cons (fgX6_2 tw_144 dX0_people_19) (XAll.cons (xs_iadd dX0_people_22) (XAll.cons (xs_istore_n dX0_people_23 rfl (by decide)) (XAll.cons (xs_iinc dX0_people_24 (by decide)) (XAll.cons (xs_goto dX0_people_27 (by decide)) (XAll.cons (xs_iload_n dX0_people_30 rfl) (XAll.cons (xs_iret rfl dX0_people_31) (XAll.nil))))))))))))))))))))
theorem fX0_people_0 (Post : XPo) (cut : List Nat) (WW : XK) (n : Nat) (L : XLs) (st : List XV) (M : XM) : xru (xlk (pX0_people Post)) cut WW (n + 1) 0 L st M = j_c 0 1 0 L st M (xkk (xlk (pX0_people Post)) cut WW n) := (rfl)
theorem fX0_people_1 (Post : XPo) (cut : List Nat) (WW : XK) (n : Nat) (L : XLs) (st : List XV) (M : XM) : xru (xlk (pX0_people Post)) cut WW (n + 1) 1 L st M = j_ist 1 1 1 L st M (xkk (xlk (pX0_people Post)) cut WW n) := (rfl)
theorem fX0_people_2 (Post : XPo) (cut : List Nat) (WW : XK) (n : Nat) (L : XLs) (st : List XV) (M : XM) : xru (xlk (pX0_people Post)) cut WW (n + 1) 2 L st M = j_c 0 1 2 L st M (xkk (xlk (pX0_people Post)) cut WW n) := (rfl)
theorem fX0_people_3 (Post : XPo) (cut : List Nat) (WW : XK) (n : Nat) (L : XLs) (st : List XV) (M : XM) : xru (xlk (pX0_people Post)) cut WW (n + 1) 3 L st M = j_ist 2 1 3 L st M (xkk (xlk (pX0_people Post)) cut WW n) := (rfl)
theorem fX0_people_4 (Post : XPo) (cut : List Nat) (WW : XK) (n : Nat) (L : XLs) (st : List XV) (M : XM) : xru (xlk (pX0_people Post)) cut WW (n + 1) 4 L st M = j_ild 2 1 4 L st M (xkk (xlk (pX0_people Post)) cut WW n) := (rfl)
theorem fX0_people_5 (Post : XPo) (cut : List Nat) (WW : XK) (n : Nat) (L : XLs) (st : List XV) (M : XM) : xru (xlk (pX0_people Post)) cut WW (n + 1) 5 L st M = j_ald 0 1 5 L st M (xkk (xlk (pX0_people Post)) cut WW n) := (rfl)
theorem fX0_people_6 (Post : XPo) (cut : List Nat) (WW : XK) (n : Nat) (L : XLs) (st : List XV) (M : XM) : xru (xlk (pX0_people Post)) cut WW (n + 1) 6 L st M = j_gI 1 10 6 L st M (xkk (xlk (pX0_people Post)) cut WW n) := (rfl)
theorem fX0_people_9 (Post : XPo) (cut : List Nat) (WW : XK) (n : Nat) (L : XLs) (st : List XV) (M : XM) : xru (xlk (pX0_people Post)) cut WW (n + 1) 9 L st M = j_ige 30 9 L st M (xkk (xlk (pX0_people Post)) cut WW n) := (rfl)
theorem fX0_people_12 (Post : XPo) (cut : List Nat) (WW : XK) (n : Nat) (L : XLs) (st : List XV) (M : XM) : xru (xlk (pX0_people Post)) cut WW (n + 1) 12 L st M = j_ild 1 1 12 L st M (xkk (xlk (pX0_people Post)) cut WW n) := (rfl)
theorem fX0_people_13 (Post : XPo) (cut : List Nat) (WW : XK) (n : Nat) (L : XLs) (st : List XV) (M : XM) : xru (xlk (pX0_people Post)) cut WW (n + 1) 13 L st M = j_ald 0 1 13 L st M (xkk (xlk (pX0_people Post)) cut WW n) := (rfl)
theorem fX0_people_14 (Post : XPo) (cut : List Nat) (WW : XK) (n : Nat) (L : XLs) (st : List XV) (M : XM) : xru (xlk (pX0_people Post)) cut WW (n + 1) 14 L st M = j_gR 1 (fun i k => (7, i, 0)) 14 L st M (xkk (xlk (pX0_people Post)) cut WW n) := (rfl)
theorem fX0_people_17 (Post : XPo) (cut : List Nat) (WW : XK) (n : Nat) (L : XLs) (st : List XV) (M : XM) : xru (xlk (pX0_people Post)) cut WW (n + 1) 17 L st M = j_ild 2 1 17 L st M (xkk (xlk (pX0_people Post)) cut WW n) := (rfl)
theorem fX0_people_18 (Post : XPo) (cut : List Nat) (WW : XK) (n : Nat) (L : XLs) (st : List XV) (M : XM) : xru (xlk (pX0_people Post)) cut WW (n + 1) 18 L st M = j_aald 18 L st M (xkk (xlk (pX0_people Post)) cut WW n) := (rfl)
theorem fX0_people_19 (Post : XPo) (cut : List Nat) (WW : XK) (n : Nat) (L : XLs) (st : List XV) (M : XM) : xru (xlk (pX0_people Post)) cut WW (n + 1) 19 L st M = j_gI 14 2 19 L st M (xkk (xlk (pX0_people Post)) cut WW n) := (rfl)
theorem fX0_people_22 (Post : XPo) (cut : List Nat) (WW : XK) (n : Nat) (L : XLs) (st : List XV) (M : XM) : xru (xlk (pX0_people Post)) cut WW (n + 1) 22 L st M = j_add 22 L st M (xkk (xlk (pX0_people Post)) cut WW n) := (rfl)
theorem fX0_people_23 (Post : XPo) (cut : List Nat) (WW : XK) (n : Nat) (L : XLs) (st : List XV) (M : XM) : xru (xlk (pX0_people Post)) cut WW (n + 1) 23 L st M = j_ist 1 1 23 L st M (xkk (xlk (pX0_people Post)) cut WW n) := (rfl)
theorem fX0_people_24 (Post : XPo) (cut : List Nat) (WW : XK) (n : Nat) (L : XLs) (st : List XV) (M : XM) : xru (xlk (pX0_people Post)) cut WW (n + 1) 24 L st M = j_inc 2 1 24 L st M (xkk (xlk (pX0_people Post)) cut WW n) := (rfl)
theorem fX0_people_27 (Post : XPo) (cut : List Nat) (WW : XK) (n : Nat) (L : XLs) (st : List XV) (M : XM) : xru (xlk (pX0_people Post)) cut WW (n + 1) 27 L st M = j_goto 4 27 L st M (xkk (xlk (pX0_people Post)) cut WW n) := (rfl)
theorem fX0_people_30 (Post : XPo) (cut : List Nat) (WW : XK) (n : Nat) (L : XLs) (st : List XV) (M : XM) : xru (xlk (pX0_people Post)) cut WW (n + 1) 30 L st M = j_ild 1 1 30 L st M (xkk (xlk (pX0_people Post)) cut WW n) := (rfl)
theorem fX0_people_31 (Post : XPo) (cut : List Nat) (WW : XK) (n : Nat) (L : XLs) (st : List XV) (M : XM) : xru (xlk (pX0_people Post)) cut WW (n + 1) 31 L st M = j_iret Post 31 L st M (xkk (xlk (pX0_people Post)) cut WW n) := (rfl)
set_option maxRecDepth 100000 in
theorem kX0_people_loop {Post : XPo} {WW : XK} (hC : XCl (xlk (pX0_people Post)) WW) {M : XM} {i : Int} (hv : xval 1 i 0) (hG : fG M i) : ∀ (n : Nat) (u many : Int), 0 ≤ u → u + n = M 1 i 0 10 → Post [xI (many + sf (npeople M i) u n)] M → WW 4 [some (xR 1 i 0), some (xI many), some (xI u)] [] M := by
  have hv7 : xval 7 i 0 := hv
  have hi := xv_film hv
  obtain ⟨⟨hc1, hc2, hc3, hc4, hc5⟩, hS, hK, hL, hU⟩ := hG
  intro n
  induction n with
  | zero =>
    intro u many h0 h1 h
    have e : u = M 1 i 0 10 := by omega
    have hr1 : XInR (M 1 i 0 10) := ⟨by omega, by omega⟩
    simp only [sf, Int.add_zero] at h
    subst e
    refine xru_ok hC [4] 40 _ _ _ _ ?_
    simp only [xkk_ap, Int.reduceEq, Int.reduceLT, Int.reduceLE, Int.reduceNeg, Int.reduceAdd, Int.reduceSub, Int.reduceMul, and_self, false_and, and_false, not_true_eq_false, not_false_eq_true, true_implies, false_implies, xq0, xq1, xq2, xq3, xq4, xq5, xqR, xq1R, xq3R, xt1, xt2, xt3, List.mem_cons, List.not_mem_nil, or_false, false_or, or_self, if_false, if_true, reduceIte, reduceCtorEq, xent, xen, List.length_cons, List.length_nil, List.replicate, j_c, j_cJ, j_ild, j_ald, j_lld, j_ist, j_ast, j_lst, j_inc, j_add, j_sub, j_mul, j_neg, j_div, j_rem, j_and, j_shr, j_shl1, j_or, j_ladd, j_lsub, j_lmul, j_i2l, j_lcmp, j_i2c, j_dup, j_dup2, j_pop, j_goto, j_ieq, j_ine, j_ilt, j_ige, j_igt, j_ile, j_eq, j_ne, j_lt, j_ge, j_gt, j_le, xsw, j_tsw, j_gI, j_gJ, j_gR, j_pI, j_pJ, j_gs, j_iald, j_iast, j_cald, j_cast, j_aald, j_cpy, j_min, j_max, j_abs, j_iret, j_zret, j_lret, j_dret, j_ret0, j_V0, j_V1, j_V2, j_V3, j_V4, j_V5, j_S1, j_S2, j_S3, xget, xset, xset2, xclr, xc1, xcat, Nat.reduceAdd, Nat.reduceEqDiff, Nat.reduceLT, Nat.reduceLeDiff, Nat.reduceMul, List.cons_append, List.nil_append, true_and, and_true, List.singleton_append, fX0_people_0, fX0_people_1, fX0_people_2, fX0_people_3, fX0_people_4, fX0_people_5, fX0_people_6, fX0_people_9, fX0_people_12, fX0_people_13, fX0_people_14, fX0_people_17, fX0_people_18, fX0_people_19, fX0_people_22, fX0_people_23, fX0_people_24, fX0_people_27, fX0_people_30, fX0_people_31, hv, hr1, Int.le_refl]
    exact h
  | succ n ih =>
    intro u many h0 h1 h
    have hlt : u < M 1 i 0 10 := by omega
    have hge : ¬ M 1 i 0 10 ≤ u := by omega
    have hr1 : XInR (M 1 i 0 10) := ⟨by omega, by omega⟩
    have hr2 : XInR u := ⟨by omega, by omega⟩
    have hu : u < 12 := by omega
    have hvu : xval 14 i u := xv_of14 hi h0 hu
    have hn := fU_in hU (by decide) h0 hu
    simp only [sf] at h
    rw [← Int.add_assoc] at h
    have hb := ih (u + 1) (many + npeople M i u) (by omega) (by omega) h
    simp only [npeople] at hb
    refine xru_ok hC [4] 60 _ _ _ _ ?_
    simp only [xkk_ap, Int.reduceEq, Int.reduceLT, Int.reduceLE, Int.reduceNeg, Int.reduceAdd, Int.reduceSub, Int.reduceMul, and_self, false_and, and_false, not_true_eq_false, not_false_eq_true, true_implies, false_implies, xq0, xq1, xq2, xq3, xq4, xq5, xqR, xq1R, xq3R, xt1, xt2, xt3, List.mem_cons, List.not_mem_nil, or_false, false_or, or_self, if_false, if_true, reduceIte, reduceCtorEq, xent, xen, List.length_cons, List.length_nil, List.replicate, j_c, j_cJ, j_ild, j_ald, j_lld, j_ist, j_ast, j_lst, j_inc, j_add, j_sub, j_mul, j_neg, j_div, j_rem, j_and, j_shr, j_shl1, j_or, j_ladd, j_lsub, j_lmul, j_i2l, j_lcmp, j_i2c, j_dup, j_dup2, j_pop, j_goto, j_ieq, j_ine, j_ilt, j_ige, j_igt, j_ile, j_eq, j_ne, j_lt, j_ge, j_gt, j_le, xsw, j_tsw, j_gI, j_gJ, j_gR, j_pI, j_pJ, j_gs, j_iald, j_iast, j_cald, j_cast, j_aald, j_cpy, j_min, j_max, j_abs, j_iret, j_zret, j_lret, j_dret, j_ret0, j_V0, j_V1, j_V2, j_V3, j_V4, j_V5, j_S1, j_S2, j_S3, xget, xset, xset2, xclr, xc1, xcat, Nat.reduceAdd, Nat.reduceEqDiff, Nat.reduceLT, Nat.reduceLeDiff, Nat.reduceMul, List.cons_append, List.nil_append, true_and, and_true, List.singleton_append, fX0_people_0, fX0_people_1, fX0_people_2, fX0_people_3, fX0_people_4, fX0_people_5, fX0_people_6, fX0_people_9, fX0_people_12, fX0_people_13, fX0_people_14, fX0_people_17, fX0_people_18, fX0_people_19, fX0_people_22, fX0_people_23, fX0_people_24, fX0_people_27, fX0_people_30, fX0_people_31, xr_c (n := 0) rfl, hv, hv7, hvu, hr1, hr2, h0, hu, hlt, hge, xcat, xc1, Nat.zero_le, Nat.reduceLeDiff, hn.1]
    exact hb
def tX0_people (M : XM) (i : Int) : Int := sf (npeople M i) 0 (M 1 i 0 10).toNat
def sX0_people : XSp := xq0 1 (fun i k M Q => fG M i ∧ Q [xI (tX0_people M i)] M)
set_option maxRecDepth 100000 in
theorem kX0_people : XCn yX0_people wX0_people rX0_people sX0_people := XC0 pX0_people rfl rfl aX0_people (by decide) (fun i k M Post hv h WW hC => by
  obtain rfl := xk1 hv
  obtain ⟨hG, h⟩ := h
  have hc := hG.1
  unfold fC at hc
  have hk := kX0_people_loop hC hv hG (M 1 i 0 10).toNat 0 0 (by decide) (by omega) (by rw [Int.zero_add]; exact h)
  show WW 0 [some (xR 1 i 0), none, none] [] M
  refine xru_ok hC [4] 20 _ _ _ _ ?_
  simp only [xkk_ap, Int.reduceEq, Int.reduceLT, Int.reduceLE, Int.reduceNeg, Int.reduceAdd, Int.reduceSub, Int.reduceMul, and_self, false_and, and_false, not_true_eq_false, not_false_eq_true, true_implies, false_implies, xq0, xq1, xq2, xq3, xq4, xq5, xqR, xq1R, xq3R, xt1, xt2, xt3, List.mem_cons, List.not_mem_nil, or_false, false_or, or_self, if_false, if_true, reduceIte, reduceCtorEq, xent, xen, List.length_cons, List.length_nil, List.replicate, j_c, j_cJ, j_ild, j_ald, j_lld, j_ist, j_ast, j_lst, j_inc, j_add, j_sub, j_mul, j_neg, j_div, j_rem, j_and, j_shr, j_shl1, j_or, j_ladd, j_lsub, j_lmul, j_i2l, j_lcmp, j_i2c, j_dup, j_dup2, j_pop, j_goto, j_ieq, j_ine, j_ilt, j_ige, j_igt, j_ile, j_eq, j_ne, j_lt, j_ge, j_gt, j_le, xsw, j_tsw, j_gI, j_gJ, j_gR, j_pI, j_pJ, j_gs, j_iald, j_iast, j_cald, j_cast, j_aald, j_cpy, j_min, j_max, j_abs, j_iret, j_zret, j_lret, j_dret, j_ret0, j_V0, j_V1, j_V2, j_V3, j_V4, j_V5, j_S1, j_S2, j_S3, xget, xset, xset2, xclr, xc1, xcat, Nat.reduceAdd, Nat.reduceEqDiff, Nat.reduceLT, Nat.reduceLeDiff, Nat.reduceMul, List.cons_append, List.nil_append, true_and, and_true, List.singleton_append, fX0_people_0, fX0_people_1, fX0_people_2, fX0_people_3, fX0_people_4, fX0_people_5, fX0_people_6, fX0_people_9, fX0_people_12, fX0_people_13, fX0_people_14, fX0_people_17, fX0_people_18, fX0_people_19, fX0_people_22, fX0_people_23, fX0_people_24, fX0_people_27, fX0_people_30, fX0_people_31, hv]
  exact hk)
def ncooked (M : XM) (i : Int) : Int → Int := fun u => M 8 i u 5
/-- UnitKitchens$Film.cooked()I -/
abbrev wX0_cooked : List Cond := Cond.code yX0_cooked cX0_cooked 3 (some .int) :: xT
abbrev rX0_cooked : Room := { frames := 0, cells := 0, slots := 0, locals := 0 }
def pX0_cooked (Post : XPo) : List (Nat × XStp) := [(0, j_c 0 1), (1, j_ist 1 1), (2, j_c 0 1), (3, j_ist 2 1), (4, j_ild 2 1), (5, j_ald 0 1), (6, j_gI 1 6), (9, j_ige 30), (12, j_ild 1 1), (13, j_ald 0 1), (14, j_gR 1 (fun i k => (5, i, 0))), (17, j_ild 2 1), (18, j_aald), (19, j_gI 8 5), (22, j_add), (23, j_ist 1 1), (24, j_inc 2 1), (27, j_goto 4), (30, j_ild 1 1), (31, j_iret Post)]
set_option maxRecDepth 100000 in
theorem aX0_cooked (Post : XPo) : XAll rX0_cooked cX0_cooked 3 RX0 wX0_cooked (some .int) Post (pX0_cooked Post) := XAll.cons (xs_iconst dX0_cooked_0) (XAll.cons (xs_istore_n dX0_cooked_1 rfl (by decide)) (XAll.cons (xs_iconst dX0_cooked_2) (XAll.cons (xs_istore_n dX0_cooked_3 rfl (by decide)) (XAll.cons (xs_iload_n dX0_cooked_4 rfl) (XAll.cons (xs_aload_n dX0_cooked_5 rfl) (XAll.cons (fgX0_6 tw_202 dX0_cooked_6) (XAll.cons (xs_icmp_ge dX0_cooked_9 (by decide)) (XAll.cons (xs_iload_n dX0_cooked_12 rfl) (XAll.cons (xs_aload_n dX0_cooked_13 rfl) (XAll.cons (fgX0_7 tw_204 dX0_cooked_14) (XAll.cons (xs_iload_n dX0_cooked_17 rfl) (XAll.cons (xs_aald dX0_cooked_18) (XAll.cons (fgX1_5 tw_80 dX0_cooked_19) (XAll.cons (xs_iadd dX0_cooked_22) (XAll.cons (xs_istore_n dX0_cooked_23 rfl (by decide)) (XAll.cons (xs_iinc dX0_cooked_24 (by decide)) (XAll.cons (xs_goto dX0_cooked_27 (by decide)) (XAll.cons (xs_iload_n dX0_cooked_30 rfl) (XAll.cons (xs_iret rfl dX0_cooked_31) (XAll.nil))))))))))))))))))))
theorem fX0_cooked_0 (Post : XPo) (cut : List Nat) (WW : XK) (n : Nat) (L : XLs) (st : List XV) (M : XM) : xru (xlk (pX0_cooked Post)) cut WW (n + 1) 0 L st M = j_c 0 1 0 L st M (xkk (xlk (pX0_cooked Post)) cut WW n) := (rfl)
theorem fX0_cooked_1 (Post : XPo) (cut : List Nat) (WW : XK) (n : Nat) (L : XLs) (st : List XV) (M : XM) : xru (xlk (pX0_cooked Post)) cut WW (n + 1) 1 L st M = j_ist 1 1 1 L st M (xkk (xlk (pX0_cooked Post)) cut WW n) := (rfl)
theorem fX0_cooked_2 (Post : XPo) (cut : List Nat) (WW : XK) (n : Nat) (L : XLs) (st : List XV) (M : XM) : xru (xlk (pX0_cooked Post)) cut WW (n + 1) 2 L st M = j_c 0 1 2 L st M (xkk (xlk (pX0_cooked Post)) cut WW n) := (rfl)
theorem fX0_cooked_3 (Post : XPo) (cut : List Nat) (WW : XK) (n : Nat) (L : XLs) (st : List XV) (M : XM) : xru (xlk (pX0_cooked Post)) cut WW (n + 1) 3 L st M = j_ist 2 1 3 L st M (xkk (xlk (pX0_cooked Post)) cut WW n) := (rfl)
theorem fX0_cooked_4 (Post : XPo) (cut : List Nat) (WW : XK) (n : Nat) (L : XLs) (st : List XV) (M : XM) : xru (xlk (pX0_cooked Post)) cut WW (n + 1) 4 L st M = j_ild 2 1 4 L st M (xkk (xlk (pX0_cooked Post)) cut WW n) := (rfl)
theorem fX0_cooked_5 (Post : XPo) (cut : List Nat) (WW : XK) (n : Nat) (L : XLs) (st : List XV) (M : XM) : xru (xlk (pX0_cooked Post)) cut WW (n + 1) 5 L st M = j_ald 0 1 5 L st M (xkk (xlk (pX0_cooked Post)) cut WW n) := (rfl)
theorem fX0_cooked_6 (Post : XPo) (cut : List Nat) (WW : XK) (n : Nat) (L : XLs) (st : List XV) (M : XM) : xru (xlk (pX0_cooked Post)) cut WW (n + 1) 6 L st M = j_gI 1 6 6 L st M (xkk (xlk (pX0_cooked Post)) cut WW n) := (rfl)
theorem fX0_cooked_9 (Post : XPo) (cut : List Nat) (WW : XK) (n : Nat) (L : XLs) (st : List XV) (M : XM) : xru (xlk (pX0_cooked Post)) cut WW (n + 1) 9 L st M = j_ige 30 9 L st M (xkk (xlk (pX0_cooked Post)) cut WW n) := (rfl)
theorem fX0_cooked_12 (Post : XPo) (cut : List Nat) (WW : XK) (n : Nat) (L : XLs) (st : List XV) (M : XM) : xru (xlk (pX0_cooked Post)) cut WW (n + 1) 12 L st M = j_ild 1 1 12 L st M (xkk (xlk (pX0_cooked Post)) cut WW n) := (rfl)
theorem fX0_cooked_13 (Post : XPo) (cut : List Nat) (WW : XK) (n : Nat) (L : XLs) (st : List XV) (M : XM) : xru (xlk (pX0_cooked Post)) cut WW (n + 1) 13 L st M = j_ald 0 1 13 L st M (xkk (xlk (pX0_cooked Post)) cut WW n) := (rfl)
theorem fX0_cooked_14 (Post : XPo) (cut : List Nat) (WW : XK) (n : Nat) (L : XLs) (st : List XV) (M : XM) : xru (xlk (pX0_cooked Post)) cut WW (n + 1) 14 L st M = j_gR 1 (fun i k => (5, i, 0)) 14 L st M (xkk (xlk (pX0_cooked Post)) cut WW n) := (rfl)
theorem fX0_cooked_17 (Post : XPo) (cut : List Nat) (WW : XK) (n : Nat) (L : XLs) (st : List XV) (M : XM) : xru (xlk (pX0_cooked Post)) cut WW (n + 1) 17 L st M = j_ild 2 1 17 L st M (xkk (xlk (pX0_cooked Post)) cut WW n) := (rfl)
theorem fX0_cooked_18 (Post : XPo) (cut : List Nat) (WW : XK) (n : Nat) (L : XLs) (st : List XV) (M : XM) : xru (xlk (pX0_cooked Post)) cut WW (n + 1) 18 L st M = j_aald 18 L st M (xkk (xlk (pX0_cooked Post)) cut WW n) := (rfl)
theorem fX0_cooked_19 (Post : XPo) (cut : List Nat) (WW : XK) (n : Nat) (L : XLs) (st : List XV) (M : XM) : xru (xlk (pX0_cooked Post)) cut WW (n + 1) 19 L st M = j_gI 8 5 19 L st M (xkk (xlk (pX0_cooked Post)) cut WW n) := (rfl)
theorem fX0_cooked_22 (Post : XPo) (cut : List Nat) (WW : XK) (n : Nat) (L : XLs) (st : List XV) (M : XM) : xru (xlk (pX0_cooked Post)) cut WW (n + 1) 22 L st M = j_add 22 L st M (xkk (xlk (pX0_cooked Post)) cut WW n) := (rfl)
theorem fX0_cooked_23 (Post : XPo) (cut : List Nat) (WW : XK) (n : Nat) (L : XLs) (st : List XV) (M : XM) : xru (xlk (pX0_cooked Post)) cut WW (n + 1) 23 L st M = j_ist 1 1 23 L st M (xkk (xlk (pX0_cooked Post)) cut WW n) := (rfl)
theorem fX0_cooked_24 (Post : XPo) (cut : List Nat) (WW : XK) (n : Nat) (L : XLs) (st : List XV) (M : XM) : xru (xlk (pX0_cooked Post)) cut WW (n + 1) 24 L st M = j_inc 2 1 24 L st M (xkk (xlk (pX0_cooked Post)) cut WW n) := (rfl)
theorem fX0_cooked_27 (Post : XPo) (cut : List Nat) (WW : XK) (n : Nat) (L : XLs) (st : List XV) (M : XM) : xru (xlk (pX0_cooked Post)) cut WW (n + 1) 27 L st M = j_goto 4 27 L st M (xkk (xlk (pX0_cooked Post)) cut WW n) := (rfl)
theorem fX0_cooked_30 (Post : XPo) (cut : List Nat) (WW : XK) (n : Nat) (L : XLs) (st : List XV) (M : XM) : xru (xlk (pX0_cooked Post)) cut WW (n + 1) 30 L st M = j_ild 1 1 30 L st M (xkk (xlk (pX0_cooked Post)) cut WW n) := (rfl)
theorem fX0_cooked_31 (Post : XPo) (cut : List Nat) (WW : XK) (n : Nat) (L : XLs) (st : List XV) (M : XM) : xru (xlk (pX0_cooked Post)) cut WW (n + 1) 31 L st M = j_iret Post 31 L st M (xkk (xlk (pX0_cooked Post)) cut WW n) := (rfl)
set_option maxRecDepth 100000 in
theorem kX0_cooked_loop {Post : XPo} {WW : XK} (hC : XCl (xlk (pX0_cooked Post)) WW) {M : XM} {i : Int} (hv : xval 1 i 0) (hG : fG M i) : ∀ (n : Nat) (u many : Int), 0 ≤ u → u + n = M 1 i 0 6 → Post [xI (many + sf (ncooked M i) u n)] M → WW 4 [some (xR 1 i 0), some (xI many), some (xI u)] [] M := by
  have hv7 : xval 5 i 0 := hv
  have hi := xv_film hv
  obtain ⟨⟨hc1, hc2, hc3, hc4, hc5⟩, hS, hK, hL, hU⟩ := hG
  intro n
  induction n with
  | zero =>
    intro u many h0 h1 h
    have e : u = M 1 i 0 6 := by omega
    have hr1 : XInR (M 1 i 0 6) := ⟨by omega, by omega⟩
    simp only [sf, Int.add_zero] at h
    subst e
    refine xru_ok hC [4] 40 _ _ _ _ ?_
    simp only [xkk_ap, Int.reduceEq, Int.reduceLT, Int.reduceLE, Int.reduceNeg, Int.reduceAdd, Int.reduceSub, Int.reduceMul, and_self, false_and, and_false, not_true_eq_false, not_false_eq_true, true_implies, false_implies, xq0, xq1, xq2, xq3, xq4, xq5, xqR, xq1R, xq3R, xt1, xt2, xt3, List.mem_cons, List.not_mem_nil, or_false, false_or, or_self, if_false, if_true, reduceIte, reduceCtorEq, xent, xen, List.length_cons, List.length_nil, List.replicate, j_c, j_cJ, j_ild, j_ald, j_lld, j_ist, j_ast, j_lst, j_inc, j_add, j_sub, j_mul, j_neg, j_div, j_rem, j_and, j_shr, j_shl1, j_or, j_ladd, j_lsub, j_lmul, j_i2l, j_lcmp, j_i2c, j_dup, j_dup2, j_pop, j_goto, j_ieq, j_ine, j_ilt, j_ige, j_igt, j_ile, j_eq, j_ne, j_lt, j_ge, j_gt, j_le, xsw, j_tsw, j_gI, j_gJ, j_gR, j_pI, j_pJ, j_gs, j_iald, j_iast, j_cald, j_cast, j_aald, j_cpy, j_min, j_max, j_abs, j_iret, j_zret, j_lret, j_dret, j_ret0, j_V0, j_V1, j_V2, j_V3, j_V4, j_V5, j_S1, j_S2, j_S3, xget, xset, xset2, xclr, xc1, xcat, Nat.reduceAdd, Nat.reduceEqDiff, Nat.reduceLT, Nat.reduceLeDiff, Nat.reduceMul, List.cons_append, List.nil_append, true_and, and_true, List.singleton_append, fX0_cooked_0, fX0_cooked_1, fX0_cooked_2, fX0_cooked_3, fX0_cooked_4, fX0_cooked_5, fX0_cooked_6, fX0_cooked_9, fX0_cooked_12, fX0_cooked_13, fX0_cooked_14, fX0_cooked_17, fX0_cooked_18, fX0_cooked_19, fX0_cooked_22, fX0_cooked_23, fX0_cooked_24, fX0_cooked_27, fX0_cooked_30, fX0_cooked_31, hv, hr1, Int.le_refl]
    exact h
  | succ n ih =>
    intro u many h0 h1 h
    have hlt : u < M 1 i 0 6 := by omega
    have hge : ¬ M 1 i 0 6 ≤ u := by omega
    have hr1 : XInR (M 1 i 0 6) := ⟨by omega, by omega⟩
    have hr2 : XInR u := ⟨by omega, by omega⟩
    have hu : u < 3 := by omega
    have hvu : xval 8 i u := xv_of8 hi h0 hu
    have hv10 : xval 10 i u := xv_of10 hi h0 (by omega)
    have hk := hK u h0 hu
    have hn : XInR (M 8 i u 0) := ⟨by omega, by omega⟩
    simp only [sf] at h
    rw [← Int.add_assoc] at h
    have hb := ih (u + 1) (many + ncooked M i u) (by omega) (by omega) h
    simp only [ncooked] at hb
    refine xru_ok hC [4] 60 _ _ _ _ ?_
    simp only [xkk_ap, Int.reduceEq, Int.reduceLT, Int.reduceLE, Int.reduceNeg, Int.reduceAdd, Int.reduceSub, Int.reduceMul, and_self, false_and, and_false, not_true_eq_false, not_false_eq_true, true_implies, false_implies, xq0, xq1, xq2, xq3, xq4, xq5, xqR, xq1R, xq3R, xt1, xt2, xt3, List.mem_cons, List.not_mem_nil, or_false, false_or, or_self, if_false, if_true, reduceIte, reduceCtorEq, xent, xen, List.length_cons, List.length_nil, List.replicate, j_c, j_cJ, j_ild, j_ald, j_lld, j_ist, j_ast, j_lst, j_inc, j_add, j_sub, j_mul, j_neg, j_div, j_rem, j_and, j_shr, j_shl1, j_or, j_ladd, j_lsub, j_lmul, j_i2l, j_lcmp, j_i2c, j_dup, j_dup2, j_pop, j_goto, j_ieq, j_ine, j_ilt, j_ige, j_igt, j_ile, j_eq, j_ne, j_lt, j_ge, j_gt, j_le, xsw, j_tsw, j_gI, j_gJ, j_gR, j_pI, j_pJ, j_gs, j_iald, j_iast, j_cald, j_cast, j_aald, j_cpy, j_min, j_max, j_abs, j_iret, j_zret, j_lret, j_dret, j_ret0, j_V0, j_V1, j_V2, j_V3, j_V4, j_V5, j_S1, j_S2, j_S3, xget, xset, xset2, xclr, xc1, xcat, Nat.reduceAdd, Nat.reduceEqDiff, Nat.reduceLT, Nat.reduceLeDiff, Nat.reduceMul, List.cons_append, List.nil_append, true_and, and_true, List.singleton_append, fX0_cooked_0, fX0_cooked_1, fX0_cooked_2, fX0_cooked_3, fX0_cooked_4, fX0_cooked_5, fX0_cooked_6, fX0_cooked_9, fX0_cooked_12, fX0_cooked_13, fX0_cooked_14, fX0_cooked_17, fX0_cooked_18, fX0_cooked_19, fX0_cooked_22, fX0_cooked_23, fX0_cooked_24, fX0_cooked_27, fX0_cooked_30, fX0_cooked_31, xr_c (n := 0) rfl, hv, hv7, hvu, hr1, hr2, h0, hu, hlt, hge, xcat, xc1, Nat.zero_le, Nat.reduceLeDiff, hn]
    exact hb
def tX0_cooked (M : XM) (i : Int) : Int := sf (ncooked M i) 0 (M 1 i 0 6).toNat
def sX0_cooked : XSp := xq0 1 (fun i k M Q => fG M i ∧ Q [xI (tX0_cooked M i)] M)
set_option maxRecDepth 100000 in
theorem kX0_cooked : XCn yX0_cooked wX0_cooked rX0_cooked sX0_cooked := XC0 pX0_cooked rfl rfl aX0_cooked (by decide) (fun i k M Post hv h WW hC => by
  obtain rfl := xk1 hv
  obtain ⟨hG, h⟩ := h
  have hc := hG.1
  unfold fC at hc
  have hk := kX0_cooked_loop hC hv hG (M 1 i 0 6).toNat 0 0 (by decide) (by omega) (by rw [Int.zero_add]; exact h)
  show WW 0 [some (xR 1 i 0), none, none] [] M
  refine xru_ok hC [4] 20 _ _ _ _ ?_
  simp only [xkk_ap, Int.reduceEq, Int.reduceLT, Int.reduceLE, Int.reduceNeg, Int.reduceAdd, Int.reduceSub, Int.reduceMul, and_self, false_and, and_false, not_true_eq_false, not_false_eq_true, true_implies, false_implies, xq0, xq1, xq2, xq3, xq4, xq5, xqR, xq1R, xq3R, xt1, xt2, xt3, List.mem_cons, List.not_mem_nil, or_false, false_or, or_self, if_false, if_true, reduceIte, reduceCtorEq, xent, xen, List.length_cons, List.length_nil, List.replicate, j_c, j_cJ, j_ild, j_ald, j_lld, j_ist, j_ast, j_lst, j_inc, j_add, j_sub, j_mul, j_neg, j_div, j_rem, j_and, j_shr, j_shl1, j_or, j_ladd, j_lsub, j_lmul, j_i2l, j_lcmp, j_i2c, j_dup, j_dup2, j_pop, j_goto, j_ieq, j_ine, j_ilt, j_ige, j_igt, j_ile, j_eq, j_ne, j_lt, j_ge, j_gt, j_le, xsw, j_tsw, j_gI, j_gJ, j_gR, j_pI, j_pJ, j_gs, j_iald, j_iast, j_cald, j_cast, j_aald, j_cpy, j_min, j_max, j_abs, j_iret, j_zret, j_lret, j_dret, j_ret0, j_V0, j_V1, j_V2, j_V3, j_V4, j_V5, j_S1, j_S2, j_S3, xget, xset, xset2, xclr, xc1, xcat, Nat.reduceAdd, Nat.reduceEqDiff, Nat.reduceLT, Nat.reduceLeDiff, Nat.reduceMul, List.cons_append, List.nil_append, true_and, and_true, List.singleton_append, fX0_cooked_0, fX0_cooked_1, fX0_cooked_2, fX0_cooked_3, fX0_cooked_4, fX0_cooked_5, fX0_cooked_6, fX0_cooked_9, fX0_cooked_12, fX0_cooked_13, fX0_cooked_14, fX0_cooked_17, fX0_cooked_18, fX0_cooked_19, fX0_cooked_22, fX0_cooked_23, fX0_cooked_24, fX0_cooked_27, fX0_cooked_30, fX0_cooked_31, hv]
  exact hk)
def nserved (M : XM) (i : Int) : Int → Int := fun u => M 14 i u 9
/-- UnitKitchens$Film.served()I -/
abbrev wX0_served : List Cond := Cond.code yX0_served cX0_served 3 (some .int) :: xT
abbrev rX0_served : Room := { frames := 0, cells := 0, slots := 0, locals := 0 }
def pX0_served (Post : XPo) : List (Nat × XStp) := [(0, j_c 0 1), (1, j_ist 1 1), (2, j_c 0 1), (3, j_ist 2 1), (4, j_ild 2 1), (5, j_ald 0 1), (6, j_gI 1 10), (9, j_ige 30), (12, j_ild 1 1), (13, j_ald 0 1), (14, j_gR 1 (fun i k => (7, i, 0))), (17, j_ild 2 1), (18, j_aald), (19, j_gI 14 9), (22, j_add), (23, j_ist 1 1), (24, j_inc 2 1), (27, j_goto 4), (30, j_ild 1 1), (31, j_iret Post)]
set_option maxRecDepth 100000 in
theorem aX0_served (Post : XPo) : XAll rX0_served cX0_served 3 RX0 wX0_served (some .int) Post (pX0_served Post) := XAll.cons (xs_iconst dX0_served_0) (XAll.cons (xs_istore_n dX0_served_1 rfl (by decide)) (XAll.cons (xs_iconst dX0_served_2) (XAll.cons (xs_istore_n dX0_served_3 rfl (by decide)) (XAll.cons (xs_iload_n dX0_served_4 rfl) (XAll.cons (xs_aload_n dX0_served_5 rfl) (XAll.cons (fgX0_10 tw_210 dX0_served_6) (XAll.cons (xs_icmp_ge dX0_served_9 (by decide)) (XAll.cons (xs_iload_n dX0_served_12 rfl) (XAll.cons (xs_aload_n dX0_served_13 rfl) (XAll.cons (fgX0_11 tw_212 dX0_served_14) (XAll.cons (xs_iload_n dX0_served_17 rfl) (XAll.cons (xs_aald dX0_served_18) (XAll.cons (fgX6_9 tw_161 dX0_served_19) (XAll.cons (xs_iadd dX0_served_22) (XAll.cons (xs_istore_n dX0_served_23 rfl (by decide)) (XAll.cons (xs_iinc dX0_served_24 (by decide)) (XAll.cons (xs_goto dX0_served_27 (by decide)) (XAll.cons (xs_iload_n dX0_served_30 rfl) (XAll.cons (xs_iret rfl dX0_served_31) (XAll.nil))))))))))))))))))))
theorem fX0_served_0 (Post : XPo) (cut : List Nat) (WW : XK) (n : Nat) (L : XLs) (st : List XV) (M : XM) : xru (xlk (pX0_served Post)) cut WW (n + 1) 0 L st M = j_c 0 1 0 L st M (xkk (xlk (pX0_served Post)) cut WW n) := (rfl)
theorem fX0_served_1 (Post : XPo) (cut : List Nat) (WW : XK) (n : Nat) (L : XLs) (st : List XV) (M : XM) : xru (xlk (pX0_served Post)) cut WW (n + 1) 1 L st M = j_ist 1 1 1 L st M (xkk (xlk (pX0_served Post)) cut WW n) := (rfl)
theorem fX0_served_2 (Post : XPo) (cut : List Nat) (WW : XK) (n : Nat) (L : XLs) (st : List XV) (M : XM) : xru (xlk (pX0_served Post)) cut WW (n + 1) 2 L st M = j_c 0 1 2 L st M (xkk (xlk (pX0_served Post)) cut WW n) := (rfl)
theorem fX0_served_3 (Post : XPo) (cut : List Nat) (WW : XK) (n : Nat) (L : XLs) (st : List XV) (M : XM) : xru (xlk (pX0_served Post)) cut WW (n + 1) 3 L st M = j_ist 2 1 3 L st M (xkk (xlk (pX0_served Post)) cut WW n) := (rfl)
theorem fX0_served_4 (Post : XPo) (cut : List Nat) (WW : XK) (n : Nat) (L : XLs) (st : List XV) (M : XM) : xru (xlk (pX0_served Post)) cut WW (n + 1) 4 L st M = j_ild 2 1 4 L st M (xkk (xlk (pX0_served Post)) cut WW n) := (rfl)
theorem fX0_served_5 (Post : XPo) (cut : List Nat) (WW : XK) (n : Nat) (L : XLs) (st : List XV) (M : XM) : xru (xlk (pX0_served Post)) cut WW (n + 1) 5 L st M = j_ald 0 1 5 L st M (xkk (xlk (pX0_served Post)) cut WW n) := (rfl)
theorem fX0_served_6 (Post : XPo) (cut : List Nat) (WW : XK) (n : Nat) (L : XLs) (st : List XV) (M : XM) : xru (xlk (pX0_served Post)) cut WW (n + 1) 6 L st M = j_gI 1 10 6 L st M (xkk (xlk (pX0_served Post)) cut WW n) := (rfl)
theorem fX0_served_9 (Post : XPo) (cut : List Nat) (WW : XK) (n : Nat) (L : XLs) (st : List XV) (M : XM) : xru (xlk (pX0_served Post)) cut WW (n + 1) 9 L st M = j_ige 30 9 L st M (xkk (xlk (pX0_served Post)) cut WW n) := (rfl)
theorem fX0_served_12 (Post : XPo) (cut : List Nat) (WW : XK) (n : Nat) (L : XLs) (st : List XV) (M : XM) : xru (xlk (pX0_served Post)) cut WW (n + 1) 12 L st M = j_ild 1 1 12 L st M (xkk (xlk (pX0_served Post)) cut WW n) := (rfl)
theorem fX0_served_13 (Post : XPo) (cut : List Nat) (WW : XK) (n : Nat) (L : XLs) (st : List XV) (M : XM) : xru (xlk (pX0_served Post)) cut WW (n + 1) 13 L st M = j_ald 0 1 13 L st M (xkk (xlk (pX0_served Post)) cut WW n) := (rfl)
theorem fX0_served_14 (Post : XPo) (cut : List Nat) (WW : XK) (n : Nat) (L : XLs) (st : List XV) (M : XM) : xru (xlk (pX0_served Post)) cut WW (n + 1) 14 L st M = j_gR 1 (fun i k => (7, i, 0)) 14 L st M (xkk (xlk (pX0_served Post)) cut WW n) := (rfl)
theorem fX0_served_17 (Post : XPo) (cut : List Nat) (WW : XK) (n : Nat) (L : XLs) (st : List XV) (M : XM) : xru (xlk (pX0_served Post)) cut WW (n + 1) 17 L st M = j_ild 2 1 17 L st M (xkk (xlk (pX0_served Post)) cut WW n) := (rfl)
theorem fX0_served_18 (Post : XPo) (cut : List Nat) (WW : XK) (n : Nat) (L : XLs) (st : List XV) (M : XM) : xru (xlk (pX0_served Post)) cut WW (n + 1) 18 L st M = j_aald 18 L st M (xkk (xlk (pX0_served Post)) cut WW n) := (rfl)
theorem fX0_served_19 (Post : XPo) (cut : List Nat) (WW : XK) (n : Nat) (L : XLs) (st : List XV) (M : XM) : xru (xlk (pX0_served Post)) cut WW (n + 1) 19 L st M = j_gI 14 9 19 L st M (xkk (xlk (pX0_served Post)) cut WW n) := (rfl)
theorem fX0_served_22 (Post : XPo) (cut : List Nat) (WW : XK) (n : Nat) (L : XLs) (st : List XV) (M : XM) : xru (xlk (pX0_served Post)) cut WW (n + 1) 22 L st M = j_add 22 L st M (xkk (xlk (pX0_served Post)) cut WW n) := (rfl)
theorem fX0_served_23 (Post : XPo) (cut : List Nat) (WW : XK) (n : Nat) (L : XLs) (st : List XV) (M : XM) : xru (xlk (pX0_served Post)) cut WW (n + 1) 23 L st M = j_ist 1 1 23 L st M (xkk (xlk (pX0_served Post)) cut WW n) := (rfl)
theorem fX0_served_24 (Post : XPo) (cut : List Nat) (WW : XK) (n : Nat) (L : XLs) (st : List XV) (M : XM) : xru (xlk (pX0_served Post)) cut WW (n + 1) 24 L st M = j_inc 2 1 24 L st M (xkk (xlk (pX0_served Post)) cut WW n) := (rfl)
theorem fX0_served_27 (Post : XPo) (cut : List Nat) (WW : XK) (n : Nat) (L : XLs) (st : List XV) (M : XM) : xru (xlk (pX0_served Post)) cut WW (n + 1) 27 L st M = j_goto 4 27 L st M (xkk (xlk (pX0_served Post)) cut WW n) := (rfl)
theorem fX0_served_30 (Post : XPo) (cut : List Nat) (WW : XK) (n : Nat) (L : XLs) (st : List XV) (M : XM) : xru (xlk (pX0_served Post)) cut WW (n + 1) 30 L st M = j_ild 1 1 30 L st M (xkk (xlk (pX0_served Post)) cut WW n) := (rfl)
theorem fX0_served_31 (Post : XPo) (cut : List Nat) (WW : XK) (n : Nat) (L : XLs) (st : List XV) (M : XM) : xru (xlk (pX0_served Post)) cut WW (n + 1) 31 L st M = j_iret Post 31 L st M (xkk (xlk (pX0_served Post)) cut WW n) := (rfl)
set_option maxRecDepth 100000 in
theorem kX0_served_loop {Post : XPo} {WW : XK} (hC : XCl (xlk (pX0_served Post)) WW) {M : XM} {i : Int} (hv : xval 1 i 0) (hG : fG M i) : ∀ (n : Nat) (u many : Int), 0 ≤ u → u + n = M 1 i 0 10 → Post [xI (many + sf (nserved M i) u n)] M → WW 4 [some (xR 1 i 0), some (xI many), some (xI u)] [] M := by
  have hv7 : xval 7 i 0 := hv
  have hi := xv_film hv
  obtain ⟨⟨hc1, hc2, hc3, hc4, hc5⟩, hS, hK, hL, hU⟩ := hG
  intro n
  induction n with
  | zero =>
    intro u many h0 h1 h
    have e : u = M 1 i 0 10 := by omega
    have hr1 : XInR (M 1 i 0 10) := ⟨by omega, by omega⟩
    simp only [sf, Int.add_zero] at h
    subst e
    refine xru_ok hC [4] 40 _ _ _ _ ?_
    simp only [xkk_ap, Int.reduceEq, Int.reduceLT, Int.reduceLE, Int.reduceNeg, Int.reduceAdd, Int.reduceSub, Int.reduceMul, and_self, false_and, and_false, not_true_eq_false, not_false_eq_true, true_implies, false_implies, xq0, xq1, xq2, xq3, xq4, xq5, xqR, xq1R, xq3R, xt1, xt2, xt3, List.mem_cons, List.not_mem_nil, or_false, false_or, or_self, if_false, if_true, reduceIte, reduceCtorEq, xent, xen, List.length_cons, List.length_nil, List.replicate, j_c, j_cJ, j_ild, j_ald, j_lld, j_ist, j_ast, j_lst, j_inc, j_add, j_sub, j_mul, j_neg, j_div, j_rem, j_and, j_shr, j_shl1, j_or, j_ladd, j_lsub, j_lmul, j_i2l, j_lcmp, j_i2c, j_dup, j_dup2, j_pop, j_goto, j_ieq, j_ine, j_ilt, j_ige, j_igt, j_ile, j_eq, j_ne, j_lt, j_ge, j_gt, j_le, xsw, j_tsw, j_gI, j_gJ, j_gR, j_pI, j_pJ, j_gs, j_iald, j_iast, j_cald, j_cast, j_aald, j_cpy, j_min, j_max, j_abs, j_iret, j_zret, j_lret, j_dret, j_ret0, j_V0, j_V1, j_V2, j_V3, j_V4, j_V5, j_S1, j_S2, j_S3, xget, xset, xset2, xclr, xc1, xcat, Nat.reduceAdd, Nat.reduceEqDiff, Nat.reduceLT, Nat.reduceLeDiff, Nat.reduceMul, List.cons_append, List.nil_append, true_and, and_true, List.singleton_append, fX0_served_0, fX0_served_1, fX0_served_2, fX0_served_3, fX0_served_4, fX0_served_5, fX0_served_6, fX0_served_9, fX0_served_12, fX0_served_13, fX0_served_14, fX0_served_17, fX0_served_18, fX0_served_19, fX0_served_22, fX0_served_23, fX0_served_24, fX0_served_27, fX0_served_30, fX0_served_31, hv, hr1, Int.le_refl]
    exact h
  | succ n ih =>
    intro u many h0 h1 h
    have hlt : u < M 1 i 0 10 := by omega
    have hge : ¬ M 1 i 0 10 ≤ u := by omega
    have hr1 : XInR (M 1 i 0 10) := ⟨by omega, by omega⟩
    have hr2 : XInR u := ⟨by omega, by omega⟩
    have hu : u < 12 := by omega
    have hvu : xval 14 i u := xv_of14 hi h0 hu
    have hn := fU_in hU (by decide) h0 hu
    simp only [sf] at h
    rw [← Int.add_assoc] at h
    have hb := ih (u + 1) (many + nserved M i u) (by omega) (by omega) h
    simp only [nserved] at hb
    refine xru_ok hC [4] 60 _ _ _ _ ?_
    simp only [xkk_ap, Int.reduceEq, Int.reduceLT, Int.reduceLE, Int.reduceNeg, Int.reduceAdd, Int.reduceSub, Int.reduceMul, and_self, false_and, and_false, not_true_eq_false, not_false_eq_true, true_implies, false_implies, xq0, xq1, xq2, xq3, xq4, xq5, xqR, xq1R, xq3R, xt1, xt2, xt3, List.mem_cons, List.not_mem_nil, or_false, false_or, or_self, if_false, if_true, reduceIte, reduceCtorEq, xent, xen, List.length_cons, List.length_nil, List.replicate, j_c, j_cJ, j_ild, j_ald, j_lld, j_ist, j_ast, j_lst, j_inc, j_add, j_sub, j_mul, j_neg, j_div, j_rem, j_and, j_shr, j_shl1, j_or, j_ladd, j_lsub, j_lmul, j_i2l, j_lcmp, j_i2c, j_dup, j_dup2, j_pop, j_goto, j_ieq, j_ine, j_ilt, j_ige, j_igt, j_ile, j_eq, j_ne, j_lt, j_ge, j_gt, j_le, xsw, j_tsw, j_gI, j_gJ, j_gR, j_pI, j_pJ, j_gs, j_iald, j_iast, j_cald, j_cast, j_aald, j_cpy, j_min, j_max, j_abs, j_iret, j_zret, j_lret, j_dret, j_ret0, j_V0, j_V1, j_V2, j_V3, j_V4, j_V5, j_S1, j_S2, j_S3, xget, xset, xset2, xclr, xc1, xcat, Nat.reduceAdd, Nat.reduceEqDiff, Nat.reduceLT, Nat.reduceLeDiff, Nat.reduceMul, List.cons_append, List.nil_append, true_and, and_true, List.singleton_append, fX0_served_0, fX0_served_1, fX0_served_2, fX0_served_3, fX0_served_4, fX0_served_5, fX0_served_6, fX0_served_9, fX0_served_12, fX0_served_13, fX0_served_14, fX0_served_17, fX0_served_18, fX0_served_19, fX0_served_22, fX0_served_23, fX0_served_24, fX0_served_27, fX0_served_30, fX0_served_31, xr_c (n := 0) rfl, hv, hv7, hvu, hr1, hr2, h0, hu, hlt, hge, xcat, xc1, Nat.zero_le, Nat.reduceLeDiff, hn.1]
    exact hb
def tX0_served (M : XM) (i : Int) : Int := sf (nserved M i) 0 (M 1 i 0 10).toNat
def sX0_served : XSp := xq0 1 (fun i k M Q => fG M i ∧ Q [xI (tX0_served M i)] M)
set_option maxRecDepth 100000 in
theorem kX0_served : XCn yX0_served wX0_served rX0_served sX0_served := XC0 pX0_served rfl rfl aX0_served (by decide) (fun i k M Post hv h WW hC => by
  obtain rfl := xk1 hv
  obtain ⟨hG, h⟩ := h
  have hc := hG.1
  unfold fC at hc
  have hk := kX0_served_loop hC hv hG (M 1 i 0 10).toNat 0 0 (by decide) (by omega) (by rw [Int.zero_add]; exact h)
  show WW 0 [some (xR 1 i 0), none, none] [] M
  refine xru_ok hC [4] 20 _ _ _ _ ?_
  simp only [xkk_ap, Int.reduceEq, Int.reduceLT, Int.reduceLE, Int.reduceNeg, Int.reduceAdd, Int.reduceSub, Int.reduceMul, and_self, false_and, and_false, not_true_eq_false, not_false_eq_true, true_implies, false_implies, xq0, xq1, xq2, xq3, xq4, xq5, xqR, xq1R, xq3R, xt1, xt2, xt3, List.mem_cons, List.not_mem_nil, or_false, false_or, or_self, if_false, if_true, reduceIte, reduceCtorEq, xent, xen, List.length_cons, List.length_nil, List.replicate, j_c, j_cJ, j_ild, j_ald, j_lld, j_ist, j_ast, j_lst, j_inc, j_add, j_sub, j_mul, j_neg, j_div, j_rem, j_and, j_shr, j_shl1, j_or, j_ladd, j_lsub, j_lmul, j_i2l, j_lcmp, j_i2c, j_dup, j_dup2, j_pop, j_goto, j_ieq, j_ine, j_ilt, j_ige, j_igt, j_ile, j_eq, j_ne, j_lt, j_ge, j_gt, j_le, xsw, j_tsw, j_gI, j_gJ, j_gR, j_pI, j_pJ, j_gs, j_iald, j_iast, j_cald, j_cast, j_aald, j_cpy, j_min, j_max, j_abs, j_iret, j_zret, j_lret, j_dret, j_ret0, j_V0, j_V1, j_V2, j_V3, j_V4, j_V5, j_S1, j_S2, j_S3, xget, xset, xset2, xclr, xc1, xcat, Nat.reduceAdd, Nat.reduceEqDiff, Nat.reduceLT, Nat.reduceLeDiff, Nat.reduceMul, List.cons_append, List.nil_append, true_and, and_true, List.singleton_append, fX0_served_0, fX0_served_1, fX0_served_2, fX0_served_3, fX0_served_4, fX0_served_5, fX0_served_6, fX0_served_9, fX0_served_12, fX0_served_13, fX0_served_14, fX0_served_17, fX0_served_18, fX0_served_19, fX0_served_22, fX0_served_23, fX0_served_24, fX0_served_27, fX0_served_30, fX0_served_31, hv]
  exact hk)
def nthrownK (M : XM) (i : Int) : Int → Int := fun u => M 8 i u 6
def nthrownL (M : XM) (i : Int) : Int → Int := fun u => M 13 i u 5
/-- UnitKitchens$Film.thrown()I -/
abbrev wX0_thrown : List Cond := Cond.code yX0_thrown cX0_thrown 3 (some .int) :: xT
abbrev rX0_thrown : Room := { frames := 0, cells := 0, slots := 0, locals := 0 }
def pX0_thrown (Post : XPo) : List (Nat × XStp) := [(0, j_c 0 1), (1, j_ist 1 1), (2, j_c 0 1), (3, j_ist 2 1), (4, j_ild 2 1), (5, j_ald 0 1), (6, j_gI 1 6), (9, j_ige 30), (12, j_ild 1 1), (13, j_ald 0 1), (14, j_gR 1 (fun i k => (5, i, 0))), (17, j_ild 2 1), (18, j_aald), (19, j_gI 8 6), (22, j_add), (23, j_ist 1 1), (24, j_inc 2 1), (27, j_goto 4), (30, j_c 0 1), (31, j_ist 2 1), (32, j_ild 2 1), (33, j_ald 0 1), (34, j_gI 1 8), (37, j_ige 58), (40, j_ild 1 1), (41, j_ald 0 1), (42, j_gR 1 (fun i k => (6, i, 0))), (45, j_ild 2 1), (46, j_aald), (47, j_gI 13 5), (50, j_add), (51, j_ist 1 1), (52, j_inc 2 1), (55, j_goto 32), (58, j_ild 1 1), (59, j_iret Post)]
set_option maxRecDepth 100000 in
theorem aX0_thrown (Post : XPo) : XAll rX0_thrown cX0_thrown 3 RX0 wX0_thrown (some .int) Post (pX0_thrown Post) := XAll.cons (xs_iconst dX0_thrown_0) (XAll.cons (xs_istore_n dX0_thrown_1 rfl (by decide)) (XAll.cons (xs_iconst dX0_thrown_2) (XAll.cons (xs_istore_n dX0_thrown_3 rfl (by decide)) (XAll.cons (xs_iload_n dX0_thrown_4 rfl) (XAll.cons (xs_aload_n dX0_thrown_5 rfl) (XAll.cons (fgX0_6 tw_202 dX0_thrown_6) (XAll.cons (xs_icmp_ge dX0_thrown_9 (by decide)) (XAll.cons (xs_iload_n dX0_thrown_12 rfl) (XAll.cons (xs_aload_n dX0_thrown_13 rfl) (XAll.cons (fgX0_7 tw_204 dX0_thrown_14) (XAll.cons (xs_iload_n dX0_thrown_17 rfl) (XAll.cons (xs_aald dX0_thrown_18) (XAll.cons (fgX1_6 tw_82 dX0_thrown_19) (XAll.cons (xs_iadd dX0_thrown_22) (XAll.cons (xs_istore_n dX0_thrown_23 rfl (by decide)) (XAll.cons (xs_iinc dX0_thrown_24 (by decide)) (XAll.cons (xs_goto dX0_thrown_27 (by decide)) (XAll.cons (xs_iconst dX0_thrown_30) (XAll.cons (xs_istore_n dX0_thrown_31 rfl (by decide)) (XAll.cons (xs_iload_n dX0_thrown_32 rfl) (XAll.cons (xs_aload_n dX0_thrown_33 rfl) (XAll.cons (fgX0_8 tw_206 dX0_thrown_34) (XAll.cons (xs_icmp_ge dX0_thrown_37 (by decide)) (XAll.cons (xs_iload_n dX0_thrown_40 rfl) (XAll.cons (xs_aload_n dX0_thrown_41 rfl) (XAll.cons (fgX0_9 tw_208 dX0_thrown_42) (XAll.cons (xs_iload_n dX0_thrown_45 rfl) (XAll.cons (xs_aald dX0_thrown_46) (XAll.cons (fgX2_5 tw_118 dX0_thrown_47) (XAll.cons (xs_iadd dX0_thrown_50) (XAll.cons (xs_istore_n dX0_thrown_51 rfl (by decide)) (XAll.cons (xs_iinc dX0_thrown_52 (by decide)) (XAll.cons (xs_goto dX0_thrown_55 (by decide)) (XAll.cons (xs_iload_n dX0_thrown_58 rfl) (XAll.cons (xs_iret rfl dX0_thrown_59) (XAll.nil))))))))))))))))))))))))))))))))))))
theorem fX0_thrown_0 (Post : XPo) (cut : List Nat) (WW : XK) (n : Nat) (L : XLs) (st : List XV) (M : XM) : xru (xlk (pX0_thrown Post)) cut WW (n + 1) 0 L st M = j_c 0 1 0 L st M (xkk (xlk (pX0_thrown Post)) cut WW n) := (rfl)
theorem fX0_thrown_1 (Post : XPo) (cut : List Nat) (WW : XK) (n : Nat) (L : XLs) (st : List XV) (M : XM) : xru (xlk (pX0_thrown Post)) cut WW (n + 1) 1 L st M = j_ist 1 1 1 L st M (xkk (xlk (pX0_thrown Post)) cut WW n) := (rfl)
theorem fX0_thrown_2 (Post : XPo) (cut : List Nat) (WW : XK) (n : Nat) (L : XLs) (st : List XV) (M : XM) : xru (xlk (pX0_thrown Post)) cut WW (n + 1) 2 L st M = j_c 0 1 2 L st M (xkk (xlk (pX0_thrown Post)) cut WW n) := (rfl)
theorem fX0_thrown_3 (Post : XPo) (cut : List Nat) (WW : XK) (n : Nat) (L : XLs) (st : List XV) (M : XM) : xru (xlk (pX0_thrown Post)) cut WW (n + 1) 3 L st M = j_ist 2 1 3 L st M (xkk (xlk (pX0_thrown Post)) cut WW n) := (rfl)
theorem fX0_thrown_4 (Post : XPo) (cut : List Nat) (WW : XK) (n : Nat) (L : XLs) (st : List XV) (M : XM) : xru (xlk (pX0_thrown Post)) cut WW (n + 1) 4 L st M = j_ild 2 1 4 L st M (xkk (xlk (pX0_thrown Post)) cut WW n) := (rfl)
theorem fX0_thrown_5 (Post : XPo) (cut : List Nat) (WW : XK) (n : Nat) (L : XLs) (st : List XV) (M : XM) : xru (xlk (pX0_thrown Post)) cut WW (n + 1) 5 L st M = j_ald 0 1 5 L st M (xkk (xlk (pX0_thrown Post)) cut WW n) := (rfl)
theorem fX0_thrown_6 (Post : XPo) (cut : List Nat) (WW : XK) (n : Nat) (L : XLs) (st : List XV) (M : XM) : xru (xlk (pX0_thrown Post)) cut WW (n + 1) 6 L st M = j_gI 1 6 6 L st M (xkk (xlk (pX0_thrown Post)) cut WW n) := (rfl)
theorem fX0_thrown_9 (Post : XPo) (cut : List Nat) (WW : XK) (n : Nat) (L : XLs) (st : List XV) (M : XM) : xru (xlk (pX0_thrown Post)) cut WW (n + 1) 9 L st M = j_ige 30 9 L st M (xkk (xlk (pX0_thrown Post)) cut WW n) := (rfl)
theorem fX0_thrown_12 (Post : XPo) (cut : List Nat) (WW : XK) (n : Nat) (L : XLs) (st : List XV) (M : XM) : xru (xlk (pX0_thrown Post)) cut WW (n + 1) 12 L st M = j_ild 1 1 12 L st M (xkk (xlk (pX0_thrown Post)) cut WW n) := (rfl)
theorem fX0_thrown_13 (Post : XPo) (cut : List Nat) (WW : XK) (n : Nat) (L : XLs) (st : List XV) (M : XM) : xru (xlk (pX0_thrown Post)) cut WW (n + 1) 13 L st M = j_ald 0 1 13 L st M (xkk (xlk (pX0_thrown Post)) cut WW n) := (rfl)
theorem fX0_thrown_14 (Post : XPo) (cut : List Nat) (WW : XK) (n : Nat) (L : XLs) (st : List XV) (M : XM) : xru (xlk (pX0_thrown Post)) cut WW (n + 1) 14 L st M = j_gR 1 (fun i k => (5, i, 0)) 14 L st M (xkk (xlk (pX0_thrown Post)) cut WW n) := (rfl)
theorem fX0_thrown_17 (Post : XPo) (cut : List Nat) (WW : XK) (n : Nat) (L : XLs) (st : List XV) (M : XM) : xru (xlk (pX0_thrown Post)) cut WW (n + 1) 17 L st M = j_ild 2 1 17 L st M (xkk (xlk (pX0_thrown Post)) cut WW n) := (rfl)
theorem fX0_thrown_18 (Post : XPo) (cut : List Nat) (WW : XK) (n : Nat) (L : XLs) (st : List XV) (M : XM) : xru (xlk (pX0_thrown Post)) cut WW (n + 1) 18 L st M = j_aald 18 L st M (xkk (xlk (pX0_thrown Post)) cut WW n) := (rfl)
theorem fX0_thrown_19 (Post : XPo) (cut : List Nat) (WW : XK) (n : Nat) (L : XLs) (st : List XV) (M : XM) : xru (xlk (pX0_thrown Post)) cut WW (n + 1) 19 L st M = j_gI 8 6 19 L st M (xkk (xlk (pX0_thrown Post)) cut WW n) := (rfl)
theorem fX0_thrown_22 (Post : XPo) (cut : List Nat) (WW : XK) (n : Nat) (L : XLs) (st : List XV) (M : XM) : xru (xlk (pX0_thrown Post)) cut WW (n + 1) 22 L st M = j_add 22 L st M (xkk (xlk (pX0_thrown Post)) cut WW n) := (rfl)
theorem fX0_thrown_23 (Post : XPo) (cut : List Nat) (WW : XK) (n : Nat) (L : XLs) (st : List XV) (M : XM) : xru (xlk (pX0_thrown Post)) cut WW (n + 1) 23 L st M = j_ist 1 1 23 L st M (xkk (xlk (pX0_thrown Post)) cut WW n) := (rfl)
theorem fX0_thrown_24 (Post : XPo) (cut : List Nat) (WW : XK) (n : Nat) (L : XLs) (st : List XV) (M : XM) : xru (xlk (pX0_thrown Post)) cut WW (n + 1) 24 L st M = j_inc 2 1 24 L st M (xkk (xlk (pX0_thrown Post)) cut WW n) := (rfl)
theorem fX0_thrown_27 (Post : XPo) (cut : List Nat) (WW : XK) (n : Nat) (L : XLs) (st : List XV) (M : XM) : xru (xlk (pX0_thrown Post)) cut WW (n + 1) 27 L st M = j_goto 4 27 L st M (xkk (xlk (pX0_thrown Post)) cut WW n) := (rfl)
theorem fX0_thrown_30 (Post : XPo) (cut : List Nat) (WW : XK) (n : Nat) (L : XLs) (st : List XV) (M : XM) : xru (xlk (pX0_thrown Post)) cut WW (n + 1) 30 L st M = j_c 0 1 30 L st M (xkk (xlk (pX0_thrown Post)) cut WW n) := (rfl)
theorem fX0_thrown_31 (Post : XPo) (cut : List Nat) (WW : XK) (n : Nat) (L : XLs) (st : List XV) (M : XM) : xru (xlk (pX0_thrown Post)) cut WW (n + 1) 31 L st M = j_ist 2 1 31 L st M (xkk (xlk (pX0_thrown Post)) cut WW n) := (rfl)
theorem fX0_thrown_32 (Post : XPo) (cut : List Nat) (WW : XK) (n : Nat) (L : XLs) (st : List XV) (M : XM) : xru (xlk (pX0_thrown Post)) cut WW (n + 1) 32 L st M = j_ild 2 1 32 L st M (xkk (xlk (pX0_thrown Post)) cut WW n) := (rfl)
theorem fX0_thrown_33 (Post : XPo) (cut : List Nat) (WW : XK) (n : Nat) (L : XLs) (st : List XV) (M : XM) : xru (xlk (pX0_thrown Post)) cut WW (n + 1) 33 L st M = j_ald 0 1 33 L st M (xkk (xlk (pX0_thrown Post)) cut WW n) := (rfl)
theorem fX0_thrown_34 (Post : XPo) (cut : List Nat) (WW : XK) (n : Nat) (L : XLs) (st : List XV) (M : XM) : xru (xlk (pX0_thrown Post)) cut WW (n + 1) 34 L st M = j_gI 1 8 34 L st M (xkk (xlk (pX0_thrown Post)) cut WW n) := (rfl)
theorem fX0_thrown_37 (Post : XPo) (cut : List Nat) (WW : XK) (n : Nat) (L : XLs) (st : List XV) (M : XM) : xru (xlk (pX0_thrown Post)) cut WW (n + 1) 37 L st M = j_ige 58 37 L st M (xkk (xlk (pX0_thrown Post)) cut WW n) := (rfl)
theorem fX0_thrown_40 (Post : XPo) (cut : List Nat) (WW : XK) (n : Nat) (L : XLs) (st : List XV) (M : XM) : xru (xlk (pX0_thrown Post)) cut WW (n + 1) 40 L st M = j_ild 1 1 40 L st M (xkk (xlk (pX0_thrown Post)) cut WW n) := (rfl)
theorem fX0_thrown_41 (Post : XPo) (cut : List Nat) (WW : XK) (n : Nat) (L : XLs) (st : List XV) (M : XM) : xru (xlk (pX0_thrown Post)) cut WW (n + 1) 41 L st M = j_ald 0 1 41 L st M (xkk (xlk (pX0_thrown Post)) cut WW n) := (rfl)
theorem fX0_thrown_42 (Post : XPo) (cut : List Nat) (WW : XK) (n : Nat) (L : XLs) (st : List XV) (M : XM) : xru (xlk (pX0_thrown Post)) cut WW (n + 1) 42 L st M = j_gR 1 (fun i k => (6, i, 0)) 42 L st M (xkk (xlk (pX0_thrown Post)) cut WW n) := (rfl)
theorem fX0_thrown_45 (Post : XPo) (cut : List Nat) (WW : XK) (n : Nat) (L : XLs) (st : List XV) (M : XM) : xru (xlk (pX0_thrown Post)) cut WW (n + 1) 45 L st M = j_ild 2 1 45 L st M (xkk (xlk (pX0_thrown Post)) cut WW n) := (rfl)
theorem fX0_thrown_46 (Post : XPo) (cut : List Nat) (WW : XK) (n : Nat) (L : XLs) (st : List XV) (M : XM) : xru (xlk (pX0_thrown Post)) cut WW (n + 1) 46 L st M = j_aald 46 L st M (xkk (xlk (pX0_thrown Post)) cut WW n) := (rfl)
theorem fX0_thrown_47 (Post : XPo) (cut : List Nat) (WW : XK) (n : Nat) (L : XLs) (st : List XV) (M : XM) : xru (xlk (pX0_thrown Post)) cut WW (n + 1) 47 L st M = j_gI 13 5 47 L st M (xkk (xlk (pX0_thrown Post)) cut WW n) := (rfl)
theorem fX0_thrown_50 (Post : XPo) (cut : List Nat) (WW : XK) (n : Nat) (L : XLs) (st : List XV) (M : XM) : xru (xlk (pX0_thrown Post)) cut WW (n + 1) 50 L st M = j_add 50 L st M (xkk (xlk (pX0_thrown Post)) cut WW n) := (rfl)
theorem fX0_thrown_51 (Post : XPo) (cut : List Nat) (WW : XK) (n : Nat) (L : XLs) (st : List XV) (M : XM) : xru (xlk (pX0_thrown Post)) cut WW (n + 1) 51 L st M = j_ist 1 1 51 L st M (xkk (xlk (pX0_thrown Post)) cut WW n) := (rfl)
theorem fX0_thrown_52 (Post : XPo) (cut : List Nat) (WW : XK) (n : Nat) (L : XLs) (st : List XV) (M : XM) : xru (xlk (pX0_thrown Post)) cut WW (n + 1) 52 L st M = j_inc 2 1 52 L st M (xkk (xlk (pX0_thrown Post)) cut WW n) := (rfl)
theorem fX0_thrown_55 (Post : XPo) (cut : List Nat) (WW : XK) (n : Nat) (L : XLs) (st : List XV) (M : XM) : xru (xlk (pX0_thrown Post)) cut WW (n + 1) 55 L st M = j_goto 32 55 L st M (xkk (xlk (pX0_thrown Post)) cut WW n) := (rfl)
theorem fX0_thrown_58 (Post : XPo) (cut : List Nat) (WW : XK) (n : Nat) (L : XLs) (st : List XV) (M : XM) : xru (xlk (pX0_thrown Post)) cut WW (n + 1) 58 L st M = j_ild 1 1 58 L st M (xkk (xlk (pX0_thrown Post)) cut WW n) := (rfl)
theorem fX0_thrown_59 (Post : XPo) (cut : List Nat) (WW : XK) (n : Nat) (L : XLs) (st : List XV) (M : XM) : xru (xlk (pX0_thrown Post)) cut WW (n + 1) 59 L st M = j_iret Post 59 L st M (xkk (xlk (pX0_thrown Post)) cut WW n) := (rfl)
set_option maxRecDepth 100000 in
theorem kX0_thrown_loopL {Post : XPo} {WW : XK} (hC : XCl (xlk (pX0_thrown Post)) WW) {M : XM} {i : Int} (hv : xval 1 i 0) (hG : fG M i) : ∀ (n : Nat) (u many : Int), 0 ≤ u → u + n = M 1 i 0 8 → Post [xI (many + sf (nthrownL M i) u n)] M → WW 32 [some (xR 1 i 0), some (xI many), some (xI u)] [] M := by
  have hv7 : xval 6 i 0 := hv
  have hi := xv_film hv
  obtain ⟨⟨hc1, hc2, hc3, hc4, hc5⟩, hS, hK, hL, hU⟩ := hG
  intro n
  induction n with
  | zero =>
    intro u many h0 h1 h
    have e : u = M 1 i 0 8 := by omega
    have hr1 : XInR (M 1 i 0 8) := ⟨by omega, by omega⟩
    simp only [sf, Int.add_zero] at h
    subst e
    refine xru_ok hC [4, 32] 40 _ _ _ _ ?_
    simp only [xkk_ap, Int.reduceEq, Int.reduceLT, Int.reduceLE, Int.reduceNeg, Int.reduceAdd, Int.reduceSub, Int.reduceMul, and_self, false_and, and_false, not_true_eq_false, not_false_eq_true, true_implies, false_implies, xq0, xq1, xq2, xq3, xq4, xq5, xqR, xq1R, xq3R, xt1, xt2, xt3, List.mem_cons, List.not_mem_nil, or_false, false_or, or_self, if_false, if_true, reduceIte, reduceCtorEq, xent, xen, List.length_cons, List.length_nil, List.replicate, j_c, j_cJ, j_ild, j_ald, j_lld, j_ist, j_ast, j_lst, j_inc, j_add, j_sub, j_mul, j_neg, j_div, j_rem, j_and, j_shr, j_shl1, j_or, j_ladd, j_lsub, j_lmul, j_i2l, j_lcmp, j_i2c, j_dup, j_dup2, j_pop, j_goto, j_ieq, j_ine, j_ilt, j_ige, j_igt, j_ile, j_eq, j_ne, j_lt, j_ge, j_gt, j_le, xsw, j_tsw, j_gI, j_gJ, j_gR, j_pI, j_pJ, j_gs, j_iald, j_iast, j_cald, j_cast, j_aald, j_cpy, j_min, j_max, j_abs, j_iret, j_zret, j_lret, j_dret, j_ret0, j_V0, j_V1, j_V2, j_V3, j_V4, j_V5, j_S1, j_S2, j_S3, xget, xset, xset2, xclr, xc1, xcat, Nat.reduceAdd, Nat.reduceEqDiff, Nat.reduceLT, Nat.reduceLeDiff, Nat.reduceMul, List.cons_append, List.nil_append, true_and, and_true, List.singleton_append, fX0_thrown_0, fX0_thrown_1, fX0_thrown_2, fX0_thrown_3, fX0_thrown_4, fX0_thrown_5, fX0_thrown_6, fX0_thrown_9, fX0_thrown_12, fX0_thrown_13, fX0_thrown_14, fX0_thrown_17, fX0_thrown_18, fX0_thrown_19, fX0_thrown_22, fX0_thrown_23, fX0_thrown_24, fX0_thrown_27, fX0_thrown_30, fX0_thrown_31, fX0_thrown_32, fX0_thrown_33, fX0_thrown_34, fX0_thrown_37, fX0_thrown_40, fX0_thrown_41, fX0_thrown_42, fX0_thrown_45, fX0_thrown_46, fX0_thrown_47, fX0_thrown_50, fX0_thrown_51, fX0_thrown_52, fX0_thrown_55, fX0_thrown_58, fX0_thrown_59, hv, hr1, Int.le_refl]
    exact h
  | succ n ih =>
    intro u many h0 h1 h
    have hlt : u < M 1 i 0 8 := by omega
    have hge : ¬ M 1 i 0 8 ≤ u := by omega
    have hr1 : XInR (M 1 i 0 8) := ⟨by omega, by omega⟩
    have hr2 : XInR u := ⟨by omega, by omega⟩
    have hu : u < 4 := by omega
    have hvu : xval 13 i u := xv_of13 hi h0 hu
    have hv10 : xval 10 i (u + 3) := xv_of10 hi (by omega) (by omega)
    have hk := hL u h0 hu
    have hn : XInR (M 13 i u 0) := ⟨by omega, by omega⟩
    simp only [sf] at h
    rw [← Int.add_assoc] at h
    have hb := ih (u + 1) (many + nthrownL M i u) (by omega) (by omega) h
    simp only [nthrownL] at hb
    refine xru_ok hC [4, 32] 60 _ _ _ _ ?_
    simp only [xkk_ap, Int.reduceEq, Int.reduceLT, Int.reduceLE, Int.reduceNeg, Int.reduceAdd, Int.reduceSub, Int.reduceMul, and_self, false_and, and_false, not_true_eq_false, not_false_eq_true, true_implies, false_implies, xq0, xq1, xq2, xq3, xq4, xq5, xqR, xq1R, xq3R, xt1, xt2, xt3, List.mem_cons, List.not_mem_nil, or_false, false_or, or_self, if_false, if_true, reduceIte, reduceCtorEq, xent, xen, List.length_cons, List.length_nil, List.replicate, j_c, j_cJ, j_ild, j_ald, j_lld, j_ist, j_ast, j_lst, j_inc, j_add, j_sub, j_mul, j_neg, j_div, j_rem, j_and, j_shr, j_shl1, j_or, j_ladd, j_lsub, j_lmul, j_i2l, j_lcmp, j_i2c, j_dup, j_dup2, j_pop, j_goto, j_ieq, j_ine, j_ilt, j_ige, j_igt, j_ile, j_eq, j_ne, j_lt, j_ge, j_gt, j_le, xsw, j_tsw, j_gI, j_gJ, j_gR, j_pI, j_pJ, j_gs, j_iald, j_iast, j_cald, j_cast, j_aald, j_cpy, j_min, j_max, j_abs, j_iret, j_zret, j_lret, j_dret, j_ret0, j_V0, j_V1, j_V2, j_V3, j_V4, j_V5, j_S1, j_S2, j_S3, xget, xset, xset2, xclr, xc1, xcat, Nat.reduceAdd, Nat.reduceEqDiff, Nat.reduceLT, Nat.reduceLeDiff, Nat.reduceMul, List.cons_append, List.nil_append, true_and, and_true, List.singleton_append, fX0_thrown_0, fX0_thrown_1, fX0_thrown_2, fX0_thrown_3, fX0_thrown_4, fX0_thrown_5, fX0_thrown_6, fX0_thrown_9, fX0_thrown_12, fX0_thrown_13, fX0_thrown_14, fX0_thrown_17, fX0_thrown_18, fX0_thrown_19, fX0_thrown_22, fX0_thrown_23, fX0_thrown_24, fX0_thrown_27, fX0_thrown_30, fX0_thrown_31, fX0_thrown_32, fX0_thrown_33, fX0_thrown_34, fX0_thrown_37, fX0_thrown_40, fX0_thrown_41, fX0_thrown_42, fX0_thrown_45, fX0_thrown_46, fX0_thrown_47, fX0_thrown_50, fX0_thrown_51, fX0_thrown_52, fX0_thrown_55, fX0_thrown_58, fX0_thrown_59, xr_c (n := 0) rfl, hv, hv7, hvu, hr1, hr2, h0, hu, hlt, hge, xcat, xc1, Nat.zero_le, Nat.reduceLeDiff, hn]
    exact hb
set_option maxRecDepth 100000 in
theorem kX0_thrown_loopK {Post : XPo} {WW : XK} (hC : XCl (xlk (pX0_thrown Post)) WW) {M : XM} {i : Int} (hv : xval 1 i 0) (hG : fG M i) : ∀ (n : Nat) (u many : Int), 0 ≤ u → u + n = M 1 i 0 6 → WW 32 [some (xR 1 i 0), some (xI (many + sf (nthrownK M i) u n)), some (xI 0)] [] M → WW 4 [some (xR 1 i 0), some (xI many), some (xI u)] [] M := by
  have hv7 : xval 5 i 0 := hv
  have hi := xv_film hv
  obtain ⟨⟨hc1, hc2, hc3, hc4, hc5⟩, hS, hK, hL, hU⟩ := hG
  intro n
  induction n with
  | zero =>
    intro u many h0 h1 h
    have e : u = M 1 i 0 6 := by omega
    have hr1 : XInR (M 1 i 0 6) := ⟨by omega, by omega⟩
    simp only [sf, Int.add_zero] at h
    subst e
    refine xru_ok hC [4, 32] 40 _ _ _ _ ?_
    simp only [xkk_ap, Int.reduceEq, Int.reduceLT, Int.reduceLE, Int.reduceNeg, Int.reduceAdd, Int.reduceSub, Int.reduceMul, and_self, false_and, and_false, not_true_eq_false, not_false_eq_true, true_implies, false_implies, xq0, xq1, xq2, xq3, xq4, xq5, xqR, xq1R, xq3R, xt1, xt2, xt3, List.mem_cons, List.not_mem_nil, or_false, false_or, or_self, if_false, if_true, reduceIte, reduceCtorEq, xent, xen, List.length_cons, List.length_nil, List.replicate, j_c, j_cJ, j_ild, j_ald, j_lld, j_ist, j_ast, j_lst, j_inc, j_add, j_sub, j_mul, j_neg, j_div, j_rem, j_and, j_shr, j_shl1, j_or, j_ladd, j_lsub, j_lmul, j_i2l, j_lcmp, j_i2c, j_dup, j_dup2, j_pop, j_goto, j_ieq, j_ine, j_ilt, j_ige, j_igt, j_ile, j_eq, j_ne, j_lt, j_ge, j_gt, j_le, xsw, j_tsw, j_gI, j_gJ, j_gR, j_pI, j_pJ, j_gs, j_iald, j_iast, j_cald, j_cast, j_aald, j_cpy, j_min, j_max, j_abs, j_iret, j_zret, j_lret, j_dret, j_ret0, j_V0, j_V1, j_V2, j_V3, j_V4, j_V5, j_S1, j_S2, j_S3, xget, xset, xset2, xclr, xc1, xcat, Nat.reduceAdd, Nat.reduceEqDiff, Nat.reduceLT, Nat.reduceLeDiff, Nat.reduceMul, List.cons_append, List.nil_append, true_and, and_true, List.singleton_append, fX0_thrown_0, fX0_thrown_1, fX0_thrown_2, fX0_thrown_3, fX0_thrown_4, fX0_thrown_5, fX0_thrown_6, fX0_thrown_9, fX0_thrown_12, fX0_thrown_13, fX0_thrown_14, fX0_thrown_17, fX0_thrown_18, fX0_thrown_19, fX0_thrown_22, fX0_thrown_23, fX0_thrown_24, fX0_thrown_27, fX0_thrown_30, fX0_thrown_31, fX0_thrown_32, fX0_thrown_33, fX0_thrown_34, fX0_thrown_37, fX0_thrown_40, fX0_thrown_41, fX0_thrown_42, fX0_thrown_45, fX0_thrown_46, fX0_thrown_47, fX0_thrown_50, fX0_thrown_51, fX0_thrown_52, fX0_thrown_55, fX0_thrown_58, fX0_thrown_59, hv, hr1, Int.le_refl]
    exact h
  | succ n ih =>
    intro u many h0 h1 h
    have hlt : u < M 1 i 0 6 := by omega
    have hge : ¬ M 1 i 0 6 ≤ u := by omega
    have hr1 : XInR (M 1 i 0 6) := ⟨by omega, by omega⟩
    have hr2 : XInR u := ⟨by omega, by omega⟩
    have hu : u < 3 := by omega
    have hvu : xval 8 i u := xv_of8 hi h0 hu
    have hv10 : xval 10 i u := xv_of10 hi h0 (by omega)
    have hk := hK u h0 hu
    have hn : XInR (M 8 i u 0) := ⟨by omega, by omega⟩
    simp only [sf] at h
    rw [← Int.add_assoc] at h
    have hb := ih (u + 1) (many + nthrownK M i u) (by omega) (by omega) h
    simp only [nthrownK] at hb
    refine xru_ok hC [4, 32] 60 _ _ _ _ ?_
    simp only [xkk_ap, Int.reduceEq, Int.reduceLT, Int.reduceLE, Int.reduceNeg, Int.reduceAdd, Int.reduceSub, Int.reduceMul, and_self, false_and, and_false, not_true_eq_false, not_false_eq_true, true_implies, false_implies, xq0, xq1, xq2, xq3, xq4, xq5, xqR, xq1R, xq3R, xt1, xt2, xt3, List.mem_cons, List.not_mem_nil, or_false, false_or, or_self, if_false, if_true, reduceIte, reduceCtorEq, xent, xen, List.length_cons, List.length_nil, List.replicate, j_c, j_cJ, j_ild, j_ald, j_lld, j_ist, j_ast, j_lst, j_inc, j_add, j_sub, j_mul, j_neg, j_div, j_rem, j_and, j_shr, j_shl1, j_or, j_ladd, j_lsub, j_lmul, j_i2l, j_lcmp, j_i2c, j_dup, j_dup2, j_pop, j_goto, j_ieq, j_ine, j_ilt, j_ige, j_igt, j_ile, j_eq, j_ne, j_lt, j_ge, j_gt, j_le, xsw, j_tsw, j_gI, j_gJ, j_gR, j_pI, j_pJ, j_gs, j_iald, j_iast, j_cald, j_cast, j_aald, j_cpy, j_min, j_max, j_abs, j_iret, j_zret, j_lret, j_dret, j_ret0, j_V0, j_V1, j_V2, j_V3, j_V4, j_V5, j_S1, j_S2, j_S3, xget, xset, xset2, xclr, xc1, xcat, Nat.reduceAdd, Nat.reduceEqDiff, Nat.reduceLT, Nat.reduceLeDiff, Nat.reduceMul, List.cons_append, List.nil_append, true_and, and_true, List.singleton_append, fX0_thrown_0, fX0_thrown_1, fX0_thrown_2, fX0_thrown_3, fX0_thrown_4, fX0_thrown_5, fX0_thrown_6, fX0_thrown_9, fX0_thrown_12, fX0_thrown_13, fX0_thrown_14, fX0_thrown_17, fX0_thrown_18, fX0_thrown_19, fX0_thrown_22, fX0_thrown_23, fX0_thrown_24, fX0_thrown_27, fX0_thrown_30, fX0_thrown_31, fX0_thrown_32, fX0_thrown_33, fX0_thrown_34, fX0_thrown_37, fX0_thrown_40, fX0_thrown_41, fX0_thrown_42, fX0_thrown_45, fX0_thrown_46, fX0_thrown_47, fX0_thrown_50, fX0_thrown_51, fX0_thrown_52, fX0_thrown_55, fX0_thrown_58, fX0_thrown_59, xr_c (n := 0) rfl, hv, hv7, hvu, hr1, hr2, h0, hu, hlt, hge, xcat, xc1, Nat.zero_le, Nat.reduceLeDiff, hn]
    exact hb
def tX0_thrown (M : XM) (i : Int) : Int := sf (nthrownK M i) 0 (M 1 i 0 6).toNat + sf (nthrownL M i) 0 (M 1 i 0 8).toNat
def sX0_thrown : XSp := xq0 1 (fun i k M Q => fG M i ∧ Q [xI (tX0_thrown M i)] M)
set_option maxRecDepth 100000 in
theorem kX0_thrown : XCn yX0_thrown wX0_thrown rX0_thrown sX0_thrown := XC0 pX0_thrown rfl rfl aX0_thrown (by decide) (fun i k M Post hv h WW hC => by
  obtain rfl := xk1 hv
  obtain ⟨hG, h⟩ := h
  have hc := hG.1
  unfold fC at hc
  have hk2 := kX0_thrown_loopL hC hv hG (M 1 i 0 8).toNat 0 (sf (nthrownK M i) 0 (M 1 i 0 6).toNat) (by decide) (by omega) h
  have hk := kX0_thrown_loopK hC hv hG (M 1 i 0 6).toNat 0 0 (by decide) (by omega) (by rw [Int.zero_add]; exact hk2)
  show WW 0 [some (xR 1 i 0), none, none] [] M
  refine xru_ok hC [4, 32] 20 _ _ _ _ ?_
  simp only [xkk_ap, Int.reduceEq, Int.reduceLT, Int.reduceLE, Int.reduceNeg, Int.reduceAdd, Int.reduceSub, Int.reduceMul, and_self, false_and, and_false, not_true_eq_false, not_false_eq_true, true_implies, false_implies, xq0, xq1, xq2, xq3, xq4, xq5, xqR, xq1R, xq3R, xt1, xt2, xt3, List.mem_cons, List.not_mem_nil, or_false, false_or, or_self, if_false, if_true, reduceIte, reduceCtorEq, xent, xen, List.length_cons, List.length_nil, List.replicate, j_c, j_cJ, j_ild, j_ald, j_lld, j_ist, j_ast, j_lst, j_inc, j_add, j_sub, j_mul, j_neg, j_div, j_rem, j_and, j_shr, j_shl1, j_or, j_ladd, j_lsub, j_lmul, j_i2l, j_lcmp, j_i2c, j_dup, j_dup2, j_pop, j_goto, j_ieq, j_ine, j_ilt, j_ige, j_igt, j_ile, j_eq, j_ne, j_lt, j_ge, j_gt, j_le, xsw, j_tsw, j_gI, j_gJ, j_gR, j_pI, j_pJ, j_gs, j_iald, j_iast, j_cald, j_cast, j_aald, j_cpy, j_min, j_max, j_abs, j_iret, j_zret, j_lret, j_dret, j_ret0, j_V0, j_V1, j_V2, j_V3, j_V4, j_V5, j_S1, j_S2, j_S3, xget, xset, xset2, xclr, xc1, xcat, Nat.reduceAdd, Nat.reduceEqDiff, Nat.reduceLT, Nat.reduceLeDiff, Nat.reduceMul, List.cons_append, List.nil_append, true_and, and_true, List.singleton_append, fX0_thrown_0, fX0_thrown_1, fX0_thrown_2, fX0_thrown_3, fX0_thrown_4, fX0_thrown_5, fX0_thrown_6, fX0_thrown_9, fX0_thrown_12, fX0_thrown_13, fX0_thrown_14, fX0_thrown_17, fX0_thrown_18, fX0_thrown_19, fX0_thrown_22, fX0_thrown_23, fX0_thrown_24, fX0_thrown_27, fX0_thrown_30, fX0_thrown_31, fX0_thrown_32, fX0_thrown_33, fX0_thrown_34, fX0_thrown_37, fX0_thrown_40, fX0_thrown_41, fX0_thrown_42, fX0_thrown_45, fX0_thrown_46, fX0_thrown_47, fX0_thrown_50, fX0_thrown_51, fX0_thrown_52, fX0_thrown_55, fX0_thrown_58, fX0_thrown_59, hv]
  exact hk)
def nmealsInKitchens (M : XM) (i : Int) : Int → Int := fun u => mAll M i u
/-- UnitKitchens$Film.mealsInKitchens()I -/
abbrev wX0_mealsInKitchens : List Cond := Cond.code yX0_mealsInKitchens cX0_mealsInKitchens 3 (some .int) :: xT
abbrev rX0_mealsInKitchens : Room := { frames := 1, cells := 0, slots := 0, locals := 20 }
def pX0_mealsInKitchens (Post : XPo) : List (Nat × XStp) := [(0, j_c 0 1), (1, j_ist 1 1), (2, j_c 0 1), (3, j_ist 2 1), (4, j_ild 2 1), (5, j_ald 0 1), (6, j_gI 1 6), (9, j_ige 33), (12, j_ild 1 1), (13, j_ald 0 1), (14, j_gR 1 (fun i k => (5, i, 0))), (17, j_ild 2 1), (18, j_aald), (19, j_gR 8 (fun i k => (10, i, k))), (22, j_V0 10 sX3_inAll), (25, j_add), (26, j_ist 1 1), (27, j_inc 2 1), (30, j_goto 4), (33, j_ild 1 1), (34, j_iret Post)]
set_option maxRecDepth 100000 in
theorem aX0_mealsInKitchens (Post : XPo) : XAll rX0_mealsInKitchens cX0_mealsInKitchens 3 RX0 wX0_mealsInKitchens (some .int) Post (pX0_mealsInKitchens Post) := XAll.cons (xs_iconst dX0_mealsInKitchens_0) (XAll.cons (xs_istore_n dX0_mealsInKitchens_1 rfl (by decide)) (XAll.cons (xs_iconst dX0_mealsInKitchens_2) (XAll.cons (xs_istore_n dX0_mealsInKitchens_3 rfl (by decide)) (XAll.cons (xs_iload_n dX0_mealsInKitchens_4 rfl) (XAll.cons (xs_aload_n dX0_mealsInKitchens_5 rfl) (XAll.cons (fgX0_6 tw_202 dX0_mealsInKitchens_6) (XAll.cons (xs_icmp_ge dX0_mealsInKitchens_9 (by decide)) (XAll.cons (xs_iload_n dX0_mealsInKitchens_12 rfl) (XAll.cons (xs_aload_n dX0_mealsInKitchens_13 rfl) (XAll.cons (fgX0_7 tw_204 dX0_mealsInKitchens_14) (XAll.cons (xs_iload_n dX0_mealsInKitchens_17 rfl) (XAll.cons (xs_aald dX0_mealsInKitchens_18) (XAll.cons (fgX1_4 tw_78 dX0_mealsInKitchens_19) (XAll.cons (xs_V0 kX3_inAll ⟨⟨rfl, rfl, by decide, by decide⟩, ⟨by decide, by decide, by decide +kernel⟩, ⟨tw_757, tw_504, tw_505, tw_4, tw_506⟩, 3, TX3, _, rfl, fun G ρ f i k => ⟨_, rfl⟩⟩ dX0_mealsInKitchens_22) (XAll.cons (xs_iadd dX0_mealsInKitchens_25) (XAll.cons (xs_istore_n dX0_mealsInKitchens_26 rfl (by decide)) (XAll.cons (xs_iinc dX0_mealsInKitchens_27 (by decide)) (XAll.cons (xs_goto dX0_mealsInKitchens_30 (by decide)) (XAll.cons (xs_iload_n dX0_mealsInKitchens_33 rfl) (XAll.cons (xs_iret rfl dX0_mealsInKitchens_34) (XAll.nil)))))))))))))))))))))
theorem fX0_mealsInKitchens_0 (Post : XPo) (cut : List Nat) (WW : XK) (n : Nat) (L : XLs) (st : List XV) (M : XM) : xru (xlk (pX0_mealsInKitchens Post)) cut WW (n + 1) 0 L st M = j_c 0 1 0 L st M (xkk (xlk (pX0_mealsInKitchens Post)) cut WW n) := (rfl)
theorem fX0_mealsInKitchens_1 (Post : XPo) (cut : List Nat) (WW : XK) (n : Nat) (L : XLs) (st : List XV) (M : XM) : xru (xlk (pX0_mealsInKitchens Post)) cut WW (n + 1) 1 L st M = j_ist 1 1 1 L st M (xkk (xlk (pX0_mealsInKitchens Post)) cut WW n) := (rfl)
theorem fX0_mealsInKitchens_2 (Post : XPo) (cut : List Nat) (WW : XK) (n : Nat) (L : XLs) (st : List XV) (M : XM) : xru (xlk (pX0_mealsInKitchens Post)) cut WW (n + 1) 2 L st M = j_c 0 1 2 L st M (xkk (xlk (pX0_mealsInKitchens Post)) cut WW n) := (rfl)
theorem fX0_mealsInKitchens_3 (Post : XPo) (cut : List Nat) (WW : XK) (n : Nat) (L : XLs) (st : List XV) (M : XM) : xru (xlk (pX0_mealsInKitchens Post)) cut WW (n + 1) 3 L st M = j_ist 2 1 3 L st M (xkk (xlk (pX0_mealsInKitchens Post)) cut WW n) := (rfl)
theorem fX0_mealsInKitchens_4 (Post : XPo) (cut : List Nat) (WW : XK) (n : Nat) (L : XLs) (st : List XV) (M : XM) : xru (xlk (pX0_mealsInKitchens Post)) cut WW (n + 1) 4 L st M = j_ild 2 1 4 L st M (xkk (xlk (pX0_mealsInKitchens Post)) cut WW n) := (rfl)
theorem fX0_mealsInKitchens_5 (Post : XPo) (cut : List Nat) (WW : XK) (n : Nat) (L : XLs) (st : List XV) (M : XM) : xru (xlk (pX0_mealsInKitchens Post)) cut WW (n + 1) 5 L st M = j_ald 0 1 5 L st M (xkk (xlk (pX0_mealsInKitchens Post)) cut WW n) := (rfl)
theorem fX0_mealsInKitchens_6 (Post : XPo) (cut : List Nat) (WW : XK) (n : Nat) (L : XLs) (st : List XV) (M : XM) : xru (xlk (pX0_mealsInKitchens Post)) cut WW (n + 1) 6 L st M = j_gI 1 6 6 L st M (xkk (xlk (pX0_mealsInKitchens Post)) cut WW n) := (rfl)
theorem fX0_mealsInKitchens_9 (Post : XPo) (cut : List Nat) (WW : XK) (n : Nat) (L : XLs) (st : List XV) (M : XM) : xru (xlk (pX0_mealsInKitchens Post)) cut WW (n + 1) 9 L st M = j_ige 33 9 L st M (xkk (xlk (pX0_mealsInKitchens Post)) cut WW n) := (rfl)
theorem fX0_mealsInKitchens_12 (Post : XPo) (cut : List Nat) (WW : XK) (n : Nat) (L : XLs) (st : List XV) (M : XM) : xru (xlk (pX0_mealsInKitchens Post)) cut WW (n + 1) 12 L st M = j_ild 1 1 12 L st M (xkk (xlk (pX0_mealsInKitchens Post)) cut WW n) := (rfl)
theorem fX0_mealsInKitchens_13 (Post : XPo) (cut : List Nat) (WW : XK) (n : Nat) (L : XLs) (st : List XV) (M : XM) : xru (xlk (pX0_mealsInKitchens Post)) cut WW (n + 1) 13 L st M = j_ald 0 1 13 L st M (xkk (xlk (pX0_mealsInKitchens Post)) cut WW n) := (rfl)
theorem fX0_mealsInKitchens_14 (Post : XPo) (cut : List Nat) (WW : XK) (n : Nat) (L : XLs) (st : List XV) (M : XM) : xru (xlk (pX0_mealsInKitchens Post)) cut WW (n + 1) 14 L st M = j_gR 1 (fun i k => (5, i, 0)) 14 L st M (xkk (xlk (pX0_mealsInKitchens Post)) cut WW n) := (rfl)
theorem fX0_mealsInKitchens_17 (Post : XPo) (cut : List Nat) (WW : XK) (n : Nat) (L : XLs) (st : List XV) (M : XM) : xru (xlk (pX0_mealsInKitchens Post)) cut WW (n + 1) 17 L st M = j_ild 2 1 17 L st M (xkk (xlk (pX0_mealsInKitchens Post)) cut WW n) := (rfl)
theorem fX0_mealsInKitchens_18 (Post : XPo) (cut : List Nat) (WW : XK) (n : Nat) (L : XLs) (st : List XV) (M : XM) : xru (xlk (pX0_mealsInKitchens Post)) cut WW (n + 1) 18 L st M = j_aald 18 L st M (xkk (xlk (pX0_mealsInKitchens Post)) cut WW n) := (rfl)
theorem fX0_mealsInKitchens_19 (Post : XPo) (cut : List Nat) (WW : XK) (n : Nat) (L : XLs) (st : List XV) (M : XM) : xru (xlk (pX0_mealsInKitchens Post)) cut WW (n + 1) 19 L st M = j_gR 8 (fun i k => (10, i, k)) 19 L st M (xkk (xlk (pX0_mealsInKitchens Post)) cut WW n) := (rfl)
theorem fX0_mealsInKitchens_22 (Post : XPo) (cut : List Nat) (WW : XK) (n : Nat) (L : XLs) (st : List XV) (M : XM) : xru (xlk (pX0_mealsInKitchens Post)) cut WW (n + 1) 22 L st M = j_V0 10 sX3_inAll 22 L st M (xkk (xlk (pX0_mealsInKitchens Post)) cut WW n) := (rfl)
theorem fX0_mealsInKitchens_25 (Post : XPo) (cut : List Nat) (WW : XK) (n : Nat) (L : XLs) (st : List XV) (M : XM) : xru (xlk (pX0_mealsInKitchens Post)) cut WW (n + 1) 25 L st M = j_add 25 L st M (xkk (xlk (pX0_mealsInKitchens Post)) cut WW n) := (rfl)
theorem fX0_mealsInKitchens_26 (Post : XPo) (cut : List Nat) (WW : XK) (n : Nat) (L : XLs) (st : List XV) (M : XM) : xru (xlk (pX0_mealsInKitchens Post)) cut WW (n + 1) 26 L st M = j_ist 1 1 26 L st M (xkk (xlk (pX0_mealsInKitchens Post)) cut WW n) := (rfl)
theorem fX0_mealsInKitchens_27 (Post : XPo) (cut : List Nat) (WW : XK) (n : Nat) (L : XLs) (st : List XV) (M : XM) : xru (xlk (pX0_mealsInKitchens Post)) cut WW (n + 1) 27 L st M = j_inc 2 1 27 L st M (xkk (xlk (pX0_mealsInKitchens Post)) cut WW n) := (rfl)
theorem fX0_mealsInKitchens_30 (Post : XPo) (cut : List Nat) (WW : XK) (n : Nat) (L : XLs) (st : List XV) (M : XM) : xru (xlk (pX0_mealsInKitchens Post)) cut WW (n + 1) 30 L st M = j_goto 4 30 L st M (xkk (xlk (pX0_mealsInKitchens Post)) cut WW n) := (rfl)
theorem fX0_mealsInKitchens_33 (Post : XPo) (cut : List Nat) (WW : XK) (n : Nat) (L : XLs) (st : List XV) (M : XM) : xru (xlk (pX0_mealsInKitchens Post)) cut WW (n + 1) 33 L st M = j_ild 1 1 33 L st M (xkk (xlk (pX0_mealsInKitchens Post)) cut WW n) := (rfl)
theorem fX0_mealsInKitchens_34 (Post : XPo) (cut : List Nat) (WW : XK) (n : Nat) (L : XLs) (st : List XV) (M : XM) : xru (xlk (pX0_mealsInKitchens Post)) cut WW (n + 1) 34 L st M = j_iret Post 34 L st M (xkk (xlk (pX0_mealsInKitchens Post)) cut WW n) := (rfl)
set_option maxRecDepth 100000 in
theorem kX0_mealsInKitchens_loop {Post : XPo} {WW : XK} (hC : XCl (xlk (pX0_mealsInKitchens Post)) WW) {M : XM} {i : Int} (hv : xval 1 i 0) (hG : fG M i) : ∀ (n : Nat) (u many : Int), 0 ≤ u → u + n = M 1 i 0 6 → Post [xI (many + sf (nmealsInKitchens M i) u n)] M → WW 4 [some (xR 1 i 0), some (xI many), some (xI u)] [] M := by
  have hv7 : xval 5 i 0 := hv
  have hi := xv_film hv
  obtain ⟨⟨hc1, hc2, hc3, hc4, hc5⟩, hS, hK, hL, hU⟩ := hG
  intro n
  induction n with
  | zero =>
    intro u many h0 h1 h
    have e : u = M 1 i 0 6 := by omega
    have hr1 : XInR (M 1 i 0 6) := ⟨by omega, by omega⟩
    simp only [sf, Int.add_zero] at h
    subst e
    refine xru_ok hC [4] 40 _ _ _ _ ?_
    simp only [xkk_ap, Int.reduceEq, Int.reduceLT, Int.reduceLE, Int.reduceNeg, Int.reduceAdd, Int.reduceSub, Int.reduceMul, and_self, false_and, and_false, not_true_eq_false, not_false_eq_true, true_implies, false_implies, xq0, xq1, xq2, xq3, xq4, xq5, xqR, xq1R, xq3R, xt1, xt2, xt3, List.mem_cons, List.not_mem_nil, or_false, false_or, or_self, if_false, if_true, reduceIte, reduceCtorEq, xent, xen, List.length_cons, List.length_nil, List.replicate, j_c, j_cJ, j_ild, j_ald, j_lld, j_ist, j_ast, j_lst, j_inc, j_add, j_sub, j_mul, j_neg, j_div, j_rem, j_and, j_shr, j_shl1, j_or, j_ladd, j_lsub, j_lmul, j_i2l, j_lcmp, j_i2c, j_dup, j_dup2, j_pop, j_goto, j_ieq, j_ine, j_ilt, j_ige, j_igt, j_ile, j_eq, j_ne, j_lt, j_ge, j_gt, j_le, xsw, j_tsw, j_gI, j_gJ, j_gR, j_pI, j_pJ, j_gs, j_iald, j_iast, j_cald, j_cast, j_aald, j_cpy, j_min, j_max, j_abs, j_iret, j_zret, j_lret, j_dret, j_ret0, j_V0, j_V1, j_V2, j_V3, j_V4, j_V5, j_S1, j_S2, j_S3, xget, xset, xset2, xclr, xc1, xcat, Nat.reduceAdd, Nat.reduceEqDiff, Nat.reduceLT, Nat.reduceLeDiff, Nat.reduceMul, List.cons_append, List.nil_append, true_and, and_true, List.singleton_append, fX0_mealsInKitchens_0, fX0_mealsInKitchens_1, fX0_mealsInKitchens_2, fX0_mealsInKitchens_3, fX0_mealsInKitchens_4, fX0_mealsInKitchens_5, fX0_mealsInKitchens_6, fX0_mealsInKitchens_9, fX0_mealsInKitchens_12, fX0_mealsInKitchens_13, fX0_mealsInKitchens_14, fX0_mealsInKitchens_17, fX0_mealsInKitchens_18, fX0_mealsInKitchens_19, fX0_mealsInKitchens_22, fX0_mealsInKitchens_25, fX0_mealsInKitchens_26, fX0_mealsInKitchens_27, fX0_mealsInKitchens_30, fX0_mealsInKitchens_33, fX0_mealsInKitchens_34, sX3_inAll, hv, hr1, Int.le_refl]
    exact h
  | succ n ih =>
    intro u many h0 h1 h
    have hlt : u < M 1 i 0 6 := by omega
    have hge : ¬ M 1 i 0 6 ≤ u := by omega
    have hr1 : XInR (M 1 i 0 6) := ⟨by omega, by omega⟩
    have hr2 : XInR u := ⟨by omega, by omega⟩
    have hu : u < 3 := by omega
    have hvu : xval 8 i u := xv_of8 hi h0 hu
    have hv10 : xval 10 i u := xv_of10 hi h0 (by omega)
    have hk := hK u h0 hu
    have hn : XInR (M 8 i u 0) := ⟨by omega, by omega⟩
    simp only [sf] at h
    rw [← Int.add_assoc] at h
    have hb := ih (u + 1) (many + nmealsInKitchens M i u) (by omega) (by omega) h
    simp only [nmealsInKitchens] at hb
    refine xru_ok hC [4] 60 _ _ _ _ ?_
    simp only [xkk_ap, Int.reduceEq, Int.reduceLT, Int.reduceLE, Int.reduceNeg, Int.reduceAdd, Int.reduceSub, Int.reduceMul, and_self, false_and, and_false, not_true_eq_false, not_false_eq_true, true_implies, false_implies, xq0, xq1, xq2, xq3, xq4, xq5, xqR, xq1R, xq3R, xt1, xt2, xt3, List.mem_cons, List.not_mem_nil, or_false, false_or, or_self, if_false, if_true, reduceIte, reduceCtorEq, xent, xen, List.length_cons, List.length_nil, List.replicate, j_c, j_cJ, j_ild, j_ald, j_lld, j_ist, j_ast, j_lst, j_inc, j_add, j_sub, j_mul, j_neg, j_div, j_rem, j_and, j_shr, j_shl1, j_or, j_ladd, j_lsub, j_lmul, j_i2l, j_lcmp, j_i2c, j_dup, j_dup2, j_pop, j_goto, j_ieq, j_ine, j_ilt, j_ige, j_igt, j_ile, j_eq, j_ne, j_lt, j_ge, j_gt, j_le, xsw, j_tsw, j_gI, j_gJ, j_gR, j_pI, j_pJ, j_gs, j_iald, j_iast, j_cald, j_cast, j_aald, j_cpy, j_min, j_max, j_abs, j_iret, j_zret, j_lret, j_dret, j_ret0, j_V0, j_V1, j_V2, j_V3, j_V4, j_V5, j_S1, j_S2, j_S3, xget, xset, xset2, xclr, xc1, xcat, Nat.reduceAdd, Nat.reduceEqDiff, Nat.reduceLT, Nat.reduceLeDiff, Nat.reduceMul, List.cons_append, List.nil_append, true_and, and_true, List.singleton_append, fX0_mealsInKitchens_0, fX0_mealsInKitchens_1, fX0_mealsInKitchens_2, fX0_mealsInKitchens_3, fX0_mealsInKitchens_4, fX0_mealsInKitchens_5, fX0_mealsInKitchens_6, fX0_mealsInKitchens_9, fX0_mealsInKitchens_12, fX0_mealsInKitchens_13, fX0_mealsInKitchens_14, fX0_mealsInKitchens_17, fX0_mealsInKitchens_18, fX0_mealsInKitchens_19, fX0_mealsInKitchens_22, fX0_mealsInKitchens_25, fX0_mealsInKitchens_26, fX0_mealsInKitchens_27, fX0_mealsInKitchens_30, fX0_mealsInKitchens_33, fX0_mealsInKitchens_34, sX3_inAll, xr_c (n := 0) rfl, hv, hv7, hvu, hr1, hr2, h0, hu, hlt, hge, xcat, xc1, Nat.zero_le, Nat.reduceLeDiff, hn, hv10]
    exact hb
def tX0_mealsInKitchens (M : XM) (i : Int) : Int := sf (nmealsInKitchens M i) 0 (M 1 i 0 6).toNat
def sX0_mealsInKitchens : XSp := xq0 1 (fun i k M Q => fG M i ∧ Q [xI (tX0_mealsInKitchens M i)] M)
set_option maxRecDepth 100000 in
theorem kX0_mealsInKitchens : XCn yX0_mealsInKitchens wX0_mealsInKitchens rX0_mealsInKitchens sX0_mealsInKitchens := XC0 pX0_mealsInKitchens rfl rfl aX0_mealsInKitchens (by decide) (fun i k M Post hv h WW hC => by
  obtain rfl := xk1 hv
  obtain ⟨hG, h⟩ := h
  have hc := hG.1
  unfold fC at hc
  have hk := kX0_mealsInKitchens_loop hC hv hG (M 1 i 0 6).toNat 0 0 (by decide) (by omega) (by rw [Int.zero_add]; exact h)
  show WW 0 [some (xR 1 i 0), none, none] [] M
  refine xru_ok hC [4] 20 _ _ _ _ ?_
  simp only [xkk_ap, Int.reduceEq, Int.reduceLT, Int.reduceLE, Int.reduceNeg, Int.reduceAdd, Int.reduceSub, Int.reduceMul, and_self, false_and, and_false, not_true_eq_false, not_false_eq_true, true_implies, false_implies, xq0, xq1, xq2, xq3, xq4, xq5, xqR, xq1R, xq3R, xt1, xt2, xt3, List.mem_cons, List.not_mem_nil, or_false, false_or, or_self, if_false, if_true, reduceIte, reduceCtorEq, xent, xen, List.length_cons, List.length_nil, List.replicate, j_c, j_cJ, j_ild, j_ald, j_lld, j_ist, j_ast, j_lst, j_inc, j_add, j_sub, j_mul, j_neg, j_div, j_rem, j_and, j_shr, j_shl1, j_or, j_ladd, j_lsub, j_lmul, j_i2l, j_lcmp, j_i2c, j_dup, j_dup2, j_pop, j_goto, j_ieq, j_ine, j_ilt, j_ige, j_igt, j_ile, j_eq, j_ne, j_lt, j_ge, j_gt, j_le, xsw, j_tsw, j_gI, j_gJ, j_gR, j_pI, j_pJ, j_gs, j_iald, j_iast, j_cald, j_cast, j_aald, j_cpy, j_min, j_max, j_abs, j_iret, j_zret, j_lret, j_dret, j_ret0, j_V0, j_V1, j_V2, j_V3, j_V4, j_V5, j_S1, j_S2, j_S3, xget, xset, xset2, xclr, xc1, xcat, Nat.reduceAdd, Nat.reduceEqDiff, Nat.reduceLT, Nat.reduceLeDiff, Nat.reduceMul, List.cons_append, List.nil_append, true_and, and_true, List.singleton_append, fX0_mealsInKitchens_0, fX0_mealsInKitchens_1, fX0_mealsInKitchens_2, fX0_mealsInKitchens_3, fX0_mealsInKitchens_4, fX0_mealsInKitchens_5, fX0_mealsInKitchens_6, fX0_mealsInKitchens_9, fX0_mealsInKitchens_12, fX0_mealsInKitchens_13, fX0_mealsInKitchens_14, fX0_mealsInKitchens_17, fX0_mealsInKitchens_18, fX0_mealsInKitchens_19, fX0_mealsInKitchens_22, fX0_mealsInKitchens_25, fX0_mealsInKitchens_26, fX0_mealsInKitchens_27, fX0_mealsInKitchens_30, fX0_mealsInKitchens_33, fX0_mealsInKitchens_34, sX3_inAll, hv]
  exact hk)
def nmealsInLorries (M : XM) (i : Int) : Int → Int := fun u => mAll M i (u + 3)
/-- UnitKitchens$Film.mealsInLorries()I -/
abbrev wX0_mealsInLorries : List Cond := Cond.code yX0_mealsInLorries cX0_mealsInLorries 3 (some .int) :: xT
abbrev rX0_mealsInLorries : Room := { frames := 1, cells := 0, slots := 0, locals := 20 }
def pX0_mealsInLorries (Post : XPo) : List (Nat × XStp) := [(0, j_c 0 1), (1, j_ist 1 1), (2, j_c 0 1), (3, j_ist 2 1), (4, j_ild 2 1), (5, j_ald 0 1), (6, j_gI 1 8), (9, j_ige 33), (12, j_ild 1 1), (13, j_ald 0 1), (14, j_gR 1 (fun i k => (6, i, 0))), (17, j_ild 2 1), (18, j_aald), (19, j_gR 13 (fun i k => (10, i, k + 3))), (22, j_V0 10 sX3_inAll), (25, j_add), (26, j_ist 1 1), (27, j_inc 2 1), (30, j_goto 4), (33, j_ild 1 1), (34, j_iret Post)]
set_option maxRecDepth 100000 in
theorem aX0_mealsInLorries (Post : XPo) : XAll rX0_mealsInLorries cX0_mealsInLorries 3 RX0 wX0_mealsInLorries (some .int) Post (pX0_mealsInLorries Post) := XAll.cons (xs_iconst dX0_mealsInLorries_0) (XAll.cons (xs_istore_n dX0_mealsInLorries_1 rfl (by decide)) (XAll.cons (xs_iconst dX0_mealsInLorries_2) (XAll.cons (xs_istore_n dX0_mealsInLorries_3 rfl (by decide)) (XAll.cons (xs_iload_n dX0_mealsInLorries_4 rfl) (XAll.cons (xs_aload_n dX0_mealsInLorries_5 rfl) (XAll.cons (fgX0_8 tw_206 dX0_mealsInLorries_6) (XAll.cons (xs_icmp_ge dX0_mealsInLorries_9 (by decide)) (XAll.cons (xs_iload_n dX0_mealsInLorries_12 rfl) (XAll.cons (xs_aload_n dX0_mealsInLorries_13 rfl) (XAll.cons (fgX0_9 tw_208 dX0_mealsInLorries_14) (XAll.cons (xs_iload_n dX0_mealsInLorries_17 rfl) (XAll.cons (xs_aald dX0_mealsInLorries_18) (XAll.cons (fgX2_3 tw_114 dX0_mealsInLorries_19) (XAll.cons (xs_V0 kX3_inAll ⟨⟨rfl, rfl, by decide, by decide⟩, ⟨by decide, by decide, by decide +kernel⟩, ⟨tw_757, tw_504, tw_505, tw_4, tw_506⟩, 3, TX3, _, rfl, fun G ρ f i k => ⟨_, rfl⟩⟩ dX0_mealsInLorries_22) (XAll.cons (xs_iadd dX0_mealsInLorries_25) (XAll.cons (xs_istore_n dX0_mealsInLorries_26 rfl (by decide)) (XAll.cons (xs_iinc dX0_mealsInLorries_27 (by decide)) (XAll.cons (xs_goto dX0_mealsInLorries_30 (by decide)) (XAll.cons (xs_iload_n dX0_mealsInLorries_33 rfl) (XAll.cons (xs_iret rfl dX0_mealsInLorries_34) (XAll.nil)))))))))))))))))))))
theorem fX0_mealsInLorries_0 (Post : XPo) (cut : List Nat) (WW : XK) (n : Nat) (L : XLs) (st : List XV) (M : XM) : xru (xlk (pX0_mealsInLorries Post)) cut WW (n + 1) 0 L st M = j_c 0 1 0 L st M (xkk (xlk (pX0_mealsInLorries Post)) cut WW n) := (rfl)
theorem fX0_mealsInLorries_1 (Post : XPo) (cut : List Nat) (WW : XK) (n : Nat) (L : XLs) (st : List XV) (M : XM) : xru (xlk (pX0_mealsInLorries Post)) cut WW (n + 1) 1 L st M = j_ist 1 1 1 L st M (xkk (xlk (pX0_mealsInLorries Post)) cut WW n) := (rfl)
theorem fX0_mealsInLorries_2 (Post : XPo) (cut : List Nat) (WW : XK) (n : Nat) (L : XLs) (st : List XV) (M : XM) : xru (xlk (pX0_mealsInLorries Post)) cut WW (n + 1) 2 L st M = j_c 0 1 2 L st M (xkk (xlk (pX0_mealsInLorries Post)) cut WW n) := (rfl)
theorem fX0_mealsInLorries_3 (Post : XPo) (cut : List Nat) (WW : XK) (n : Nat) (L : XLs) (st : List XV) (M : XM) : xru (xlk (pX0_mealsInLorries Post)) cut WW (n + 1) 3 L st M = j_ist 2 1 3 L st M (xkk (xlk (pX0_mealsInLorries Post)) cut WW n) := (rfl)
theorem fX0_mealsInLorries_4 (Post : XPo) (cut : List Nat) (WW : XK) (n : Nat) (L : XLs) (st : List XV) (M : XM) : xru (xlk (pX0_mealsInLorries Post)) cut WW (n + 1) 4 L st M = j_ild 2 1 4 L st M (xkk (xlk (pX0_mealsInLorries Post)) cut WW n) := (rfl)
theorem fX0_mealsInLorries_5 (Post : XPo) (cut : List Nat) (WW : XK) (n : Nat) (L : XLs) (st : List XV) (M : XM) : xru (xlk (pX0_mealsInLorries Post)) cut WW (n + 1) 5 L st M = j_ald 0 1 5 L st M (xkk (xlk (pX0_mealsInLorries Post)) cut WW n) := (rfl)
theorem fX0_mealsInLorries_6 (Post : XPo) (cut : List Nat) (WW : XK) (n : Nat) (L : XLs) (st : List XV) (M : XM) : xru (xlk (pX0_mealsInLorries Post)) cut WW (n + 1) 6 L st M = j_gI 1 8 6 L st M (xkk (xlk (pX0_mealsInLorries Post)) cut WW n) := (rfl)
theorem fX0_mealsInLorries_9 (Post : XPo) (cut : List Nat) (WW : XK) (n : Nat) (L : XLs) (st : List XV) (M : XM) : xru (xlk (pX0_mealsInLorries Post)) cut WW (n + 1) 9 L st M = j_ige 33 9 L st M (xkk (xlk (pX0_mealsInLorries Post)) cut WW n) := (rfl)
theorem fX0_mealsInLorries_12 (Post : XPo) (cut : List Nat) (WW : XK) (n : Nat) (L : XLs) (st : List XV) (M : XM) : xru (xlk (pX0_mealsInLorries Post)) cut WW (n + 1) 12 L st M = j_ild 1 1 12 L st M (xkk (xlk (pX0_mealsInLorries Post)) cut WW n) := (rfl)
theorem fX0_mealsInLorries_13 (Post : XPo) (cut : List Nat) (WW : XK) (n : Nat) (L : XLs) (st : List XV) (M : XM) : xru (xlk (pX0_mealsInLorries Post)) cut WW (n + 1) 13 L st M = j_ald 0 1 13 L st M (xkk (xlk (pX0_mealsInLorries Post)) cut WW n) := (rfl)
theorem fX0_mealsInLorries_14 (Post : XPo) (cut : List Nat) (WW : XK) (n : Nat) (L : XLs) (st : List XV) (M : XM) : xru (xlk (pX0_mealsInLorries Post)) cut WW (n + 1) 14 L st M = j_gR 1 (fun i k => (6, i, 0)) 14 L st M (xkk (xlk (pX0_mealsInLorries Post)) cut WW n) := (rfl)
theorem fX0_mealsInLorries_17 (Post : XPo) (cut : List Nat) (WW : XK) (n : Nat) (L : XLs) (st : List XV) (M : XM) : xru (xlk (pX0_mealsInLorries Post)) cut WW (n + 1) 17 L st M = j_ild 2 1 17 L st M (xkk (xlk (pX0_mealsInLorries Post)) cut WW n) := (rfl)
theorem fX0_mealsInLorries_18 (Post : XPo) (cut : List Nat) (WW : XK) (n : Nat) (L : XLs) (st : List XV) (M : XM) : xru (xlk (pX0_mealsInLorries Post)) cut WW (n + 1) 18 L st M = j_aald 18 L st M (xkk (xlk (pX0_mealsInLorries Post)) cut WW n) := (rfl)
theorem fX0_mealsInLorries_19 (Post : XPo) (cut : List Nat) (WW : XK) (n : Nat) (L : XLs) (st : List XV) (M : XM) : xru (xlk (pX0_mealsInLorries Post)) cut WW (n + 1) 19 L st M = j_gR 13 (fun i k => (10, i, k + 3)) 19 L st M (xkk (xlk (pX0_mealsInLorries Post)) cut WW n) := (rfl)
theorem fX0_mealsInLorries_22 (Post : XPo) (cut : List Nat) (WW : XK) (n : Nat) (L : XLs) (st : List XV) (M : XM) : xru (xlk (pX0_mealsInLorries Post)) cut WW (n + 1) 22 L st M = j_V0 10 sX3_inAll 22 L st M (xkk (xlk (pX0_mealsInLorries Post)) cut WW n) := (rfl)
theorem fX0_mealsInLorries_25 (Post : XPo) (cut : List Nat) (WW : XK) (n : Nat) (L : XLs) (st : List XV) (M : XM) : xru (xlk (pX0_mealsInLorries Post)) cut WW (n + 1) 25 L st M = j_add 25 L st M (xkk (xlk (pX0_mealsInLorries Post)) cut WW n) := (rfl)
theorem fX0_mealsInLorries_26 (Post : XPo) (cut : List Nat) (WW : XK) (n : Nat) (L : XLs) (st : List XV) (M : XM) : xru (xlk (pX0_mealsInLorries Post)) cut WW (n + 1) 26 L st M = j_ist 1 1 26 L st M (xkk (xlk (pX0_mealsInLorries Post)) cut WW n) := (rfl)
theorem fX0_mealsInLorries_27 (Post : XPo) (cut : List Nat) (WW : XK) (n : Nat) (L : XLs) (st : List XV) (M : XM) : xru (xlk (pX0_mealsInLorries Post)) cut WW (n + 1) 27 L st M = j_inc 2 1 27 L st M (xkk (xlk (pX0_mealsInLorries Post)) cut WW n) := (rfl)
theorem fX0_mealsInLorries_30 (Post : XPo) (cut : List Nat) (WW : XK) (n : Nat) (L : XLs) (st : List XV) (M : XM) : xru (xlk (pX0_mealsInLorries Post)) cut WW (n + 1) 30 L st M = j_goto 4 30 L st M (xkk (xlk (pX0_mealsInLorries Post)) cut WW n) := (rfl)
theorem fX0_mealsInLorries_33 (Post : XPo) (cut : List Nat) (WW : XK) (n : Nat) (L : XLs) (st : List XV) (M : XM) : xru (xlk (pX0_mealsInLorries Post)) cut WW (n + 1) 33 L st M = j_ild 1 1 33 L st M (xkk (xlk (pX0_mealsInLorries Post)) cut WW n) := (rfl)
theorem fX0_mealsInLorries_34 (Post : XPo) (cut : List Nat) (WW : XK) (n : Nat) (L : XLs) (st : List XV) (M : XM) : xru (xlk (pX0_mealsInLorries Post)) cut WW (n + 1) 34 L st M = j_iret Post 34 L st M (xkk (xlk (pX0_mealsInLorries Post)) cut WW n) := (rfl)
set_option maxRecDepth 100000 in
theorem kX0_mealsInLorries_loop {Post : XPo} {WW : XK} (hC : XCl (xlk (pX0_mealsInLorries Post)) WW) {M : XM} {i : Int} (hv : xval 1 i 0) (hG : fG M i) : ∀ (n : Nat) (u many : Int), 0 ≤ u → u + n = M 1 i 0 8 → Post [xI (many + sf (nmealsInLorries M i) u n)] M → WW 4 [some (xR 1 i 0), some (xI many), some (xI u)] [] M := by
  have hv7 : xval 6 i 0 := hv
  have hi := xv_film hv
  obtain ⟨⟨hc1, hc2, hc3, hc4, hc5⟩, hS, hK, hL, hU⟩ := hG
  intro n
  induction n with
  | zero =>
    intro u many h0 h1 h
    have e : u = M 1 i 0 8 := by omega
    have hr1 : XInR (M 1 i 0 8) := ⟨by omega, by omega⟩
    simp only [sf, Int.add_zero] at h
    subst e
    refine xru_ok hC [4] 40 _ _ _ _ ?_
    simp only [xkk_ap, Int.reduceEq, Int.reduceLT, Int.reduceLE, Int.reduceNeg, Int.reduceAdd, Int.reduceSub, Int.reduceMul, and_self, false_and, and_false, not_true_eq_false, not_false_eq_true, true_implies, false_implies, xq0, xq1, xq2, xq3, xq4, xq5, xqR, xq1R, xq3R, xt1, xt2, xt3, List.mem_cons, List.not_mem_nil, or_false, false_or, or_self, if_false, if_true, reduceIte, reduceCtorEq, xent, xen, List.length_cons, List.length_nil, List.replicate, j_c, j_cJ, j_ild, j_ald, j_lld, j_ist, j_ast, j_lst, j_inc, j_add, j_sub, j_mul, j_neg, j_div, j_rem, j_and, j_shr, j_shl1, j_or, j_ladd, j_lsub, j_lmul, j_i2l, j_lcmp, j_i2c, j_dup, j_dup2, j_pop, j_goto, j_ieq, j_ine, j_ilt, j_ige, j_igt, j_ile, j_eq, j_ne, j_lt, j_ge, j_gt, j_le, xsw, j_tsw, j_gI, j_gJ, j_gR, j_pI, j_pJ, j_gs, j_iald, j_iast, j_cald, j_cast, j_aald, j_cpy, j_min, j_max, j_abs, j_iret, j_zret, j_lret, j_dret, j_ret0, j_V0, j_V1, j_V2, j_V3, j_V4, j_V5, j_S1, j_S2, j_S3, xget, xset, xset2, xclr, xc1, xcat, Nat.reduceAdd, Nat.reduceEqDiff, Nat.reduceLT, Nat.reduceLeDiff, Nat.reduceMul, List.cons_append, List.nil_append, true_and, and_true, List.singleton_append, fX0_mealsInLorries_0, fX0_mealsInLorries_1, fX0_mealsInLorries_2, fX0_mealsInLorries_3, fX0_mealsInLorries_4, fX0_mealsInLorries_5, fX0_mealsInLorries_6, fX0_mealsInLorries_9, fX0_mealsInLorries_12, fX0_mealsInLorries_13, fX0_mealsInLorries_14, fX0_mealsInLorries_17, fX0_mealsInLorries_18, fX0_mealsInLorries_19, fX0_mealsInLorries_22, fX0_mealsInLorries_25, fX0_mealsInLorries_26, fX0_mealsInLorries_27, fX0_mealsInLorries_30, fX0_mealsInLorries_33, fX0_mealsInLorries_34, sX3_inAll, hv, hr1, Int.le_refl]
    exact h
  | succ n ih =>
    intro u many h0 h1 h
    have hlt : u < M 1 i 0 8 := by omega
    have hge : ¬ M 1 i 0 8 ≤ u := by omega
    have hr1 : XInR (M 1 i 0 8) := ⟨by omega, by omega⟩
    have hr2 : XInR u := ⟨by omega, by omega⟩
    have hu : u < 4 := by omega
    have hvu : xval 13 i u := xv_of13 hi h0 hu
    have hv10 : xval 10 i (u + 3) := xv_of10 hi (by omega) (by omega)
    have hk := hL u h0 hu
    have hn : XInR (M 13 i u 0) := ⟨by omega, by omega⟩
    simp only [sf] at h
    rw [← Int.add_assoc] at h
    have hb := ih (u + 1) (many + nmealsInLorries M i u) (by omega) (by omega) h
    simp only [nmealsInLorries] at hb
    refine xru_ok hC [4] 60 _ _ _ _ ?_
    simp only [xkk_ap, Int.reduceEq, Int.reduceLT, Int.reduceLE, Int.reduceNeg, Int.reduceAdd, Int.reduceSub, Int.reduceMul, and_self, false_and, and_false, not_true_eq_false, not_false_eq_true, true_implies, false_implies, xq0, xq1, xq2, xq3, xq4, xq5, xqR, xq1R, xq3R, xt1, xt2, xt3, List.mem_cons, List.not_mem_nil, or_false, false_or, or_self, if_false, if_true, reduceIte, reduceCtorEq, xent, xen, List.length_cons, List.length_nil, List.replicate, j_c, j_cJ, j_ild, j_ald, j_lld, j_ist, j_ast, j_lst, j_inc, j_add, j_sub, j_mul, j_neg, j_div, j_rem, j_and, j_shr, j_shl1, j_or, j_ladd, j_lsub, j_lmul, j_i2l, j_lcmp, j_i2c, j_dup, j_dup2, j_pop, j_goto, j_ieq, j_ine, j_ilt, j_ige, j_igt, j_ile, j_eq, j_ne, j_lt, j_ge, j_gt, j_le, xsw, j_tsw, j_gI, j_gJ, j_gR, j_pI, j_pJ, j_gs, j_iald, j_iast, j_cald, j_cast, j_aald, j_cpy, j_min, j_max, j_abs, j_iret, j_zret, j_lret, j_dret, j_ret0, j_V0, j_V1, j_V2, j_V3, j_V4, j_V5, j_S1, j_S2, j_S3, xget, xset, xset2, xclr, xc1, xcat, Nat.reduceAdd, Nat.reduceEqDiff, Nat.reduceLT, Nat.reduceLeDiff, Nat.reduceMul, List.cons_append, List.nil_append, true_and, and_true, List.singleton_append, fX0_mealsInLorries_0, fX0_mealsInLorries_1, fX0_mealsInLorries_2, fX0_mealsInLorries_3, fX0_mealsInLorries_4, fX0_mealsInLorries_5, fX0_mealsInLorries_6, fX0_mealsInLorries_9, fX0_mealsInLorries_12, fX0_mealsInLorries_13, fX0_mealsInLorries_14, fX0_mealsInLorries_17, fX0_mealsInLorries_18, fX0_mealsInLorries_19, fX0_mealsInLorries_22, fX0_mealsInLorries_25, fX0_mealsInLorries_26, fX0_mealsInLorries_27, fX0_mealsInLorries_30, fX0_mealsInLorries_33, fX0_mealsInLorries_34, sX3_inAll, xr_c (n := 0) rfl, hv, hv7, hvu, hr1, hr2, h0, hu, hlt, hge, xcat, xc1, Nat.zero_le, Nat.reduceLeDiff, hn, hv10]
    exact hb
def tX0_mealsInLorries (M : XM) (i : Int) : Int := sf (nmealsInLorries M i) 0 (M 1 i 0 8).toNat
def sX0_mealsInLorries : XSp := xq0 1 (fun i k M Q => fG M i ∧ Q [xI (tX0_mealsInLorries M i)] M)
set_option maxRecDepth 100000 in
theorem kX0_mealsInLorries : XCn yX0_mealsInLorries wX0_mealsInLorries rX0_mealsInLorries sX0_mealsInLorries := XC0 pX0_mealsInLorries rfl rfl aX0_mealsInLorries (by decide) (fun i k M Post hv h WW hC => by
  obtain rfl := xk1 hv
  obtain ⟨hG, h⟩ := h
  have hc := hG.1
  unfold fC at hc
  have hk := kX0_mealsInLorries_loop hC hv hG (M 1 i 0 8).toNat 0 0 (by decide) (by omega) (by rw [Int.zero_add]; exact h)
  show WW 0 [some (xR 1 i 0), none, none] [] M
  refine xru_ok hC [4] 20 _ _ _ _ ?_
  simp only [xkk_ap, Int.reduceEq, Int.reduceLT, Int.reduceLE, Int.reduceNeg, Int.reduceAdd, Int.reduceSub, Int.reduceMul, and_self, false_and, and_false, not_true_eq_false, not_false_eq_true, true_implies, false_implies, xq0, xq1, xq2, xq3, xq4, xq5, xqR, xq1R, xq3R, xt1, xt2, xt3, List.mem_cons, List.not_mem_nil, or_false, false_or, or_self, if_false, if_true, reduceIte, reduceCtorEq, xent, xen, List.length_cons, List.length_nil, List.replicate, j_c, j_cJ, j_ild, j_ald, j_lld, j_ist, j_ast, j_lst, j_inc, j_add, j_sub, j_mul, j_neg, j_div, j_rem, j_and, j_shr, j_shl1, j_or, j_ladd, j_lsub, j_lmul, j_i2l, j_lcmp, j_i2c, j_dup, j_dup2, j_pop, j_goto, j_ieq, j_ine, j_ilt, j_ige, j_igt, j_ile, j_eq, j_ne, j_lt, j_ge, j_gt, j_le, xsw, j_tsw, j_gI, j_gJ, j_gR, j_pI, j_pJ, j_gs, j_iald, j_iast, j_cald, j_cast, j_aald, j_cpy, j_min, j_max, j_abs, j_iret, j_zret, j_lret, j_dret, j_ret0, j_V0, j_V1, j_V2, j_V3, j_V4, j_V5, j_S1, j_S2, j_S3, xget, xset, xset2, xclr, xc1, xcat, Nat.reduceAdd, Nat.reduceEqDiff, Nat.reduceLT, Nat.reduceLeDiff, Nat.reduceMul, List.cons_append, List.nil_append, true_and, and_true, List.singleton_append, fX0_mealsInLorries_0, fX0_mealsInLorries_1, fX0_mealsInLorries_2, fX0_mealsInLorries_3, fX0_mealsInLorries_4, fX0_mealsInLorries_5, fX0_mealsInLorries_6, fX0_mealsInLorries_9, fX0_mealsInLorries_12, fX0_mealsInLorries_13, fX0_mealsInLorries_14, fX0_mealsInLorries_17, fX0_mealsInLorries_18, fX0_mealsInLorries_19, fX0_mealsInLorries_22, fX0_mealsInLorries_25, fX0_mealsInLorries_26, fX0_mealsInLorries_27, fX0_mealsInLorries_30, fX0_mealsInLorries_33, fX0_mealsInLorries_34, sX3_inAll, hv]
  exact hk)
def nowed (M : XM) (i : Int) : Int → Int := fun u => (M 14 i u 6 + M 14 i u 7)
/-- UnitKitchens$Film.owed()I -/
abbrev wX0_owed : List Cond := Cond.code yX0_owed cX0_owed 3 (some .int) :: xT
abbrev rX0_owed : Room := { frames := 1, cells := 0, slots := 0, locals := 20 }
def pX0_owed (Post : XPo) : List (Nat × XStp) := [(0, j_c 0 1), (1, j_ist 1 1), (2, j_c 0 1), (3, j_ist 2 1), (4, j_ild 2 1), (5, j_ald 0 1), (6, j_gI 1 10), (9, j_ige 30), (12, j_ild 1 1), (13, j_ald 0 1), (14, j_gR 1 (fun i k => (7, i, 0))), (17, j_ild 2 1), (18, j_aald), (19, j_V0 14 sX6_owed), (22, j_add), (23, j_ist 1 1), (24, j_inc 2 1), (27, j_goto 4), (30, j_ild 1 1), (31, j_iret Post)]
set_option maxRecDepth 100000 in
theorem aX0_owed (Post : XPo) : XAll rX0_owed cX0_owed 3 RX0 wX0_owed (some .int) Post (pX0_owed Post) := XAll.cons (xs_iconst dX0_owed_0) (XAll.cons (xs_istore_n dX0_owed_1 rfl (by decide)) (XAll.cons (xs_iconst dX0_owed_2) (XAll.cons (xs_istore_n dX0_owed_3 rfl (by decide)) (XAll.cons (xs_iload_n dX0_owed_4 rfl) (XAll.cons (xs_aload_n dX0_owed_5 rfl) (XAll.cons (fgX0_10 tw_210 dX0_owed_6) (XAll.cons (xs_icmp_ge dX0_owed_9 (by decide)) (XAll.cons (xs_iload_n dX0_owed_12 rfl) (XAll.cons (xs_aload_n dX0_owed_13 rfl) (XAll.cons (fgX0_11 tw_212 dX0_owed_14) (XAll.cons (xs_iload_n dX0_owed_17 rfl) (XAll.cons (xs_aald dX0_owed_18) (XAll.cons (xs_V0 kX6_owed ⟨⟨rfl, rfl, by decide, by decide⟩, ⟨by decide, by decide, by decide +kernel⟩, ⟨tw_524, tw_525, tw_526, tw_6, tw_527⟩, 6, TX6, _, rfl, fun G ρ f i k => ⟨_, rfl⟩⟩ dX0_owed_19) (XAll.cons (xs_iadd dX0_owed_22) (XAll.cons (xs_istore_n dX0_owed_23 rfl (by decide)) (XAll.cons (xs_iinc dX0_owed_24 (by decide)) (XAll.cons (xs_goto dX0_owed_27 (by decide)) (XAll.cons (xs_iload_n dX0_owed_30 rfl) (XAll.cons (xs_iret rfl dX0_owed_31) (XAll.nil))))))))))))))))))))
theorem fX0_owed_0 (Post : XPo) (cut : List Nat) (WW : XK) (n : Nat) (L : XLs) (st : List XV) (M : XM) : xru (xlk (pX0_owed Post)) cut WW (n + 1) 0 L st M = j_c 0 1 0 L st M (xkk (xlk (pX0_owed Post)) cut WW n) := (rfl)
theorem fX0_owed_1 (Post : XPo) (cut : List Nat) (WW : XK) (n : Nat) (L : XLs) (st : List XV) (M : XM) : xru (xlk (pX0_owed Post)) cut WW (n + 1) 1 L st M = j_ist 1 1 1 L st M (xkk (xlk (pX0_owed Post)) cut WW n) := (rfl)
theorem fX0_owed_2 (Post : XPo) (cut : List Nat) (WW : XK) (n : Nat) (L : XLs) (st : List XV) (M : XM) : xru (xlk (pX0_owed Post)) cut WW (n + 1) 2 L st M = j_c 0 1 2 L st M (xkk (xlk (pX0_owed Post)) cut WW n) := (rfl)
theorem fX0_owed_3 (Post : XPo) (cut : List Nat) (WW : XK) (n : Nat) (L : XLs) (st : List XV) (M : XM) : xru (xlk (pX0_owed Post)) cut WW (n + 1) 3 L st M = j_ist 2 1 3 L st M (xkk (xlk (pX0_owed Post)) cut WW n) := (rfl)
theorem fX0_owed_4 (Post : XPo) (cut : List Nat) (WW : XK) (n : Nat) (L : XLs) (st : List XV) (M : XM) : xru (xlk (pX0_owed Post)) cut WW (n + 1) 4 L st M = j_ild 2 1 4 L st M (xkk (xlk (pX0_owed Post)) cut WW n) := (rfl)
theorem fX0_owed_5 (Post : XPo) (cut : List Nat) (WW : XK) (n : Nat) (L : XLs) (st : List XV) (M : XM) : xru (xlk (pX0_owed Post)) cut WW (n + 1) 5 L st M = j_ald 0 1 5 L st M (xkk (xlk (pX0_owed Post)) cut WW n) := (rfl)
theorem fX0_owed_6 (Post : XPo) (cut : List Nat) (WW : XK) (n : Nat) (L : XLs) (st : List XV) (M : XM) : xru (xlk (pX0_owed Post)) cut WW (n + 1) 6 L st M = j_gI 1 10 6 L st M (xkk (xlk (pX0_owed Post)) cut WW n) := (rfl)
theorem fX0_owed_9 (Post : XPo) (cut : List Nat) (WW : XK) (n : Nat) (L : XLs) (st : List XV) (M : XM) : xru (xlk (pX0_owed Post)) cut WW (n + 1) 9 L st M = j_ige 30 9 L st M (xkk (xlk (pX0_owed Post)) cut WW n) := (rfl)
theorem fX0_owed_12 (Post : XPo) (cut : List Nat) (WW : XK) (n : Nat) (L : XLs) (st : List XV) (M : XM) : xru (xlk (pX0_owed Post)) cut WW (n + 1) 12 L st M = j_ild 1 1 12 L st M (xkk (xlk (pX0_owed Post)) cut WW n) := (rfl)
theorem fX0_owed_13 (Post : XPo) (cut : List Nat) (WW : XK) (n : Nat) (L : XLs) (st : List XV) (M : XM) : xru (xlk (pX0_owed Post)) cut WW (n + 1) 13 L st M = j_ald 0 1 13 L st M (xkk (xlk (pX0_owed Post)) cut WW n) := (rfl)
theorem fX0_owed_14 (Post : XPo) (cut : List Nat) (WW : XK) (n : Nat) (L : XLs) (st : List XV) (M : XM) : xru (xlk (pX0_owed Post)) cut WW (n + 1) 14 L st M = j_gR 1 (fun i k => (7, i, 0)) 14 L st M (xkk (xlk (pX0_owed Post)) cut WW n) := (rfl)
theorem fX0_owed_17 (Post : XPo) (cut : List Nat) (WW : XK) (n : Nat) (L : XLs) (st : List XV) (M : XM) : xru (xlk (pX0_owed Post)) cut WW (n + 1) 17 L st M = j_ild 2 1 17 L st M (xkk (xlk (pX0_owed Post)) cut WW n) := (rfl)
theorem fX0_owed_18 (Post : XPo) (cut : List Nat) (WW : XK) (n : Nat) (L : XLs) (st : List XV) (M : XM) : xru (xlk (pX0_owed Post)) cut WW (n + 1) 18 L st M = j_aald 18 L st M (xkk (xlk (pX0_owed Post)) cut WW n) := (rfl)
theorem fX0_owed_19 (Post : XPo) (cut : List Nat) (WW : XK) (n : Nat) (L : XLs) (st : List XV) (M : XM) : xru (xlk (pX0_owed Post)) cut WW (n + 1) 19 L st M = j_V0 14 sX6_owed 19 L st M (xkk (xlk (pX0_owed Post)) cut WW n) := (rfl)
theorem fX0_owed_22 (Post : XPo) (cut : List Nat) (WW : XK) (n : Nat) (L : XLs) (st : List XV) (M : XM) : xru (xlk (pX0_owed Post)) cut WW (n + 1) 22 L st M = j_add 22 L st M (xkk (xlk (pX0_owed Post)) cut WW n) := (rfl)
theorem fX0_owed_23 (Post : XPo) (cut : List Nat) (WW : XK) (n : Nat) (L : XLs) (st : List XV) (M : XM) : xru (xlk (pX0_owed Post)) cut WW (n + 1) 23 L st M = j_ist 1 1 23 L st M (xkk (xlk (pX0_owed Post)) cut WW n) := (rfl)
theorem fX0_owed_24 (Post : XPo) (cut : List Nat) (WW : XK) (n : Nat) (L : XLs) (st : List XV) (M : XM) : xru (xlk (pX0_owed Post)) cut WW (n + 1) 24 L st M = j_inc 2 1 24 L st M (xkk (xlk (pX0_owed Post)) cut WW n) := (rfl)
theorem fX0_owed_27 (Post : XPo) (cut : List Nat) (WW : XK) (n : Nat) (L : XLs) (st : List XV) (M : XM) : xru (xlk (pX0_owed Post)) cut WW (n + 1) 27 L st M = j_goto 4 27 L st M (xkk (xlk (pX0_owed Post)) cut WW n) := (rfl)
theorem fX0_owed_30 (Post : XPo) (cut : List Nat) (WW : XK) (n : Nat) (L : XLs) (st : List XV) (M : XM) : xru (xlk (pX0_owed Post)) cut WW (n + 1) 30 L st M = j_ild 1 1 30 L st M (xkk (xlk (pX0_owed Post)) cut WW n) := (rfl)
theorem fX0_owed_31 (Post : XPo) (cut : List Nat) (WW : XK) (n : Nat) (L : XLs) (st : List XV) (M : XM) : xru (xlk (pX0_owed Post)) cut WW (n + 1) 31 L st M = j_iret Post 31 L st M (xkk (xlk (pX0_owed Post)) cut WW n) := (rfl)
set_option maxRecDepth 100000 in
theorem kX0_owed_loop {Post : XPo} {WW : XK} (hC : XCl (xlk (pX0_owed Post)) WW) {M : XM} {i : Int} (hv : xval 1 i 0) (hG : fG M i) : ∀ (n : Nat) (u many : Int), 0 ≤ u → u + n = M 1 i 0 10 → Post [xI (many + sf (nowed M i) u n)] M → WW 4 [some (xR 1 i 0), some (xI many), some (xI u)] [] M := by
  have hv7 : xval 7 i 0 := hv
  have hi := xv_film hv
  obtain ⟨⟨hc1, hc2, hc3, hc4, hc5⟩, hS, hK, hL, hU⟩ := hG
  intro n
  induction n with
  | zero =>
    intro u many h0 h1 h
    have e : u = M 1 i 0 10 := by omega
    have hr1 : XInR (M 1 i 0 10) := ⟨by omega, by omega⟩
    simp only [sf, Int.add_zero] at h
    subst e
    refine xru_ok hC [4] 40 _ _ _ _ ?_
    simp only [xkk_ap, Int.reduceEq, Int.reduceLT, Int.reduceLE, Int.reduceNeg, Int.reduceAdd, Int.reduceSub, Int.reduceMul, and_self, false_and, and_false, not_true_eq_false, not_false_eq_true, true_implies, false_implies, xq0, xq1, xq2, xq3, xq4, xq5, xqR, xq1R, xq3R, xt1, xt2, xt3, List.mem_cons, List.not_mem_nil, or_false, false_or, or_self, if_false, if_true, reduceIte, reduceCtorEq, xent, xen, List.length_cons, List.length_nil, List.replicate, j_c, j_cJ, j_ild, j_ald, j_lld, j_ist, j_ast, j_lst, j_inc, j_add, j_sub, j_mul, j_neg, j_div, j_rem, j_and, j_shr, j_shl1, j_or, j_ladd, j_lsub, j_lmul, j_i2l, j_lcmp, j_i2c, j_dup, j_dup2, j_pop, j_goto, j_ieq, j_ine, j_ilt, j_ige, j_igt, j_ile, j_eq, j_ne, j_lt, j_ge, j_gt, j_le, xsw, j_tsw, j_gI, j_gJ, j_gR, j_pI, j_pJ, j_gs, j_iald, j_iast, j_cald, j_cast, j_aald, j_cpy, j_min, j_max, j_abs, j_iret, j_zret, j_lret, j_dret, j_ret0, j_V0, j_V1, j_V2, j_V3, j_V4, j_V5, j_S1, j_S2, j_S3, xget, xset, xset2, xclr, xc1, xcat, Nat.reduceAdd, Nat.reduceEqDiff, Nat.reduceLT, Nat.reduceLeDiff, Nat.reduceMul, List.cons_append, List.nil_append, true_and, and_true, List.singleton_append, fX0_owed_0, fX0_owed_1, fX0_owed_2, fX0_owed_3, fX0_owed_4, fX0_owed_5, fX0_owed_6, fX0_owed_9, fX0_owed_12, fX0_owed_13, fX0_owed_14, fX0_owed_17, fX0_owed_18, fX0_owed_19, fX0_owed_22, fX0_owed_23, fX0_owed_24, fX0_owed_27, fX0_owed_30, fX0_owed_31, sX6_owed, hv, hr1, Int.le_refl]
    exact h
  | succ n ih =>
    intro u many h0 h1 h
    have hlt : u < M 1 i 0 10 := by omega
    have hge : ¬ M 1 i 0 10 ≤ u := by omega
    have hr1 : XInR (M 1 i 0 10) := ⟨by omega, by omega⟩
    have hr2 : XInR u := ⟨by omega, by omega⟩
    have hu : u < 12 := by omega
    have hvu : xval 14 i u := xv_of14 hi h0 hu
    have hn := fU_in hU (by decide) h0 hu
    simp only [sf] at h
    rw [← Int.add_assoc] at h
    have hb := ih (u + 1) (many + nowed M i u) (by omega) (by omega) h
    simp only [nowed] at hb
    refine xru_ok hC [4] 60 _ _ _ _ ?_
    simp only [xkk_ap, Int.reduceEq, Int.reduceLT, Int.reduceLE, Int.reduceNeg, Int.reduceAdd, Int.reduceSub, Int.reduceMul, and_self, false_and, and_false, not_true_eq_false, not_false_eq_true, true_implies, false_implies, xq0, xq1, xq2, xq3, xq4, xq5, xqR, xq1R, xq3R, xt1, xt2, xt3, List.mem_cons, List.not_mem_nil, or_false, false_or, or_self, if_false, if_true, reduceIte, reduceCtorEq, xent, xen, List.length_cons, List.length_nil, List.replicate, j_c, j_cJ, j_ild, j_ald, j_lld, j_ist, j_ast, j_lst, j_inc, j_add, j_sub, j_mul, j_neg, j_div, j_rem, j_and, j_shr, j_shl1, j_or, j_ladd, j_lsub, j_lmul, j_i2l, j_lcmp, j_i2c, j_dup, j_dup2, j_pop, j_goto, j_ieq, j_ine, j_ilt, j_ige, j_igt, j_ile, j_eq, j_ne, j_lt, j_ge, j_gt, j_le, xsw, j_tsw, j_gI, j_gJ, j_gR, j_pI, j_pJ, j_gs, j_iald, j_iast, j_cald, j_cast, j_aald, j_cpy, j_min, j_max, j_abs, j_iret, j_zret, j_lret, j_dret, j_ret0, j_V0, j_V1, j_V2, j_V3, j_V4, j_V5, j_S1, j_S2, j_S3, xget, xset, xset2, xclr, xc1, xcat, Nat.reduceAdd, Nat.reduceEqDiff, Nat.reduceLT, Nat.reduceLeDiff, Nat.reduceMul, List.cons_append, List.nil_append, true_and, and_true, List.singleton_append, fX0_owed_0, fX0_owed_1, fX0_owed_2, fX0_owed_3, fX0_owed_4, fX0_owed_5, fX0_owed_6, fX0_owed_9, fX0_owed_12, fX0_owed_13, fX0_owed_14, fX0_owed_17, fX0_owed_18, fX0_owed_19, fX0_owed_22, fX0_owed_23, fX0_owed_24, fX0_owed_27, fX0_owed_30, fX0_owed_31, sX6_owed, xr_c (n := 0) rfl, hv, hv7, hvu, hr1, hr2, h0, hu, hlt, hge, xcat, xc1, Nat.zero_le, Nat.reduceLeDiff, hn.1]
    exact hb
def tX0_owed (M : XM) (i : Int) : Int := sf (nowed M i) 0 (M 1 i 0 10).toNat
def sX0_owed : XSp := xq0 1 (fun i k M Q => fG M i ∧ Q [xI (tX0_owed M i)] M)
set_option maxRecDepth 100000 in
theorem kX0_owed : XCn yX0_owed wX0_owed rX0_owed sX0_owed := XC0 pX0_owed rfl rfl aX0_owed (by decide) (fun i k M Post hv h WW hC => by
  obtain rfl := xk1 hv
  obtain ⟨hG, h⟩ := h
  have hc := hG.1
  unfold fC at hc
  have hk := kX0_owed_loop hC hv hG (M 1 i 0 10).toNat 0 0 (by decide) (by omega) (by rw [Int.zero_add]; exact h)
  show WW 0 [some (xR 1 i 0), none, none] [] M
  refine xru_ok hC [4] 20 _ _ _ _ ?_
  simp only [xkk_ap, Int.reduceEq, Int.reduceLT, Int.reduceLE, Int.reduceNeg, Int.reduceAdd, Int.reduceSub, Int.reduceMul, and_self, false_and, and_false, not_true_eq_false, not_false_eq_true, true_implies, false_implies, xq0, xq1, xq2, xq3, xq4, xq5, xqR, xq1R, xq3R, xt1, xt2, xt3, List.mem_cons, List.not_mem_nil, or_false, false_or, or_self, if_false, if_true, reduceIte, reduceCtorEq, xent, xen, List.length_cons, List.length_nil, List.replicate, j_c, j_cJ, j_ild, j_ald, j_lld, j_ist, j_ast, j_lst, j_inc, j_add, j_sub, j_mul, j_neg, j_div, j_rem, j_and, j_shr, j_shl1, j_or, j_ladd, j_lsub, j_lmul, j_i2l, j_lcmp, j_i2c, j_dup, j_dup2, j_pop, j_goto, j_ieq, j_ine, j_ilt, j_ige, j_igt, j_ile, j_eq, j_ne, j_lt, j_ge, j_gt, j_le, xsw, j_tsw, j_gI, j_gJ, j_gR, j_pI, j_pJ, j_gs, j_iald, j_iast, j_cald, j_cast, j_aald, j_cpy, j_min, j_max, j_abs, j_iret, j_zret, j_lret, j_dret, j_ret0, j_V0, j_V1, j_V2, j_V3, j_V4, j_V5, j_S1, j_S2, j_S3, xget, xset, xset2, xclr, xc1, xcat, Nat.reduceAdd, Nat.reduceEqDiff, Nat.reduceLT, Nat.reduceLeDiff, Nat.reduceMul, List.cons_append, List.nil_append, true_and, and_true, List.singleton_append, fX0_owed_0, fX0_owed_1, fX0_owed_2, fX0_owed_3, fX0_owed_4, fX0_owed_5, fX0_owed_6, fX0_owed_9, fX0_owed_12, fX0_owed_13, fX0_owed_14, fX0_owed_17, fX0_owed_18, fX0_owed_19, fX0_owed_22, fX0_owed_23, fX0_owed_24, fX0_owed_27, fX0_owed_30, fX0_owed_31, sX6_owed, hv]
  exact hk)
def ncancelled (M : XM) (i : Int) : Int → Int := fun u => M 14 i u 11
/-- UnitKitchens$Film.cancelled()I -/
abbrev wX0_cancelled : List Cond := Cond.code yX0_cancelled cX0_cancelled 3 (some .int) :: xT
abbrev rX0_cancelled : Room := { frames := 0, cells := 0, slots := 0, locals := 0 }
def pX0_cancelled (Post : XPo) : List (Nat × XStp) := [(0, j_c 0 1), (1, j_ist 1 1), (2, j_c 0 1), (3, j_ist 2 1), (4, j_ild 2 1), (5, j_ald 0 1), (6, j_gI 1 10), (9, j_ige 30), (12, j_ild 1 1), (13, j_ald 0 1), (14, j_gR 1 (fun i k => (7, i, 0))), (17, j_ild 2 1), (18, j_aald), (19, j_gI 14 11), (22, j_add), (23, j_ist 1 1), (24, j_inc 2 1), (27, j_goto 4), (30, j_ild 1 1), (31, j_iret Post)]
set_option maxRecDepth 100000 in
theorem aX0_cancelled (Post : XPo) : XAll rX0_cancelled cX0_cancelled 3 RX0 wX0_cancelled (some .int) Post (pX0_cancelled Post) := XAll.cons (xs_iconst dX0_cancelled_0) (XAll.cons (xs_istore_n dX0_cancelled_1 rfl (by decide)) (XAll.cons (xs_iconst dX0_cancelled_2) (XAll.cons (xs_istore_n dX0_cancelled_3 rfl (by decide)) (XAll.cons (xs_iload_n dX0_cancelled_4 rfl) (XAll.cons (xs_aload_n dX0_cancelled_5 rfl) (XAll.cons (fgX0_10 tw_210 dX0_cancelled_6) (XAll.cons (xs_icmp_ge dX0_cancelled_9 (by decide)) (XAll.cons (xs_iload_n dX0_cancelled_12 rfl) (XAll.cons (xs_aload_n dX0_cancelled_13 rfl) (XAll.cons (fgX0_11 tw_212 dX0_cancelled_14) (XAll.cons (xs_iload_n dX0_cancelled_17 rfl) (XAll.cons (xs_aald dX0_cancelled_18) (XAll.cons (fgX6_11 tw_166 dX0_cancelled_19) (XAll.cons (xs_iadd dX0_cancelled_22) (XAll.cons (xs_istore_n dX0_cancelled_23 rfl (by decide)) (XAll.cons (xs_iinc dX0_cancelled_24 (by decide)) (XAll.cons (xs_goto dX0_cancelled_27 (by decide)) (XAll.cons (xs_iload_n dX0_cancelled_30 rfl) (XAll.cons (xs_iret rfl dX0_cancelled_31) (XAll.nil))))))))))))))))))))
theorem fX0_cancelled_0 (Post : XPo) (cut : List Nat) (WW : XK) (n : Nat) (L : XLs) (st : List XV) (M : XM) : xru (xlk (pX0_cancelled Post)) cut WW (n + 1) 0 L st M = j_c 0 1 0 L st M (xkk (xlk (pX0_cancelled Post)) cut WW n) := (rfl)
theorem fX0_cancelled_1 (Post : XPo) (cut : List Nat) (WW : XK) (n : Nat) (L : XLs) (st : List XV) (M : XM) : xru (xlk (pX0_cancelled Post)) cut WW (n + 1) 1 L st M = j_ist 1 1 1 L st M (xkk (xlk (pX0_cancelled Post)) cut WW n) := (rfl)
theorem fX0_cancelled_2 (Post : XPo) (cut : List Nat) (WW : XK) (n : Nat) (L : XLs) (st : List XV) (M : XM) : xru (xlk (pX0_cancelled Post)) cut WW (n + 1) 2 L st M = j_c 0 1 2 L st M (xkk (xlk (pX0_cancelled Post)) cut WW n) := (rfl)
theorem fX0_cancelled_3 (Post : XPo) (cut : List Nat) (WW : XK) (n : Nat) (L : XLs) (st : List XV) (M : XM) : xru (xlk (pX0_cancelled Post)) cut WW (n + 1) 3 L st M = j_ist 2 1 3 L st M (xkk (xlk (pX0_cancelled Post)) cut WW n) := (rfl)
theorem fX0_cancelled_4 (Post : XPo) (cut : List Nat) (WW : XK) (n : Nat) (L : XLs) (st : List XV) (M : XM) : xru (xlk (pX0_cancelled Post)) cut WW (n + 1) 4 L st M = j_ild 2 1 4 L st M (xkk (xlk (pX0_cancelled Post)) cut WW n) := (rfl)
theorem fX0_cancelled_5 (Post : XPo) (cut : List Nat) (WW : XK) (n : Nat) (L : XLs) (st : List XV) (M : XM) : xru (xlk (pX0_cancelled Post)) cut WW (n + 1) 5 L st M = j_ald 0 1 5 L st M (xkk (xlk (pX0_cancelled Post)) cut WW n) := (rfl)
theorem fX0_cancelled_6 (Post : XPo) (cut : List Nat) (WW : XK) (n : Nat) (L : XLs) (st : List XV) (M : XM) : xru (xlk (pX0_cancelled Post)) cut WW (n + 1) 6 L st M = j_gI 1 10 6 L st M (xkk (xlk (pX0_cancelled Post)) cut WW n) := (rfl)
theorem fX0_cancelled_9 (Post : XPo) (cut : List Nat) (WW : XK) (n : Nat) (L : XLs) (st : List XV) (M : XM) : xru (xlk (pX0_cancelled Post)) cut WW (n + 1) 9 L st M = j_ige 30 9 L st M (xkk (xlk (pX0_cancelled Post)) cut WW n) := (rfl)
theorem fX0_cancelled_12 (Post : XPo) (cut : List Nat) (WW : XK) (n : Nat) (L : XLs) (st : List XV) (M : XM) : xru (xlk (pX0_cancelled Post)) cut WW (n + 1) 12 L st M = j_ild 1 1 12 L st M (xkk (xlk (pX0_cancelled Post)) cut WW n) := (rfl)
theorem fX0_cancelled_13 (Post : XPo) (cut : List Nat) (WW : XK) (n : Nat) (L : XLs) (st : List XV) (M : XM) : xru (xlk (pX0_cancelled Post)) cut WW (n + 1) 13 L st M = j_ald 0 1 13 L st M (xkk (xlk (pX0_cancelled Post)) cut WW n) := (rfl)
theorem fX0_cancelled_14 (Post : XPo) (cut : List Nat) (WW : XK) (n : Nat) (L : XLs) (st : List XV) (M : XM) : xru (xlk (pX0_cancelled Post)) cut WW (n + 1) 14 L st M = j_gR 1 (fun i k => (7, i, 0)) 14 L st M (xkk (xlk (pX0_cancelled Post)) cut WW n) := (rfl)
theorem fX0_cancelled_17 (Post : XPo) (cut : List Nat) (WW : XK) (n : Nat) (L : XLs) (st : List XV) (M : XM) : xru (xlk (pX0_cancelled Post)) cut WW (n + 1) 17 L st M = j_ild 2 1 17 L st M (xkk (xlk (pX0_cancelled Post)) cut WW n) := (rfl)
theorem fX0_cancelled_18 (Post : XPo) (cut : List Nat) (WW : XK) (n : Nat) (L : XLs) (st : List XV) (M : XM) : xru (xlk (pX0_cancelled Post)) cut WW (n + 1) 18 L st M = j_aald 18 L st M (xkk (xlk (pX0_cancelled Post)) cut WW n) := (rfl)
theorem fX0_cancelled_19 (Post : XPo) (cut : List Nat) (WW : XK) (n : Nat) (L : XLs) (st : List XV) (M : XM) : xru (xlk (pX0_cancelled Post)) cut WW (n + 1) 19 L st M = j_gI 14 11 19 L st M (xkk (xlk (pX0_cancelled Post)) cut WW n) := (rfl)
theorem fX0_cancelled_22 (Post : XPo) (cut : List Nat) (WW : XK) (n : Nat) (L : XLs) (st : List XV) (M : XM) : xru (xlk (pX0_cancelled Post)) cut WW (n + 1) 22 L st M = j_add 22 L st M (xkk (xlk (pX0_cancelled Post)) cut WW n) := (rfl)
theorem fX0_cancelled_23 (Post : XPo) (cut : List Nat) (WW : XK) (n : Nat) (L : XLs) (st : List XV) (M : XM) : xru (xlk (pX0_cancelled Post)) cut WW (n + 1) 23 L st M = j_ist 1 1 23 L st M (xkk (xlk (pX0_cancelled Post)) cut WW n) := (rfl)
theorem fX0_cancelled_24 (Post : XPo) (cut : List Nat) (WW : XK) (n : Nat) (L : XLs) (st : List XV) (M : XM) : xru (xlk (pX0_cancelled Post)) cut WW (n + 1) 24 L st M = j_inc 2 1 24 L st M (xkk (xlk (pX0_cancelled Post)) cut WW n) := (rfl)
theorem fX0_cancelled_27 (Post : XPo) (cut : List Nat) (WW : XK) (n : Nat) (L : XLs) (st : List XV) (M : XM) : xru (xlk (pX0_cancelled Post)) cut WW (n + 1) 27 L st M = j_goto 4 27 L st M (xkk (xlk (pX0_cancelled Post)) cut WW n) := (rfl)
theorem fX0_cancelled_30 (Post : XPo) (cut : List Nat) (WW : XK) (n : Nat) (L : XLs) (st : List XV) (M : XM) : xru (xlk (pX0_cancelled Post)) cut WW (n + 1) 30 L st M = j_ild 1 1 30 L st M (xkk (xlk (pX0_cancelled Post)) cut WW n) := (rfl)
theorem fX0_cancelled_31 (Post : XPo) (cut : List Nat) (WW : XK) (n : Nat) (L : XLs) (st : List XV) (M : XM) : xru (xlk (pX0_cancelled Post)) cut WW (n + 1) 31 L st M = j_iret Post 31 L st M (xkk (xlk (pX0_cancelled Post)) cut WW n) := (rfl)
set_option maxRecDepth 100000 in
theorem kX0_cancelled_loop {Post : XPo} {WW : XK} (hC : XCl (xlk (pX0_cancelled Post)) WW) {M : XM} {i : Int} (hv : xval 1 i 0) (hG : fG M i) : ∀ (n : Nat) (u many : Int), 0 ≤ u → u + n = M 1 i 0 10 → Post [xI (many + sf (ncancelled M i) u n)] M → WW 4 [some (xR 1 i 0), some (xI many), some (xI u)] [] M := by
  have hv7 : xval 7 i 0 := hv
  have hi := xv_film hv
  obtain ⟨⟨hc1, hc2, hc3, hc4, hc5⟩, hS, hK, hL, hU⟩ := hG
  intro n
  induction n with
  | zero =>
    intro u many h0 h1 h
    have e : u = M 1 i 0 10 := by omega
    have hr1 : XInR (M 1 i 0 10) := ⟨by omega, by omega⟩
    simp only [sf, Int.add_zero] at h
    subst e
    refine xru_ok hC [4] 40 _ _ _ _ ?_
    simp only [xkk_ap, Int.reduceEq, Int.reduceLT, Int.reduceLE, Int.reduceNeg, Int.reduceAdd, Int.reduceSub, Int.reduceMul, and_self, false_and, and_false, not_true_eq_false, not_false_eq_true, true_implies, false_implies, xq0, xq1, xq2, xq3, xq4, xq5, xqR, xq1R, xq3R, xt1, xt2, xt3, List.mem_cons, List.not_mem_nil, or_false, false_or, or_self, if_false, if_true, reduceIte, reduceCtorEq, xent, xen, List.length_cons, List.length_nil, List.replicate, j_c, j_cJ, j_ild, j_ald, j_lld, j_ist, j_ast, j_lst, j_inc, j_add, j_sub, j_mul, j_neg, j_div, j_rem, j_and, j_shr, j_shl1, j_or, j_ladd, j_lsub, j_lmul, j_i2l, j_lcmp, j_i2c, j_dup, j_dup2, j_pop, j_goto, j_ieq, j_ine, j_ilt, j_ige, j_igt, j_ile, j_eq, j_ne, j_lt, j_ge, j_gt, j_le, xsw, j_tsw, j_gI, j_gJ, j_gR, j_pI, j_pJ, j_gs, j_iald, j_iast, j_cald, j_cast, j_aald, j_cpy, j_min, j_max, j_abs, j_iret, j_zret, j_lret, j_dret, j_ret0, j_V0, j_V1, j_V2, j_V3, j_V4, j_V5, j_S1, j_S2, j_S3, xget, xset, xset2, xclr, xc1, xcat, Nat.reduceAdd, Nat.reduceEqDiff, Nat.reduceLT, Nat.reduceLeDiff, Nat.reduceMul, List.cons_append, List.nil_append, true_and, and_true, List.singleton_append, fX0_cancelled_0, fX0_cancelled_1, fX0_cancelled_2, fX0_cancelled_3, fX0_cancelled_4, fX0_cancelled_5, fX0_cancelled_6, fX0_cancelled_9, fX0_cancelled_12, fX0_cancelled_13, fX0_cancelled_14, fX0_cancelled_17, fX0_cancelled_18, fX0_cancelled_19, fX0_cancelled_22, fX0_cancelled_23, fX0_cancelled_24, fX0_cancelled_27, fX0_cancelled_30, fX0_cancelled_31, hv, hr1, Int.le_refl]
    exact h
  | succ n ih =>
    intro u many h0 h1 h
    have hlt : u < M 1 i 0 10 := by omega
    have hge : ¬ M 1 i 0 10 ≤ u := by omega
    have hr1 : XInR (M 1 i 0 10) := ⟨by omega, by omega⟩
    have hr2 : XInR u := ⟨by omega, by omega⟩
    have hu : u < 12 := by omega
    have hvu : xval 14 i u := xv_of14 hi h0 hu
    have hn := fU_in hU (by decide) h0 hu
    simp only [sf] at h
    rw [← Int.add_assoc] at h
    have hb := ih (u + 1) (many + ncancelled M i u) (by omega) (by omega) h
    simp only [ncancelled] at hb
    refine xru_ok hC [4] 60 _ _ _ _ ?_
    simp only [xkk_ap, Int.reduceEq, Int.reduceLT, Int.reduceLE, Int.reduceNeg, Int.reduceAdd, Int.reduceSub, Int.reduceMul, and_self, false_and, and_false, not_true_eq_false, not_false_eq_true, true_implies, false_implies, xq0, xq1, xq2, xq3, xq4, xq5, xqR, xq1R, xq3R, xt1, xt2, xt3, List.mem_cons, List.not_mem_nil, or_false, false_or, or_self, if_false, if_true, reduceIte, reduceCtorEq, xent, xen, List.length_cons, List.length_nil, List.replicate, j_c, j_cJ, j_ild, j_ald, j_lld, j_ist, j_ast, j_lst, j_inc, j_add, j_sub, j_mul, j_neg, j_div, j_rem, j_and, j_shr, j_shl1, j_or, j_ladd, j_lsub, j_lmul, j_i2l, j_lcmp, j_i2c, j_dup, j_dup2, j_pop, j_goto, j_ieq, j_ine, j_ilt, j_ige, j_igt, j_ile, j_eq, j_ne, j_lt, j_ge, j_gt, j_le, xsw, j_tsw, j_gI, j_gJ, j_gR, j_pI, j_pJ, j_gs, j_iald, j_iast, j_cald, j_cast, j_aald, j_cpy, j_min, j_max, j_abs, j_iret, j_zret, j_lret, j_dret, j_ret0, j_V0, j_V1, j_V2, j_V3, j_V4, j_V5, j_S1, j_S2, j_S3, xget, xset, xset2, xclr, xc1, xcat, Nat.reduceAdd, Nat.reduceEqDiff, Nat.reduceLT, Nat.reduceLeDiff, Nat.reduceMul, List.cons_append, List.nil_append, true_and, and_true, List.singleton_append, fX0_cancelled_0, fX0_cancelled_1, fX0_cancelled_2, fX0_cancelled_3, fX0_cancelled_4, fX0_cancelled_5, fX0_cancelled_6, fX0_cancelled_9, fX0_cancelled_12, fX0_cancelled_13, fX0_cancelled_14, fX0_cancelled_17, fX0_cancelled_18, fX0_cancelled_19, fX0_cancelled_22, fX0_cancelled_23, fX0_cancelled_24, fX0_cancelled_27, fX0_cancelled_30, fX0_cancelled_31, xr_c (n := 0) rfl, hv, hv7, hvu, hr1, hr2, h0, hu, hlt, hge, xcat, xc1, Nat.zero_le, Nat.reduceLeDiff, hn.1]
    exact hb
def tX0_cancelled (M : XM) (i : Int) : Int := sf (ncancelled M i) 0 (M 1 i 0 10).toNat
def sX0_cancelled : XSp := xq0 1 (fun i k M Q => fG M i ∧ Q [xI (tX0_cancelled M i)] M)
set_option maxRecDepth 100000 in
theorem kX0_cancelled : XCn yX0_cancelled wX0_cancelled rX0_cancelled sX0_cancelled := XC0 pX0_cancelled rfl rfl aX0_cancelled (by decide) (fun i k M Post hv h WW hC => by
  obtain rfl := xk1 hv
  obtain ⟨hG, h⟩ := h
  have hc := hG.1
  unfold fC at hc
  have hk := kX0_cancelled_loop hC hv hG (M 1 i 0 10).toNat 0 0 (by decide) (by omega) (by rw [Int.zero_add]; exact h)
  show WW 0 [some (xR 1 i 0), none, none] [] M
  refine xru_ok hC [4] 20 _ _ _ _ ?_
  simp only [xkk_ap, Int.reduceEq, Int.reduceLT, Int.reduceLE, Int.reduceNeg, Int.reduceAdd, Int.reduceSub, Int.reduceMul, and_self, false_and, and_false, not_true_eq_false, not_false_eq_true, true_implies, false_implies, xq0, xq1, xq2, xq3, xq4, xq5, xqR, xq1R, xq3R, xt1, xt2, xt3, List.mem_cons, List.not_mem_nil, or_false, false_or, or_self, if_false, if_true, reduceIte, reduceCtorEq, xent, xen, List.length_cons, List.length_nil, List.replicate, j_c, j_cJ, j_ild, j_ald, j_lld, j_ist, j_ast, j_lst, j_inc, j_add, j_sub, j_mul, j_neg, j_div, j_rem, j_and, j_shr, j_shl1, j_or, j_ladd, j_lsub, j_lmul, j_i2l, j_lcmp, j_i2c, j_dup, j_dup2, j_pop, j_goto, j_ieq, j_ine, j_ilt, j_ige, j_igt, j_ile, j_eq, j_ne, j_lt, j_ge, j_gt, j_le, xsw, j_tsw, j_gI, j_gJ, j_gR, j_pI, j_pJ, j_gs, j_iald, j_iast, j_cald, j_cast, j_aald, j_cpy, j_min, j_max, j_abs, j_iret, j_zret, j_lret, j_dret, j_ret0, j_V0, j_V1, j_V2, j_V3, j_V4, j_V5, j_S1, j_S2, j_S3, xget, xset, xset2, xclr, xc1, xcat, Nat.reduceAdd, Nat.reduceEqDiff, Nat.reduceLT, Nat.reduceLeDiff, Nat.reduceMul, List.cons_append, List.nil_append, true_and, and_true, List.singleton_append, fX0_cancelled_0, fX0_cancelled_1, fX0_cancelled_2, fX0_cancelled_3, fX0_cancelled_4, fX0_cancelled_5, fX0_cancelled_6, fX0_cancelled_9, fX0_cancelled_12, fX0_cancelled_13, fX0_cancelled_14, fX0_cancelled_17, fX0_cancelled_18, fX0_cancelled_19, fX0_cancelled_22, fX0_cancelled_23, fX0_cancelled_24, fX0_cancelled_27, fX0_cancelled_30, fX0_cancelled_31, hv]
  exact hk)
def npenalties (M : XM) (i : Int) : Int → Int := fun u => M 14 i u 10
/-- UnitKitchens$Film.penalties()I -/
abbrev wX0_penalties : List Cond := Cond.code yX0_penalties cX0_penalties 3 (some .int) :: xT
abbrev rX0_penalties : Room := { frames := 0, cells := 0, slots := 0, locals := 0 }
def pX0_penalties (Post : XPo) : List (Nat × XStp) := [(0, j_c 0 1), (1, j_ist 1 1), (2, j_c 0 1), (3, j_ist 2 1), (4, j_ild 2 1), (5, j_ald 0 1), (6, j_gI 1 10), (9, j_ige 30), (12, j_ild 1 1), (13, j_ald 0 1), (14, j_gR 1 (fun i k => (7, i, 0))), (17, j_ild 2 1), (18, j_aald), (19, j_gI 14 10), (22, j_add), (23, j_ist 1 1), (24, j_inc 2 1), (27, j_goto 4), (30, j_ild 1 1), (31, j_iret Post)]
set_option maxRecDepth 100000 in
theorem aX0_penalties (Post : XPo) : XAll rX0_penalties cX0_penalties 3 RX0 wX0_penalties (some .int) Post (pX0_penalties Post) := XAll.cons (xs_iconst dX0_penalties_0) (XAll.cons (xs_istore_n dX0_penalties_1 rfl (by decide)) (XAll.cons (xs_iconst dX0_penalties_2) (XAll.cons (xs_istore_n dX0_penalties_3 rfl (by decide)) (XAll.cons (xs_iload_n dX0_penalties_4 rfl) (XAll.cons (xs_aload_n dX0_penalties_5 rfl) (XAll.cons (fgX0_10 tw_210 dX0_penalties_6) (XAll.cons (xs_icmp_ge dX0_penalties_9 (by decide)) (XAll.cons (xs_iload_n dX0_penalties_12 rfl) (XAll.cons (xs_aload_n dX0_penalties_13 rfl) (XAll.cons (fgX0_11 tw_212 dX0_penalties_14) (XAll.cons (xs_iload_n dX0_penalties_17 rfl) (XAll.cons (xs_aald dX0_penalties_18) (XAll.cons (fgX6_10 tw_163 dX0_penalties_19) (XAll.cons (xs_iadd dX0_penalties_22) (XAll.cons (xs_istore_n dX0_penalties_23 rfl (by decide)) (XAll.cons (xs_iinc dX0_penalties_24 (by decide)) (XAll.cons (xs_goto dX0_penalties_27 (by decide)) (XAll.cons (xs_iload_n dX0_penalties_30 rfl) (XAll.cons (xs_iret rfl dX0_penalties_31) (XAll.nil))))))))))))))))))))
theorem fX0_penalties_0 (Post : XPo) (cut : List Nat) (WW : XK) (n : Nat) (L : XLs) (st : List XV) (M : XM) : xru (xlk (pX0_penalties Post)) cut WW (n + 1) 0 L st M = j_c 0 1 0 L st M (xkk (xlk (pX0_penalties Post)) cut WW n) := (rfl)
theorem fX0_penalties_1 (Post : XPo) (cut : List Nat) (WW : XK) (n : Nat) (L : XLs) (st : List XV) (M : XM) : xru (xlk (pX0_penalties Post)) cut WW (n + 1) 1 L st M = j_ist 1 1 1 L st M (xkk (xlk (pX0_penalties Post)) cut WW n) := (rfl)
theorem fX0_penalties_2 (Post : XPo) (cut : List Nat) (WW : XK) (n : Nat) (L : XLs) (st : List XV) (M : XM) : xru (xlk (pX0_penalties Post)) cut WW (n + 1) 2 L st M = j_c 0 1 2 L st M (xkk (xlk (pX0_penalties Post)) cut WW n) := (rfl)
theorem fX0_penalties_3 (Post : XPo) (cut : List Nat) (WW : XK) (n : Nat) (L : XLs) (st : List XV) (M : XM) : xru (xlk (pX0_penalties Post)) cut WW (n + 1) 3 L st M = j_ist 2 1 3 L st M (xkk (xlk (pX0_penalties Post)) cut WW n) := (rfl)
theorem fX0_penalties_4 (Post : XPo) (cut : List Nat) (WW : XK) (n : Nat) (L : XLs) (st : List XV) (M : XM) : xru (xlk (pX0_penalties Post)) cut WW (n + 1) 4 L st M = j_ild 2 1 4 L st M (xkk (xlk (pX0_penalties Post)) cut WW n) := (rfl)
theorem fX0_penalties_5 (Post : XPo) (cut : List Nat) (WW : XK) (n : Nat) (L : XLs) (st : List XV) (M : XM) : xru (xlk (pX0_penalties Post)) cut WW (n + 1) 5 L st M = j_ald 0 1 5 L st M (xkk (xlk (pX0_penalties Post)) cut WW n) := (rfl)
theorem fX0_penalties_6 (Post : XPo) (cut : List Nat) (WW : XK) (n : Nat) (L : XLs) (st : List XV) (M : XM) : xru (xlk (pX0_penalties Post)) cut WW (n + 1) 6 L st M = j_gI 1 10 6 L st M (xkk (xlk (pX0_penalties Post)) cut WW n) := (rfl)
theorem fX0_penalties_9 (Post : XPo) (cut : List Nat) (WW : XK) (n : Nat) (L : XLs) (st : List XV) (M : XM) : xru (xlk (pX0_penalties Post)) cut WW (n + 1) 9 L st M = j_ige 30 9 L st M (xkk (xlk (pX0_penalties Post)) cut WW n) := (rfl)
theorem fX0_penalties_12 (Post : XPo) (cut : List Nat) (WW : XK) (n : Nat) (L : XLs) (st : List XV) (M : XM) : xru (xlk (pX0_penalties Post)) cut WW (n + 1) 12 L st M = j_ild 1 1 12 L st M (xkk (xlk (pX0_penalties Post)) cut WW n) := (rfl)
theorem fX0_penalties_13 (Post : XPo) (cut : List Nat) (WW : XK) (n : Nat) (L : XLs) (st : List XV) (M : XM) : xru (xlk (pX0_penalties Post)) cut WW (n + 1) 13 L st M = j_ald 0 1 13 L st M (xkk (xlk (pX0_penalties Post)) cut WW n) := (rfl)
theorem fX0_penalties_14 (Post : XPo) (cut : List Nat) (WW : XK) (n : Nat) (L : XLs) (st : List XV) (M : XM) : xru (xlk (pX0_penalties Post)) cut WW (n + 1) 14 L st M = j_gR 1 (fun i k => (7, i, 0)) 14 L st M (xkk (xlk (pX0_penalties Post)) cut WW n) := (rfl)
theorem fX0_penalties_17 (Post : XPo) (cut : List Nat) (WW : XK) (n : Nat) (L : XLs) (st : List XV) (M : XM) : xru (xlk (pX0_penalties Post)) cut WW (n + 1) 17 L st M = j_ild 2 1 17 L st M (xkk (xlk (pX0_penalties Post)) cut WW n) := (rfl)
theorem fX0_penalties_18 (Post : XPo) (cut : List Nat) (WW : XK) (n : Nat) (L : XLs) (st : List XV) (M : XM) : xru (xlk (pX0_penalties Post)) cut WW (n + 1) 18 L st M = j_aald 18 L st M (xkk (xlk (pX0_penalties Post)) cut WW n) := (rfl)
theorem fX0_penalties_19 (Post : XPo) (cut : List Nat) (WW : XK) (n : Nat) (L : XLs) (st : List XV) (M : XM) : xru (xlk (pX0_penalties Post)) cut WW (n + 1) 19 L st M = j_gI 14 10 19 L st M (xkk (xlk (pX0_penalties Post)) cut WW n) := (rfl)
theorem fX0_penalties_22 (Post : XPo) (cut : List Nat) (WW : XK) (n : Nat) (L : XLs) (st : List XV) (M : XM) : xru (xlk (pX0_penalties Post)) cut WW (n + 1) 22 L st M = j_add 22 L st M (xkk (xlk (pX0_penalties Post)) cut WW n) := (rfl)
theorem fX0_penalties_23 (Post : XPo) (cut : List Nat) (WW : XK) (n : Nat) (L : XLs) (st : List XV) (M : XM) : xru (xlk (pX0_penalties Post)) cut WW (n + 1) 23 L st M = j_ist 1 1 23 L st M (xkk (xlk (pX0_penalties Post)) cut WW n) := (rfl)
theorem fX0_penalties_24 (Post : XPo) (cut : List Nat) (WW : XK) (n : Nat) (L : XLs) (st : List XV) (M : XM) : xru (xlk (pX0_penalties Post)) cut WW (n + 1) 24 L st M = j_inc 2 1 24 L st M (xkk (xlk (pX0_penalties Post)) cut WW n) := (rfl)
theorem fX0_penalties_27 (Post : XPo) (cut : List Nat) (WW : XK) (n : Nat) (L : XLs) (st : List XV) (M : XM) : xru (xlk (pX0_penalties Post)) cut WW (n + 1) 27 L st M = j_goto 4 27 L st M (xkk (xlk (pX0_penalties Post)) cut WW n) := (rfl)
theorem fX0_penalties_30 (Post : XPo) (cut : List Nat) (WW : XK) (n : Nat) (L : XLs) (st : List XV) (M : XM) : xru (xlk (pX0_penalties Post)) cut WW (n + 1) 30 L st M = j_ild 1 1 30 L st M (xkk (xlk (pX0_penalties Post)) cut WW n) := (rfl)
theorem fX0_penalties_31 (Post : XPo) (cut : List Nat) (WW : XK) (n : Nat) (L : XLs) (st : List XV) (M : XM) : xru (xlk (pX0_penalties Post)) cut WW (n + 1) 31 L st M = j_iret Post 31 L st M (xkk (xlk (pX0_penalties Post)) cut WW n) := (rfl)
set_option maxRecDepth 100000 in
theorem kX0_penalties_loop {Post : XPo} {WW : XK} (hC : XCl (xlk (pX0_penalties Post)) WW) {M : XM} {i : Int} (hv : xval 1 i 0) (hG : fG M i) : ∀ (n : Nat) (u many : Int), 0 ≤ u → u + n = M 1 i 0 10 → Post [xI (many + sf (npenalties M i) u n)] M → WW 4 [some (xR 1 i 0), some (xI many), some (xI u)] [] M := by
  have hv7 : xval 7 i 0 := hv
  have hi := xv_film hv
  obtain ⟨⟨hc1, hc2, hc3, hc4, hc5⟩, hS, hK, hL, hU⟩ := hG
  intro n
  induction n with
  | zero =>
    intro u many h0 h1 h
    have e : u = M 1 i 0 10 := by omega
    have hr1 : XInR (M 1 i 0 10) := ⟨by omega, by omega⟩
    simp only [sf, Int.add_zero] at h
    subst e
    refine xru_ok hC [4] 40 _ _ _ _ ?_
    simp only [xkk_ap, Int.reduceEq, Int.reduceLT, Int.reduceLE, Int.reduceNeg, Int.reduceAdd, Int.reduceSub, Int.reduceMul, and_self, false_and, and_false, not_true_eq_false, not_false_eq_true, true_implies, false_implies, xq0, xq1, xq2, xq3, xq4, xq5, xqR, xq1R, xq3R, xt1, xt2, xt3, List.mem_cons, List.not_mem_nil, or_false, false_or, or_self, if_false, if_true, reduceIte, reduceCtorEq, xent, xen, List.length_cons, List.length_nil, List.replicate, j_c, j_cJ, j_ild, j_ald, j_lld, j_ist, j_ast, j_lst, j_inc, j_add, j_sub, j_mul, j_neg, j_div, j_rem, j_and, j_shr, j_shl1, j_or, j_ladd, j_lsub, j_lmul, j_i2l, j_lcmp, j_i2c, j_dup, j_dup2, j_pop, j_goto, j_ieq, j_ine, j_ilt, j_ige, j_igt, j_ile, j_eq, j_ne, j_lt, j_ge, j_gt, j_le, xsw, j_tsw, j_gI, j_gJ, j_gR, j_pI, j_pJ, j_gs, j_iald, j_iast, j_cald, j_cast, j_aald, j_cpy, j_min, j_max, j_abs, j_iret, j_zret, j_lret, j_dret, j_ret0, j_V0, j_V1, j_V2, j_V3, j_V4, j_V5, j_S1, j_S2, j_S3, xget, xset, xset2, xclr, xc1, xcat, Nat.reduceAdd, Nat.reduceEqDiff, Nat.reduceLT, Nat.reduceLeDiff, Nat.reduceMul, List.cons_append, List.nil_append, true_and, and_true, List.singleton_append, fX0_penalties_0, fX0_penalties_1, fX0_penalties_2, fX0_penalties_3, fX0_penalties_4, fX0_penalties_5, fX0_penalties_6, fX0_penalties_9, fX0_penalties_12, fX0_penalties_13, fX0_penalties_14, fX0_penalties_17, fX0_penalties_18, fX0_penalties_19, fX0_penalties_22, fX0_penalties_23, fX0_penalties_24, fX0_penalties_27, fX0_penalties_30, fX0_penalties_31, hv, hr1, Int.le_refl]
    exact h
  | succ n ih =>
    intro u many h0 h1 h
    have hlt : u < M 1 i 0 10 := by omega
    have hge : ¬ M 1 i 0 10 ≤ u := by omega
    have hr1 : XInR (M 1 i 0 10) := ⟨by omega, by omega⟩
    have hr2 : XInR u := ⟨by omega, by omega⟩
    have hu : u < 12 := by omega
    have hvu : xval 14 i u := xv_of14 hi h0 hu
    have hn := fU_in hU (by decide) h0 hu
    simp only [sf] at h
    rw [← Int.add_assoc] at h
    have hb := ih (u + 1) (many + npenalties M i u) (by omega) (by omega) h
    simp only [npenalties] at hb
    refine xru_ok hC [4] 60 _ _ _ _ ?_
    simp only [xkk_ap, Int.reduceEq, Int.reduceLT, Int.reduceLE, Int.reduceNeg, Int.reduceAdd, Int.reduceSub, Int.reduceMul, and_self, false_and, and_false, not_true_eq_false, not_false_eq_true, true_implies, false_implies, xq0, xq1, xq2, xq3, xq4, xq5, xqR, xq1R, xq3R, xt1, xt2, xt3, List.mem_cons, List.not_mem_nil, or_false, false_or, or_self, if_false, if_true, reduceIte, reduceCtorEq, xent, xen, List.length_cons, List.length_nil, List.replicate, j_c, j_cJ, j_ild, j_ald, j_lld, j_ist, j_ast, j_lst, j_inc, j_add, j_sub, j_mul, j_neg, j_div, j_rem, j_and, j_shr, j_shl1, j_or, j_ladd, j_lsub, j_lmul, j_i2l, j_lcmp, j_i2c, j_dup, j_dup2, j_pop, j_goto, j_ieq, j_ine, j_ilt, j_ige, j_igt, j_ile, j_eq, j_ne, j_lt, j_ge, j_gt, j_le, xsw, j_tsw, j_gI, j_gJ, j_gR, j_pI, j_pJ, j_gs, j_iald, j_iast, j_cald, j_cast, j_aald, j_cpy, j_min, j_max, j_abs, j_iret, j_zret, j_lret, j_dret, j_ret0, j_V0, j_V1, j_V2, j_V3, j_V4, j_V5, j_S1, j_S2, j_S3, xget, xset, xset2, xclr, xc1, xcat, Nat.reduceAdd, Nat.reduceEqDiff, Nat.reduceLT, Nat.reduceLeDiff, Nat.reduceMul, List.cons_append, List.nil_append, true_and, and_true, List.singleton_append, fX0_penalties_0, fX0_penalties_1, fX0_penalties_2, fX0_penalties_3, fX0_penalties_4, fX0_penalties_5, fX0_penalties_6, fX0_penalties_9, fX0_penalties_12, fX0_penalties_13, fX0_penalties_14, fX0_penalties_17, fX0_penalties_18, fX0_penalties_19, fX0_penalties_22, fX0_penalties_23, fX0_penalties_24, fX0_penalties_27, fX0_penalties_30, fX0_penalties_31, xr_c (n := 0) rfl, hv, hv7, hvu, hr1, hr2, h0, hu, hlt, hge, xcat, xc1, Nat.zero_le, Nat.reduceLeDiff, hn.1]
    exact hb
def tX0_penalties (M : XM) (i : Int) : Int := sf (npenalties M i) 0 (M 1 i 0 10).toNat
def sX0_penalties : XSp := xq0 1 (fun i k M Q => fG M i ∧ Q [xI (tX0_penalties M i)] M)
set_option maxRecDepth 100000 in
theorem kX0_penalties : XCn yX0_penalties wX0_penalties rX0_penalties sX0_penalties := XC0 pX0_penalties rfl rfl aX0_penalties (by decide) (fun i k M Post hv h WW hC => by
  obtain rfl := xk1 hv
  obtain ⟨hG, h⟩ := h
  have hc := hG.1
  unfold fC at hc
  have hk := kX0_penalties_loop hC hv hG (M 1 i 0 10).toNat 0 0 (by decide) (by omega) (by rw [Int.zero_add]; exact h)
  show WW 0 [some (xR 1 i 0), none, none] [] M
  refine xru_ok hC [4] 20 _ _ _ _ ?_
  simp only [xkk_ap, Int.reduceEq, Int.reduceLT, Int.reduceLE, Int.reduceNeg, Int.reduceAdd, Int.reduceSub, Int.reduceMul, and_self, false_and, and_false, not_true_eq_false, not_false_eq_true, true_implies, false_implies, xq0, xq1, xq2, xq3, xq4, xq5, xqR, xq1R, xq3R, xt1, xt2, xt3, List.mem_cons, List.not_mem_nil, or_false, false_or, or_self, if_false, if_true, reduceIte, reduceCtorEq, xent, xen, List.length_cons, List.length_nil, List.replicate, j_c, j_cJ, j_ild, j_ald, j_lld, j_ist, j_ast, j_lst, j_inc, j_add, j_sub, j_mul, j_neg, j_div, j_rem, j_and, j_shr, j_shl1, j_or, j_ladd, j_lsub, j_lmul, j_i2l, j_lcmp, j_i2c, j_dup, j_dup2, j_pop, j_goto, j_ieq, j_ine, j_ilt, j_ige, j_igt, j_ile, j_eq, j_ne, j_lt, j_ge, j_gt, j_le, xsw, j_tsw, j_gI, j_gJ, j_gR, j_pI, j_pJ, j_gs, j_iald, j_iast, j_cald, j_cast, j_aald, j_cpy, j_min, j_max, j_abs, j_iret, j_zret, j_lret, j_dret, j_ret0, j_V0, j_V1, j_V2, j_V3, j_V4, j_V5, j_S1, j_S2, j_S3, xget, xset, xset2, xclr, xc1, xcat, Nat.reduceAdd, Nat.reduceEqDiff, Nat.reduceLT, Nat.reduceLeDiff, Nat.reduceMul, List.cons_append, List.nil_append, true_and, and_true, List.singleton_append, fX0_penalties_0, fX0_penalties_1, fX0_penalties_2, fX0_penalties_3, fX0_penalties_4, fX0_penalties_5, fX0_penalties_6, fX0_penalties_9, fX0_penalties_12, fX0_penalties_13, fX0_penalties_14, fX0_penalties_17, fX0_penalties_18, fX0_penalties_19, fX0_penalties_22, fX0_penalties_23, fX0_penalties_24, fX0_penalties_27, fX0_penalties_30, fX0_penalties_31, hv]
  exact hk)
end XFi

